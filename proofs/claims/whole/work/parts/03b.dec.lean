theorem dX9_init_0 : decode cX9_init 0 = .ok (.aload_n 0, 1) := by decide +kernel
theorem dX9_init_1 : decode cX9_init 1 = .ok (.invokespecial 3, 3) := by decide +kernel
theorem dX9_init_4 : decode cX9_init 4 = .ok (.aload_n 0, 1) := by decide +kernel
theorem dX9_init_5 : decode cX9_init 5 = .ok (.new 9, 3) := by decide +kernel
theorem dX9_init_8 : decode cX9_init 8 = .ok (.dup, 1) := by decide +kernel
theorem dX9_init_9 : decode cX9_init 9 = .ok (.invokespecial 11, 3) := by decide +kernel
theorem dX9_init_12 : decode cX9_init 12 = .ok (.putfield 12, 3) := by decide +kernel
theorem dX9_init_15 : decode cX9_init 15 = .ok (.aload_n 0, 1) := by decide +kernel
theorem dX9_init_16 : decode cX9_init 16 = .ok (.new 16, 3) := by decide +kernel
theorem dX9_init_19 : decode cX9_init 19 = .ok (.dup, 1) := by decide +kernel
theorem dX9_init_20 : decode cX9_init 20 = .ok (.invokespecial 18, 3) := by decide +kernel
theorem dX9_init_23 : decode cX9_init 23 = .ok (.putfield 19, 3) := by decide +kernel
theorem dX9_init_26 : decode cX9_init 26 = .ok (.aload_n 0, 1) := by decide +kernel
theorem dX9_init_27 : decode cX9_init 27 = .ok (.new 23, 3) := by decide +kernel
theorem dX9_init_30 : decode cX9_init 30 = .ok (.dup, 1) := by decide +kernel
theorem dX9_init_31 : decode cX9_init 31 = .ok (.invokespecial 25, 3) := by decide +kernel
theorem dX9_init_34 : decode cX9_init 34 = .ok (.putfield 26, 3) := by decide +kernel
theorem dX9_init_37 : decode cX9_init 37 = .ok (.aload_n 0, 1) := by decide +kernel
theorem dX9_init_38 : decode cX9_init 38 = .ok (.new 30, 3) := by decide +kernel
theorem dX9_init_41 : decode cX9_init 41 = .ok (.dup, 1) := by decide +kernel
theorem dX9_init_42 : decode cX9_init 42 = .ok (.invokespecial 32, 3) := by decide +kernel
theorem dX9_init_45 : decode cX9_init 45 = .ok (.putfield 33, 3) := by decide +kernel
theorem dX9_init_48 : decode cX9_init 48 = .ok (.aload_n 0, 1) := by decide +kernel
theorem dX9_init_49 : decode cX9_init 49 = .ok (.new 37, 3) := by decide +kernel
theorem dX9_init_52 : decode cX9_init 52 = .ok (.dup, 1) := by decide +kernel
theorem dX9_init_53 : decode cX9_init 53 = .ok (.invokespecial 39, 3) := by decide +kernel
theorem dX9_init_56 : decode cX9_init 56 = .ok (.putfield 40, 3) := by decide +kernel
theorem dX9_init_59 : decode cX9_init 59 = .ok (.aload_n 0, 1) := by decide +kernel
theorem dX9_init_60 : decode cX9_init 60 = .ok (.new 44, 3) := by decide +kernel
theorem dX9_init_63 : decode cX9_init 63 = .ok (.dup, 1) := by decide +kernel
theorem dX9_init_64 : decode cX9_init 64 = .ok (.invokespecial 46, 3) := by decide +kernel
theorem dX9_init_67 : decode cX9_init 67 = .ok (.putfield 47, 3) := by decide +kernel
theorem dX9_init_70 : decode cX9_init 70 = .ok (.aload_n 0, 1) := by decide +kernel
theorem dX9_init_71 : decode cX9_init 71 = .ok (.new 51, 3) := by decide +kernel
theorem dX9_init_74 : decode cX9_init 74 = .ok (.dup, 1) := by decide +kernel
theorem dX9_init_75 : decode cX9_init 75 = .ok (.invokespecial 53, 3) := by decide +kernel
theorem dX9_init_78 : decode cX9_init 78 = .ok (.putfield 54, 3) := by decide +kernel
theorem dX9_init_81 : decode cX9_init 81 = .ok (.aload_n 0, 1) := by decide +kernel
theorem dX9_init_82 : decode cX9_init 82 = .ok (.iconst (-1), 1) := by decide +kernel
theorem dX9_init_83 : decode cX9_init 83 = .ok (.putfield 58, 3) := by decide +kernel
theorem dX9_init_86 : decode cX9_init 86 = .ok (.return_, 1) := by decide +kernel
theorem dX9_append_0 : decode cX9_append 0 = .ok (.aload_n 0, 1) := by decide +kernel
theorem dX9_append_1 : decode cX9_append 1 = .ok (.getfield 26, 3) := by decide +kernel
theorem dX9_append_4 : decode cX9_append 4 = .ok (.bipush 20, 2) := by decide +kernel
theorem dX9_append_6 : decode cX9_append 6 = .ok (.invokevirtual 62, 3) := by decide +kernel
theorem dX9_append_9 : decode cX9_append 9 = .ok (.ifCond .ne 13, 3) := by decide +kernel
theorem dX9_append_12 : decode cX9_append 12 = .ok (.new 66, 3) := by decide +kernel
theorem dX9_append_15 : decode cX9_append 15 = .ok (.dup, 1) := by decide +kernel
theorem dX9_append_16 : decode cX9_append 16 = .ok (.ldc 68, 2) := by decide +kernel
theorem dX9_append_18 : decode cX9_append 18 = .ok (.invokespecial 70, 3) := by decide +kernel
theorem dX9_append_21 : decode cX9_append 21 = .ok (.athrow, 1) := by decide +kernel
theorem dX9_append_22 : decode cX9_append 22 = .ok (.aload_n 0, 1) := by decide +kernel
theorem dX9_append_23 : decode cX9_append 23 = .ok (.getfield 26, 3) := by decide +kernel
theorem dX9_append_26 : decode cX9_append 26 = .ok (.iload_n 1, 1) := by decide +kernel
theorem dX9_append_27 : decode cX9_append 27 = .ok (.invokevirtual 73, 3) := by decide +kernel
theorem dX9_append_30 : decode cX9_append 30 = .ok (.aload_n 0, 1) := by decide +kernel
theorem dX9_append_31 : decode cX9_append 31 = .ok (.getfield 26, 3) := by decide +kernel
theorem dX9_append_34 : decode cX9_append 34 = .ok (.iload_n 2, 1) := by decide +kernel
theorem dX9_append_35 : decode cX9_append 35 = .ok (.invokevirtual 73, 3) := by decide +kernel
theorem dX9_append_38 : decode cX9_append 38 = .ok (.aload_n 0, 1) := by decide +kernel
theorem dX9_append_39 : decode cX9_append 39 = .ok (.getfield 26, 3) := by decide +kernel
theorem dX9_append_42 : decode cX9_append 42 = .ok (.iload_n 3, 1) := by decide +kernel
theorem dX9_append_43 : decode cX9_append 43 = .ok (.invokevirtual 73, 3) := by decide +kernel
theorem dX9_append_46 : decode cX9_append 46 = .ok (.aload_n 0, 1) := by decide +kernel
theorem dX9_append_47 : decode cX9_append 47 = .ok (.getfield 26, 3) := by decide +kernel
theorem dX9_append_50 : decode cX9_append 50 = .ok (.iload 4, 2) := by decide +kernel
theorem dX9_append_52 : decode cX9_append 52 = .ok (.invokevirtual 73, 3) := by decide +kernel
theorem dX9_append_55 : decode cX9_append 55 = .ok (.aload_n 0, 1) := by decide +kernel
theorem dX9_append_56 : decode cX9_append 56 = .ok (.getfield 26, 3) := by decide +kernel
theorem dX9_append_59 : decode cX9_append 59 = .ok (.iload 5, 2) := by decide +kernel
theorem dX9_append_61 : decode cX9_append 61 = .ok (.invokevirtual 73, 3) := by decide +kernel
theorem dX9_append_64 : decode cX9_append 64 = .ok (.aload_n 0, 1) := by decide +kernel
theorem dX9_append_65 : decode cX9_append 65 = .ok (.getfield 26, 3) := by decide +kernel
theorem dX9_append_68 : decode cX9_append 68 = .ok (.getfield 77, 3) := by decide +kernel
theorem dX9_append_71 : decode cX9_append 71 = .ok (.ireturn, 1) := by decide +kernel
theorem dX9_load_0 : decode cX9_load 0 = .ok (.iload_n 1, 1) := by decide +kernel
theorem dX9_load_1 : decode cX9_load 1 = .ok (.ifCond .lt 14, 3) := by decide +kernel
theorem dX9_load_4 : decode cX9_load 4 = .ok (.iload_n 1, 1) := by decide +kernel
theorem dX9_load_5 : decode cX9_load 5 = .ok (.aload_n 0, 1) := by decide +kernel
theorem dX9_load_6 : decode cX9_load 6 = .ok (.getfield 26, 3) := by decide +kernel
theorem dX9_load_9 : decode cX9_load 9 = .ok (.getfield 77, 3) := by decide +kernel
theorem dX9_load_12 : decode cX9_load 12 = .ok (.if_icmp .le 13, 3) := by decide +kernel
theorem dX9_load_15 : decode cX9_load 15 = .ok (.new 80, 3) := by decide +kernel
theorem dX9_load_18 : decode cX9_load 18 = .ok (.dup, 1) := by decide +kernel
theorem dX9_load_19 : decode cX9_load 19 = .ok (.ldc 82, 2) := by decide +kernel
theorem dX9_load_21 : decode cX9_load 21 = .ok (.invokespecial 84, 3) := by decide +kernel
theorem dX9_load_24 : decode cX9_load 24 = .ok (.athrow, 1) := by decide +kernel
theorem dX9_load_25 : decode cX9_load 25 = .ok (.aload_n 0, 1) := by decide +kernel
theorem dX9_load_26 : decode cX9_load 26 = .ok (.getfield 26, 3) := by decide +kernel
theorem dX9_load_29 : decode cX9_load 29 = .ok (.iload_n 1, 1) := by decide +kernel
theorem dX9_load_30 : decode cX9_load 30 = .ok (.invokevirtual 85, 3) := by decide +kernel
theorem dX9_load_33 : decode cX9_load 33 = .ok (.istore_n 2, 1) := by decide +kernel
theorem dX9_load_34 : decode cX9_load 34 = .ok (.iload_n 2, 1) := by decide +kernel
theorem dX9_load_35 : decode cX9_load 35 = .ok (.ifCond .eq 16, 3) := by decide +kernel
theorem dX9_load_38 : decode cX9_load 38 = .ok (.aload_n 0, 1) := by decide +kernel
theorem dX9_load_39 : decode cX9_load 39 = .ok (.aload_n 0, 1) := by decide +kernel
theorem dX9_load_40 : decode cX9_load 40 = .ok (.getfield 26, 3) := by decide +kernel
theorem dX9_load_43 : decode cX9_load 43 = .ok (.getfield 89, 3) := by decide +kernel
theorem dX9_load_46 : decode cX9_load 46 = .ok (.putfield 58, 3) := by decide +kernel
theorem dX9_load_49 : decode cX9_load 49 = .ok (.iload_n 2, 1) := by decide +kernel
theorem dX9_load_50 : decode cX9_load 50 = .ok (.ireturn, 1) := by decide +kernel
theorem dX9_load_51 : decode cX9_load 51 = .ok (.aload_n 0, 1) := by decide +kernel
theorem dX9_load_52 : decode cX9_load 52 = .ok (.iconst (-1), 1) := by decide +kernel
theorem dX9_load_53 : decode cX9_load 53 = .ok (.putfield 58, 3) := by decide +kernel
theorem dX9_load_56 : decode cX9_load 56 = .ok (.aload_n 0, 1) := by decide +kernel
theorem dX9_load_57 : decode cX9_load 57 = .ok (.getfield 19, 3) := by decide +kernel
theorem dX9_load_60 : decode cX9_load 60 = .ok (.aload_n 0, 1) := by decide +kernel
theorem dX9_load_61 : decode cX9_load 61 = .ok (.getfield 12, 3) := by decide +kernel
theorem dX9_load_64 : decode cX9_load 64 = .ok (.invokevirtual 92, 3) := by decide +kernel
theorem dX9_load_67 : decode cX9_load 67 = .ok (.aload_n 0, 1) := by decide +kernel
theorem dX9_load_68 : decode cX9_load 68 = .ok (.getfield 12, 3) := by decide +kernel
theorem dX9_load_71 : decode cX9_load 71 = .ok (.aload_n 0, 1) := by decide +kernel
theorem dX9_load_72 : decode cX9_load 72 = .ok (.getfield 26, 3) := by decide +kernel
theorem dX9_load_75 : decode cX9_load 75 = .ok (.getfield 96, 3) := by decide +kernel
theorem dX9_load_78 : decode cX9_load 78 = .ok (.invokevirtual 100, 3) := by decide +kernel
theorem dX9_load_81 : decode cX9_load 81 = .ok (.aload_n 0, 1) := by decide +kernel
theorem dX9_load_82 : decode cX9_load 82 = .ok (.getfield 12, 3) := by decide +kernel
theorem dX9_load_85 : decode cX9_load 85 = .ok (.getfield 104, 3) := by decide +kernel
theorem dX9_load_88 : decode cX9_load 88 = .ok (.getfield 105, 3) := by decide +kernel
theorem dX9_load_91 : decode cX9_load 91 = .ok (.ireturn, 1) := by decide +kernel
theorem dX9_errorPosition_0 : decode cX9_errorPosition 0 = .ok (.aload_n 0, 1) := by decide +kernel
theorem dX9_errorPosition_1 : decode cX9_errorPosition 1 = .ok (.getfield 58, 3) := by decide +kernel
theorem dX9_errorPosition_4 : decode cX9_errorPosition 4 = .ok (.ireturn, 1) := by decide +kernel
theorem dX9_setting_0 : decode cX9_setting 0 = .ok (.aload_n 0, 1) := by decide +kernel
theorem dX9_setting_1 : decode cX9_setting 1 = .ok (.getfield 12, 3) := by decide +kernel
theorem dX9_setting_4 : decode cX9_setting 4 = .ok (.getfield 104, 3) := by decide +kernel
theorem dX9_setting_7 : decode cX9_setting 7 = .ok (.astore_n 2, 1) := by decide +kernel
theorem dX9_setting_8 : decode cX9_setting 8 = .ok (.iload_n 1, 1) := by decide +kernel
theorem dX9_setting_9 : decode cX9_setting 9 = .ok (.tableswitch 69 0 5 #[39, 44, 49, 54, 59, 64], 39) := by decide +kernel
theorem dX9_setting_48 : decode cX9_setting 48 = .ok (.aload_n 2, 1) := by decide +kernel
theorem dX9_setting_49 : decode cX9_setting 49 = .ok (.getfield 110, 3) := by decide +kernel
theorem dX9_setting_52 : decode cX9_setting 52 = .ok (.ireturn, 1) := by decide +kernel
theorem dX9_setting_53 : decode cX9_setting 53 = .ok (.aload_n 2, 1) := by decide +kernel
theorem dX9_setting_54 : decode cX9_setting 54 = .ok (.getfield 113, 3) := by decide +kernel
theorem dX9_setting_57 : decode cX9_setting 57 = .ok (.ireturn, 1) := by decide +kernel
theorem dX9_setting_58 : decode cX9_setting 58 = .ok (.aload_n 2, 1) := by decide +kernel
theorem dX9_setting_59 : decode cX9_setting 59 = .ok (.getfield 116, 3) := by decide +kernel
theorem dX9_setting_62 : decode cX9_setting 62 = .ok (.ireturn, 1) := by decide +kernel
theorem dX9_setting_63 : decode cX9_setting 63 = .ok (.aload_n 2, 1) := by decide +kernel
theorem dX9_setting_64 : decode cX9_setting 64 = .ok (.getfield 119, 3) := by decide +kernel
theorem dX9_setting_67 : decode cX9_setting 67 = .ok (.ireturn, 1) := by decide +kernel
theorem dX9_setting_68 : decode cX9_setting 68 = .ok (.aload_n 2, 1) := by decide +kernel
theorem dX9_setting_69 : decode cX9_setting 69 = .ok (.getfield 105, 3) := by decide +kernel
theorem dX9_setting_72 : decode cX9_setting 72 = .ok (.ireturn, 1) := by decide +kernel
theorem dX9_setting_73 : decode cX9_setting 73 = .ok (.aload_n 2, 1) := by decide +kernel
theorem dX9_setting_74 : decode cX9_setting 74 = .ok (.invokevirtual 122, 3) := by decide +kernel
theorem dX9_setting_77 : decode cX9_setting 77 = .ok (.ireturn, 1) := by decide +kernel
theorem dX9_setting_78 : decode cX9_setting 78 = .ok (.new 80, 3) := by decide +kernel
theorem dX9_setting_81 : decode cX9_setting 81 = .ok (.dup, 1) := by decide +kernel
theorem dX9_setting_82 : decode cX9_setting 82 = .ok (.ldc 126, 2) := by decide +kernel
theorem dX9_setting_84 : decode cX9_setting 84 = .ok (.invokespecial 84, 3) := by decide +kernel
theorem dX9_setting_87 : decode cX9_setting 87 = .ok (.athrow, 1) := by decide +kernel
theorem dX9_periodOf_0 : decode cX9_periodOf 0 = .ok (.aload_n 0, 1) := by decide +kernel
theorem dX9_periodOf_1 : decode cX9_periodOf 1 = .ok (.iload_n 1, 1) := by decide +kernel
theorem dX9_periodOf_2 : decode cX9_periodOf 2 = .ok (.invokevirtual 128, 3) := by decide +kernel
theorem dX9_periodOf_5 : decode cX9_periodOf 5 = .ok (.aload_n 0, 1) := by decide +kernel
theorem dX9_periodOf_6 : decode cX9_periodOf 6 = .ok (.getfield 12, 3) := by decide +kernel
theorem dX9_periodOf_9 : decode cX9_periodOf 9 = .ok (.getfield 104, 3) := by decide +kernel
theorem dX9_periodOf_12 : decode cX9_periodOf 12 = .ok (.getfield 131, 3) := by decide +kernel
theorem dX9_periodOf_15 : decode cX9_periodOf 15 = .ok (.iload_n 1, 1) := by decide +kernel
theorem dX9_periodOf_16 : decode cX9_periodOf 16 = .ok (.iaload, 1) := by decide +kernel
theorem dX9_periodOf_17 : decode cX9_periodOf 17 = .ok (.ireturn, 1) := by decide +kernel
theorem dX9_join_0 : decode cX9_join 0 = .ok (.iload_n 1, 1) := by decide +kernel
theorem dX9_join_1 : decode cX9_join 1 = .ok (.iconst 1, 1) := by decide +kernel
theorem dX9_join_2 : decode cX9_join 2 = .ok (.if_icmp .lt 17, 3) := by decide +kernel
theorem dX9_join_5 : decode cX9_join 5 = .ok (.iload_n 1, 1) := by decide +kernel
theorem dX9_join_6 : decode cX9_join 6 = .ok (.aload_n 0, 1) := by decide +kernel
theorem dX9_join_7 : decode cX9_join 7 = .ok (.getfield 12, 3) := by decide +kernel
theorem dX9_join_10 : decode cX9_join 10 = .ok (.getfield 104, 3) := by decide +kernel
theorem dX9_join_13 : decode cX9_join 13 = .ok (.getfield 110, 3) := by decide +kernel
theorem dX9_join_16 : decode cX9_join 16 = .ok (.if_icmp .le 13, 3) := by decide +kernel
theorem dX9_join_19 : decode cX9_join 19 = .ok (.new 80, 3) := by decide +kernel
theorem dX9_join_22 : decode cX9_join 22 = .ok (.dup, 1) := by decide +kernel
theorem dX9_join_23 : decode cX9_join 23 = .ok (.ldc 135, 2) := by decide +kernel
theorem dX9_join_25 : decode cX9_join 25 = .ok (.invokespecial 84, 3) := by decide +kernel
theorem dX9_join_28 : decode cX9_join 28 = .ok (.athrow, 1) := by decide +kernel
theorem dX9_join_29 : decode cX9_join 29 = .ok (.iload_n 2, 1) := by decide +kernel
theorem dX9_join_30 : decode cX9_join 30 = .ok (.iconst 1, 1) := by decide +kernel
theorem dX9_join_31 : decode cX9_join 31 = .ok (.if_icmp .lt 8, 3) := by decide +kernel
theorem dX9_join_34 : decode cX9_join 34 = .ok (.iload_n 2, 1) := by decide +kernel
theorem dX9_join_35 : decode cX9_join 35 = .ok (.iload_n 1, 1) := by decide +kernel
theorem dX9_join_36 : decode cX9_join 36 = .ok (.if_icmp .le 13, 3) := by decide +kernel
theorem dX9_join_39 : decode cX9_join 39 = .ok (.new 80, 3) := by decide +kernel
theorem dX9_join_42 : decode cX9_join 42 = .ok (.dup, 1) := by decide +kernel
theorem dX9_join_43 : decode cX9_join 43 = .ok (.ldc 137, 2) := by decide +kernel
theorem dX9_join_45 : decode cX9_join 45 = .ok (.invokespecial 84, 3) := by decide +kernel
theorem dX9_join_48 : decode cX9_join 48 = .ok (.athrow, 1) := by decide +kernel
theorem dX9_join_49 : decode cX9_join 49 = .ok (.iload_n 3, 1) := by decide +kernel
theorem dX9_join_50 : decode cX9_join 50 = .ok (.ifCond .lt 9, 3) := by decide +kernel
theorem dX9_join_53 : decode cX9_join 53 = .ok (.iload_n 3, 1) := by decide +kernel
theorem dX9_join_54 : decode cX9_join 54 = .ok (.bipush 9, 2) := by decide +kernel
theorem dX9_join_56 : decode cX9_join 56 = .ok (.if_icmp .le 13, 3) := by decide +kernel
theorem dX9_join_59 : decode cX9_join 59 = .ok (.new 80, 3) := by decide +kernel
theorem dX9_join_62 : decode cX9_join 62 = .ok (.dup, 1) := by decide +kernel
theorem dX9_join_63 : decode cX9_join 63 = .ok (.ldc 139, 2) := by decide +kernel
theorem dX9_join_65 : decode cX9_join 65 = .ok (.invokespecial 84, 3) := by decide +kernel
theorem dX9_join_68 : decode cX9_join 68 = .ok (.athrow, 1) := by decide +kernel
theorem dX9_join_69 : decode cX9_join 69 = .ok (.aload_n 0, 1) := by decide +kernel
theorem dX9_join_70 : decode cX9_join 70 = .ok (.getfield 12, 3) := by decide +kernel
theorem dX9_join_73 : decode cX9_join 73 = .ok (.getfield 141, 3) := by decide +kernel
theorem dX9_join_76 : decode cX9_join 76 = .ok (.bipush 16, 2) := by decide +kernel
theorem dX9_join_78 : decode cX9_join 78 = .ok (.if_icmp .lt 13, 3) := by decide +kernel
theorem dX9_join_81 : decode cX9_join 81 = .ok (.new 66, 3) := by decide +kernel
theorem dX9_join_84 : decode cX9_join 84 = .ok (.dup, 1) := by decide +kernel
theorem dX9_join_85 : decode cX9_join 85 = .ok (.ldc 144, 2) := by decide +kernel
theorem dX9_join_87 : decode cX9_join 87 = .ok (.invokespecial 70, 3) := by decide +kernel
theorem dX9_join_90 : decode cX9_join 90 = .ok (.athrow, 1) := by decide +kernel
theorem dX9_join_91 : decode cX9_join 91 = .ok (.aload_n 0, 1) := by decide +kernel
theorem dX9_join_92 : decode cX9_join 92 = .ok (.getfield 19, 3) := by decide +kernel
theorem dX9_join_95 : decode cX9_join 95 = .ok (.aload_n 0, 1) := by decide +kernel
theorem dX9_join_96 : decode cX9_join 96 = .ok (.getfield 12, 3) := by decide +kernel
theorem dX9_join_99 : decode cX9_join 99 = .ok (.invokevirtual 92, 3) := by decide +kernel
theorem dX9_join_102 : decode cX9_join 102 = .ok (.aload_n 0, 1) := by decide +kernel
theorem dX9_join_103 : decode cX9_join 103 = .ok (.getfield 12, 3) := by decide +kernel
theorem dX9_join_106 : decode cX9_join 106 = .ok (.iload_n 1, 1) := by decide +kernel
theorem dX9_join_107 : decode cX9_join 107 = .ok (.iload_n 2, 1) := by decide +kernel
theorem dX9_join_108 : decode cX9_join 108 = .ok (.iload_n 3, 1) := by decide +kernel
theorem dX9_join_109 : decode cX9_join 109 = .ok (.invokevirtual 146, 3) := by decide +kernel
theorem dX9_join_112 : decode cX9_join 112 = .ok (.ireturn, 1) := by decide +kernel
theorem dX9_more_0 : decode cX9_more 0 = .ok (.aload_n 0, 1) := by decide +kernel
theorem dX9_more_1 : decode cX9_more 1 = .ok (.iload_n 1, 1) := by decide +kernel
theorem dX9_more_2 : decode cX9_more 2 = .ok (.invokevirtual 150, 3) := by decide +kernel
theorem dX9_more_5 : decode cX9_more 5 = .ok (.aload_n 0, 1) := by decide +kernel
theorem dX9_more_6 : decode cX9_more 6 = .ok (.iload_n 2, 1) := by decide +kernel
theorem dX9_more_7 : decode cX9_more 7 = .ok (.invokevirtual 153, 3) := by decide +kernel
theorem dX9_more_10 : decode cX9_more 10 = .ok (.aload_n 0, 1) := by decide +kernel
theorem dX9_more_11 : decode cX9_more 11 = .ok (.iload_n 1, 1) := by decide +kernel
theorem dX9_more_12 : decode cX9_more 12 = .ok (.invokevirtual 156, 3) := by decide +kernel
theorem dX9_more_15 : decode cX9_more 15 = .ok (.aload_n 0, 1) := by decide +kernel
theorem dX9_more_16 : decode cX9_more 16 = .ok (.getfield 12, 3) := by decide +kernel
theorem dX9_more_19 : decode cX9_more 19 = .ok (.getfield 159, 3) := by decide +kernel
theorem dX9_more_22 : decode cX9_more 22 = .ok (.iload_n 1, 1) := by decide +kernel
theorem dX9_more_23 : decode cX9_more 23 = .ok (.aaload, 1) := by decide +kernel
theorem dX9_more_24 : decode cX9_more 24 = .ok (.astore_n 3, 1) := by decide +kernel
theorem dX9_more_25 : decode cX9_more 25 = .ok (.iload_n 2, 1) := by decide +kernel
theorem dX9_more_26 : decode cX9_more 26 = .ok (.aload_n 0, 1) := by decide +kernel
theorem dX9_more_27 : decode cX9_more 27 = .ok (.getfield 12, 3) := by decide +kernel
theorem dX9_more_30 : decode cX9_more 30 = .ok (.invokevirtual 163, 3) := by decide +kernel
theorem dX9_more_33 : decode cX9_more 33 = .ok (.if_icmp .le 13, 3) := by decide +kernel
theorem dX9_more_36 : decode cX9_more 36 = .ok (.new 66, 3) := by decide +kernel
theorem dX9_more_39 : decode cX9_more 39 = .ok (.dup, 1) := by decide +kernel
theorem dX9_more_40 : decode cX9_more 40 = .ok (.ldc 166, 2) := by decide +kernel
theorem dX9_more_42 : decode cX9_more 42 = .ok (.invokespecial 70, 3) := by decide +kernel
theorem dX9_more_45 : decode cX9_more 45 = .ok (.athrow, 1) := by decide +kernel
theorem dX9_more_46 : decode cX9_more 46 = .ok (.aload_n 0, 1) := by decide +kernel
theorem dX9_more_47 : decode cX9_more 47 = .ok (.aload_n 3, 1) := by decide +kernel
theorem dX9_more_48 : decode cX9_more 48 = .ok (.iload_n 2, 1) := by decide +kernel
theorem dX9_more_49 : decode cX9_more 49 = .ok (.invokevirtual 168, 3) := by decide +kernel
theorem dX9_more_52 : decode cX9_more 52 = .ok (.aload_n 0, 1) := by decide +kernel
theorem dX9_more_53 : decode cX9_more 53 = .ok (.getfield 19, 3) := by decide +kernel
theorem dX9_more_56 : decode cX9_more 56 = .ok (.aload_n 0, 1) := by decide +kernel
theorem dX9_more_57 : decode cX9_more 57 = .ok (.getfield 12, 3) := by decide +kernel
theorem dX9_more_60 : decode cX9_more 60 = .ok (.invokevirtual 92, 3) := by decide +kernel
theorem dX9_more_63 : decode cX9_more 63 = .ok (.aload_n 3, 1) := by decide +kernel
theorem dX9_more_64 : decode cX9_more 64 = .ok (.dup, 1) := by decide +kernel
theorem dX9_more_65 : decode cX9_more 65 = .ok (.getfield 172, 3) := by decide +kernel
theorem dX9_more_68 : decode cX9_more 68 = .ok (.iload_n 2, 1) := by decide +kernel
theorem dX9_more_69 : decode cX9_more 69 = .ok (.iadd, 1) := by decide +kernel
theorem dX9_more_70 : decode cX9_more 70 = .ok (.putfield 172, 3) := by decide +kernel
theorem dX9_more_73 : decode cX9_more 73 = .ok (.aload_n 3, 1) := by decide +kernel
theorem dX9_more_74 : decode cX9_more 74 = .ok (.getfield 172, 3) := by decide +kernel
theorem dX9_more_77 : decode cX9_more 77 = .ok (.ireturn, 1) := by decide +kernel
theorem dX9_reduce_0 : decode cX9_reduce 0 = .ok (.aload_n 0, 1) := by decide +kernel
theorem dX9_reduce_1 : decode cX9_reduce 1 = .ok (.iload_n 1, 1) := by decide +kernel
theorem dX9_reduce_2 : decode cX9_reduce 2 = .ok (.invokevirtual 150, 3) := by decide +kernel
theorem dX9_reduce_5 : decode cX9_reduce 5 = .ok (.aload_n 0, 1) := by decide +kernel
theorem dX9_reduce_6 : decode cX9_reduce 6 = .ok (.iload_n 2, 1) := by decide +kernel
theorem dX9_reduce_7 : decode cX9_reduce 7 = .ok (.invokevirtual 153, 3) := by decide +kernel
theorem dX9_reduce_10 : decode cX9_reduce 10 = .ok (.aload_n 0, 1) := by decide +kernel
theorem dX9_reduce_11 : decode cX9_reduce 11 = .ok (.iload_n 1, 1) := by decide +kernel
theorem dX9_reduce_12 : decode cX9_reduce 12 = .ok (.invokevirtual 156, 3) := by decide +kernel
theorem dX9_reduce_15 : decode cX9_reduce 15 = .ok (.aload_n 0, 1) := by decide +kernel
theorem dX9_reduce_16 : decode cX9_reduce 16 = .ok (.getfield 12, 3) := by decide +kernel
theorem dX9_reduce_19 : decode cX9_reduce 19 = .ok (.getfield 159, 3) := by decide +kernel
theorem dX9_reduce_22 : decode cX9_reduce 22 = .ok (.iload_n 1, 1) := by decide +kernel
theorem dX9_reduce_23 : decode cX9_reduce 23 = .ok (.aaload, 1) := by decide +kernel
theorem dX9_reduce_24 : decode cX9_reduce 24 = .ok (.astore_n 3, 1) := by decide +kernel
theorem dX9_reduce_25 : decode cX9_reduce 25 = .ok (.aload_n 0, 1) := by decide +kernel
theorem dX9_reduce_26 : decode cX9_reduce 26 = .ok (.aload_n 3, 1) := by decide +kernel
theorem dX9_reduce_27 : decode cX9_reduce 27 = .ok (.iload_n 2, 1) := by decide +kernel
theorem dX9_reduce_28 : decode cX9_reduce 28 = .ok (.invokevirtual 175, 3) := by decide +kernel
theorem dX9_reduce_31 : decode cX9_reduce 31 = .ok (.aload_n 0, 1) := by decide +kernel
theorem dX9_reduce_32 : decode cX9_reduce 32 = .ok (.getfield 19, 3) := by decide +kernel
theorem dX9_reduce_35 : decode cX9_reduce 35 = .ok (.aload_n 0, 1) := by decide +kernel
theorem dX9_reduce_36 : decode cX9_reduce 36 = .ok (.getfield 12, 3) := by decide +kernel
theorem dX9_reduce_39 : decode cX9_reduce 39 = .ok (.invokevirtual 92, 3) := by decide +kernel
theorem dX9_reduce_42 : decode cX9_reduce 42 = .ok (.aload_n 3, 1) := by decide +kernel
theorem dX9_reduce_43 : decode cX9_reduce 43 = .ok (.dup, 1) := by decide +kernel
theorem dX9_reduce_44 : decode cX9_reduce 44 = .ok (.getfield 172, 3) := by decide +kernel
theorem dX9_reduce_47 : decode cX9_reduce 47 = .ok (.iload_n 2, 1) := by decide +kernel
theorem dX9_reduce_48 : decode cX9_reduce 48 = .ok (.isub, 1) := by decide +kernel
theorem dX9_reduce_49 : decode cX9_reduce 49 = .ok (.putfield 172, 3) := by decide +kernel
theorem dX9_reduce_52 : decode cX9_reduce 52 = .ok (.aload_n 0, 1) := by decide +kernel
theorem dX9_reduce_53 : decode cX9_reduce 53 = .ok (.getfield 12, 3) := by decide +kernel
theorem dX9_reduce_56 : decode cX9_reduce 56 = .ok (.invokevirtual 178, 3) := by decide +kernel
theorem dX9_reduce_59 : decode cX9_reduce 59 = .ok (.aload_n 0, 1) := by decide +kernel
theorem dX9_reduce_60 : decode cX9_reduce 60 = .ok (.getfield 12, 3) := by decide +kernel
theorem dX9_reduce_63 : decode cX9_reduce 63 = .ok (.invokevirtual 163, 3) := by decide +kernel
theorem dX9_reduce_66 : decode cX9_reduce 66 = .ok (.ireturn, 1) := by decide +kernel
theorem dX9_transfer_0 : decode cX9_transfer 0 = .ok (.aload_n 0, 1) := by decide +kernel
theorem dX9_transfer_1 : decode cX9_transfer 1 = .ok (.iload_n 1, 1) := by decide +kernel
theorem dX9_transfer_2 : decode cX9_transfer 2 = .ok (.invokevirtual 150, 3) := by decide +kernel
theorem dX9_transfer_5 : decode cX9_transfer 5 = .ok (.aload_n 0, 1) := by decide +kernel
theorem dX9_transfer_6 : decode cX9_transfer 6 = .ok (.iload_n 2, 1) := by decide +kernel
theorem dX9_transfer_7 : decode cX9_transfer 7 = .ok (.invokevirtual 150, 3) := by decide +kernel
theorem dX9_transfer_10 : decode cX9_transfer 10 = .ok (.aload_n 0, 1) := by decide +kernel
theorem dX9_transfer_11 : decode cX9_transfer 11 = .ok (.iload_n 1, 1) := by decide +kernel
theorem dX9_transfer_12 : decode cX9_transfer 12 = .ok (.iload_n 2, 1) := by decide +kernel
theorem dX9_transfer_13 : decode cX9_transfer 13 = .ok (.invokevirtual 181, 3) := by decide +kernel
theorem dX9_transfer_16 : decode cX9_transfer 16 = .ok (.aload_n 0, 1) := by decide +kernel
theorem dX9_transfer_17 : decode cX9_transfer 17 = .ok (.iload_n 3, 1) := by decide +kernel
theorem dX9_transfer_18 : decode cX9_transfer 18 = .ok (.invokevirtual 153, 3) := by decide +kernel
theorem dX9_transfer_21 : decode cX9_transfer 21 = .ok (.aload_n 0, 1) := by decide +kernel
theorem dX9_transfer_22 : decode cX9_transfer 22 = .ok (.iload_n 1, 1) := by decide +kernel
theorem dX9_transfer_23 : decode cX9_transfer 23 = .ok (.invokevirtual 156, 3) := by decide +kernel
theorem dX9_transfer_26 : decode cX9_transfer 26 = .ok (.aload_n 0, 1) := by decide +kernel
theorem dX9_transfer_27 : decode cX9_transfer 27 = .ok (.iload_n 2, 1) := by decide +kernel
theorem dX9_transfer_28 : decode cX9_transfer 28 = .ok (.invokevirtual 156, 3) := by decide +kernel
theorem dX9_transfer_31 : decode cX9_transfer 31 = .ok (.aload_n 0, 1) := by decide +kernel
theorem dX9_transfer_32 : decode cX9_transfer 32 = .ok (.getfield 12, 3) := by decide +kernel
theorem dX9_transfer_35 : decode cX9_transfer 35 = .ok (.getfield 159, 3) := by decide +kernel
theorem dX9_transfer_38 : decode cX9_transfer 38 = .ok (.iload_n 1, 1) := by decide +kernel
theorem dX9_transfer_39 : decode cX9_transfer 39 = .ok (.aaload, 1) := by decide +kernel
theorem dX9_transfer_40 : decode cX9_transfer 40 = .ok (.astore 4, 2) := by decide +kernel
theorem dX9_transfer_42 : decode cX9_transfer 42 = .ok (.aload_n 0, 1) := by decide +kernel
theorem dX9_transfer_43 : decode cX9_transfer 43 = .ok (.getfield 12, 3) := by decide +kernel
theorem dX9_transfer_46 : decode cX9_transfer 46 = .ok (.getfield 159, 3) := by decide +kernel
theorem dX9_transfer_49 : decode cX9_transfer 49 = .ok (.iload_n 2, 1) := by decide +kernel
theorem dX9_transfer_50 : decode cX9_transfer 50 = .ok (.aaload, 1) := by decide +kernel
theorem dX9_transfer_51 : decode cX9_transfer 51 = .ok (.astore 5, 2) := by decide +kernel
theorem dX9_transfer_53 : decode cX9_transfer 53 = .ok (.aload_n 0, 1) := by decide +kernel
theorem dX9_transfer_54 : decode cX9_transfer 54 = .ok (.aload 4, 2) := by decide +kernel
theorem dX9_transfer_56 : decode cX9_transfer 56 = .ok (.iload_n 3, 1) := by decide +kernel
theorem dX9_transfer_57 : decode cX9_transfer 57 = .ok (.invokevirtual 175, 3) := by decide +kernel
theorem dX9_transfer_60 : decode cX9_transfer 60 = .ok (.aload_n 0, 1) := by decide +kernel
theorem dX9_transfer_61 : decode cX9_transfer 61 = .ok (.aload 5, 2) := by decide +kernel
theorem dX9_transfer_63 : decode cX9_transfer 63 = .ok (.iload_n 3, 1) := by decide +kernel
theorem dX9_transfer_64 : decode cX9_transfer 64 = .ok (.invokevirtual 168, 3) := by decide +kernel
theorem dX9_transfer_67 : decode cX9_transfer 67 = .ok (.aload_n 0, 1) := by decide +kernel
theorem dX9_transfer_68 : decode cX9_transfer 68 = .ok (.getfield 19, 3) := by decide +kernel
theorem dX9_transfer_71 : decode cX9_transfer 71 = .ok (.aload_n 0, 1) := by decide +kernel
theorem dX9_transfer_72 : decode cX9_transfer 72 = .ok (.getfield 12, 3) := by decide +kernel
theorem dX9_transfer_75 : decode cX9_transfer 75 = .ok (.invokevirtual 92, 3) := by decide +kernel
theorem dX9_transfer_78 : decode cX9_transfer 78 = .ok (.aload 4, 2) := by decide +kernel
theorem dX9_transfer_80 : decode cX9_transfer 80 = .ok (.dup, 1) := by decide +kernel
theorem dX9_transfer_81 : decode cX9_transfer 81 = .ok (.getfield 172, 3) := by decide +kernel
theorem dX9_transfer_84 : decode cX9_transfer 84 = .ok (.iload_n 3, 1) := by decide +kernel
theorem dX9_transfer_85 : decode cX9_transfer 85 = .ok (.isub, 1) := by decide +kernel
theorem dX9_transfer_86 : decode cX9_transfer 86 = .ok (.putfield 172, 3) := by decide +kernel
theorem dX9_transfer_89 : decode cX9_transfer 89 = .ok (.aload 5, 2) := by decide +kernel
theorem dX9_transfer_91 : decode cX9_transfer 91 = .ok (.dup, 1) := by decide +kernel
theorem dX9_transfer_92 : decode cX9_transfer 92 = .ok (.getfield 172, 3) := by decide +kernel
theorem dX9_transfer_95 : decode cX9_transfer 95 = .ok (.iload_n 3, 1) := by decide +kernel
theorem dX9_transfer_96 : decode cX9_transfer 96 = .ok (.iadd, 1) := by decide +kernel
theorem dX9_transfer_97 : decode cX9_transfer 97 = .ok (.putfield 172, 3) := by decide +kernel
theorem dX9_transfer_100 : decode cX9_transfer 100 = .ok (.aload 5, 2) := by decide +kernel
theorem dX9_transfer_102 : decode cX9_transfer 102 = .ok (.getfield 172, 3) := by decide +kernel
theorem dX9_transfer_105 : decode cX9_transfer 105 = .ok (.ireturn, 1) := by decide +kernel
theorem dX9_assign_0 : decode cX9_assign 0 = .ok (.aload_n 0, 1) := by decide +kernel
theorem dX9_assign_1 : decode cX9_assign 1 = .ok (.iload_n 1, 1) := by decide +kernel
theorem dX9_assign_2 : decode cX9_assign 2 = .ok (.invokevirtual 150, 3) := by decide +kernel
theorem dX9_assign_5 : decode cX9_assign 5 = .ok (.aload_n 0, 1) := by decide +kernel
theorem dX9_assign_6 : decode cX9_assign 6 = .ok (.iload_n 2, 1) := by decide +kernel
theorem dX9_assign_7 : decode cX9_assign 7 = .ok (.invokevirtual 150, 3) := by decide +kernel
theorem dX9_assign_10 : decode cX9_assign 10 = .ok (.aload_n 0, 1) := by decide +kernel
theorem dX9_assign_11 : decode cX9_assign 11 = .ok (.iload_n 1, 1) := by decide +kernel
theorem dX9_assign_12 : decode cX9_assign 12 = .ok (.iload_n 2, 1) := by decide +kernel
theorem dX9_assign_13 : decode cX9_assign 13 = .ok (.invokevirtual 181, 3) := by decide +kernel
theorem dX9_assign_16 : decode cX9_assign 16 = .ok (.iload_n 3, 1) := by decide +kernel
theorem dX9_assign_17 : decode cX9_assign 17 = .ok (.ifCond .lt 9, 3) := by decide +kernel
theorem dX9_assign_20 : decode cX9_assign 20 = .ok (.iload_n 3, 1) := by decide +kernel
theorem dX9_assign_21 : decode cX9_assign 21 = .ok (.bipush 100, 2) := by decide +kernel
theorem dX9_assign_23 : decode cX9_assign 23 = .ok (.if_icmp .le 13, 3) := by decide +kernel
theorem dX9_assign_26 : decode cX9_assign 26 = .ok (.new 80, 3) := by decide +kernel
theorem dX9_assign_29 : decode cX9_assign 29 = .ok (.dup, 1) := by decide +kernel
theorem dX9_assign_30 : decode cX9_assign 30 = .ok (.ldc 185, 2) := by decide +kernel
theorem dX9_assign_32 : decode cX9_assign 32 = .ok (.invokespecial 84, 3) := by decide +kernel
theorem dX9_assign_35 : decode cX9_assign 35 = .ok (.athrow, 1) := by decide +kernel
theorem dX9_assign_36 : decode cX9_assign 36 = .ok (.iload_n 3, 1) := by decide +kernel
theorem dX9_assign_37 : decode cX9_assign 37 = .ok (.ifCond .le 25, 3) := by decide +kernel
theorem dX9_assign_40 : decode cX9_assign 40 = .ok (.aload_n 0, 1) := by decide +kernel
theorem dX9_assign_41 : decode cX9_assign 41 = .ok (.getfield 12, 3) := by decide +kernel
theorem dX9_assign_44 : decode cX9_assign 44 = .ok (.iload_n 2, 1) := by decide +kernel
theorem dX9_assign_45 : decode cX9_assign 45 = .ok (.iload_n 1, 1) := by decide +kernel
theorem dX9_assign_46 : decode cX9_assign 46 = .ok (.invokevirtual 187, 3) := by decide +kernel
theorem dX9_assign_49 : decode cX9_assign 49 = .ok (.ifCond .eq 13, 3) := by decide +kernel
theorem dX9_assign_52 : decode cX9_assign 52 = .ok (.new 80, 3) := by decide +kernel
theorem dX9_assign_55 : decode cX9_assign 55 = .ok (.dup, 1) := by decide +kernel
theorem dX9_assign_56 : decode cX9_assign 56 = .ok (.ldc 191, 2) := by decide +kernel
theorem dX9_assign_58 : decode cX9_assign 58 = .ok (.invokespecial 84, 3) := by decide +kernel
theorem dX9_assign_61 : decode cX9_assign 61 = .ok (.athrow, 1) := by decide +kernel
theorem dX9_assign_62 : decode cX9_assign 62 = .ok (.aload_n 0, 1) := by decide +kernel
theorem dX9_assign_63 : decode cX9_assign 63 = .ok (.iload_n 1, 1) := by decide +kernel
theorem dX9_assign_64 : decode cX9_assign 64 = .ok (.invokevirtual 156, 3) := by decide +kernel
theorem dX9_assign_67 : decode cX9_assign 67 = .ok (.aload_n 0, 1) := by decide +kernel
theorem dX9_assign_68 : decode cX9_assign 68 = .ok (.iload_n 2, 1) := by decide +kernel
theorem dX9_assign_69 : decode cX9_assign 69 = .ok (.invokevirtual 156, 3) := by decide +kernel
theorem dX9_assign_72 : decode cX9_assign 72 = .ok (.aload_n 0, 1) := by decide +kernel
theorem dX9_assign_73 : decode cX9_assign 73 = .ok (.getfield 19, 3) := by decide +kernel
theorem dX9_assign_76 : decode cX9_assign 76 = .ok (.aload_n 0, 1) := by decide +kernel
theorem dX9_assign_77 : decode cX9_assign 77 = .ok (.getfield 12, 3) := by decide +kernel
theorem dX9_assign_80 : decode cX9_assign 80 = .ok (.invokevirtual 92, 3) := by decide +kernel
theorem dX9_assign_83 : decode cX9_assign 83 = .ok (.aload_n 0, 1) := by decide +kernel
theorem dX9_assign_84 : decode cX9_assign 84 = .ok (.getfield 12, 3) := by decide +kernel
theorem dX9_assign_87 : decode cX9_assign 87 = .ok (.getfield 159, 3) := by decide +kernel
theorem dX9_assign_90 : decode cX9_assign 90 = .ok (.iload_n 1, 1) := by decide +kernel
theorem dX9_assign_91 : decode cX9_assign 91 = .ok (.aaload, 1) := by decide +kernel
theorem dX9_assign_92 : decode cX9_assign 92 = .ok (.iload_n 2, 1) := by decide +kernel
theorem dX9_assign_93 : decode cX9_assign 93 = .ok (.iload_n 3, 1) := by decide +kernel
theorem dX9_assign_94 : decode cX9_assign 94 = .ok (.invokevirtual 193, 3) := by decide +kernel
theorem dX9_assign_97 : decode cX9_assign 97 = .ok (.return_, 1) := by decide +kernel
theorem dX9_leave_0 : decode cX9_leave 0 = .ok (.aload_n 0, 1) := by decide +kernel
theorem dX9_leave_1 : decode cX9_leave 1 = .ok (.iload_n 1, 1) := by decide +kernel
theorem dX9_leave_2 : decode cX9_leave 2 = .ok (.invokevirtual 150, 3) := by decide +kernel
theorem dX9_leave_5 : decode cX9_leave 5 = .ok (.aload_n 0, 1) := by decide +kernel
theorem dX9_leave_6 : decode cX9_leave 6 = .ok (.getfield 12, 3) := by decide +kernel
theorem dX9_leave_9 : decode cX9_leave 9 = .ok (.getfield 159, 3) := by decide +kernel
theorem dX9_leave_12 : decode cX9_leave 12 = .ok (.iload_n 1, 1) := by decide +kernel
theorem dX9_leave_13 : decode cX9_leave 13 = .ok (.aaload, 1) := by decide +kernel
theorem dX9_leave_14 : decode cX9_leave 14 = .ok (.getfield 196, 3) := by decide +kernel
theorem dX9_leave_17 : decode cX9_leave 17 = .ok (.iconst 2, 1) := by decide +kernel
theorem dX9_leave_18 : decode cX9_leave 18 = .ok (.if_icmp .ne 13, 3) := by decide +kernel
theorem dX9_leave_21 : decode cX9_leave 21 = .ok (.new 66, 3) := by decide +kernel
theorem dX9_leave_24 : decode cX9_leave 24 = .ok (.dup, 1) := by decide +kernel
theorem dX9_leave_25 : decode cX9_leave 25 = .ok (.ldc 199, 2) := by decide +kernel
theorem dX9_leave_27 : decode cX9_leave 27 = .ok (.invokespecial 70, 3) := by decide +kernel
theorem dX9_leave_30 : decode cX9_leave 30 = .ok (.athrow, 1) := by decide +kernel
theorem dX9_leave_31 : decode cX9_leave 31 = .ok (.aload_n 0, 1) := by decide +kernel
theorem dX9_leave_32 : decode cX9_leave 32 = .ok (.getfield 19, 3) := by decide +kernel
theorem dX9_leave_35 : decode cX9_leave 35 = .ok (.aload_n 0, 1) := by decide +kernel
theorem dX9_leave_36 : decode cX9_leave 36 = .ok (.getfield 12, 3) := by decide +kernel
theorem dX9_leave_39 : decode cX9_leave 39 = .ok (.invokevirtual 92, 3) := by decide +kernel
theorem dX9_leave_42 : decode cX9_leave 42 = .ok (.aload_n 0, 1) := by decide +kernel
theorem dX9_leave_43 : decode cX9_leave 43 = .ok (.getfield 12, 3) := by decide +kernel
theorem dX9_leave_46 : decode cX9_leave 46 = .ok (.iload_n 1, 1) := by decide +kernel
theorem dX9_leave_47 : decode cX9_leave 47 = .ok (.invokevirtual 201, 3) := by decide +kernel
theorem dX9_leave_50 : decode cX9_leave 50 = .ok (.aload_n 0, 1) := by decide +kernel
theorem dX9_leave_51 : decode cX9_leave 51 = .ok (.getfield 12, 3) := by decide +kernel
theorem dX9_leave_54 : decode cX9_leave 54 = .ok (.getfield 159, 3) := by decide +kernel
theorem dX9_leave_57 : decode cX9_leave 57 = .ok (.iload_n 1, 1) := by decide +kernel
theorem dX9_leave_58 : decode cX9_leave 58 = .ok (.aaload, 1) := by decide +kernel
theorem dX9_leave_59 : decode cX9_leave 59 = .ok (.getfield 204, 3) := by decide +kernel
theorem dX9_leave_62 : decode cX9_leave 62 = .ok (.iconst 3, 1) := by decide +kernel
theorem dX9_leave_63 : decode cX9_leave 63 = .ok (.laload, 1) := by decide +kernel
theorem dX9_leave_64 : decode cX9_leave 64 = .ok (.lreturn, 1) := by decide +kernel
theorem dX9_subscriberCount_0 : decode cX9_subscriberCount 0 = .ok (.aload_n 0, 1) := by decide +kernel
theorem dX9_subscriberCount_1 : decode cX9_subscriberCount 1 = .ok (.getfield 12, 3) := by decide +kernel
theorem dX9_subscriberCount_4 : decode cX9_subscriberCount 4 = .ok (.getfield 141, 3) := by decide +kernel
theorem dX9_subscriberCount_7 : decode cX9_subscriberCount 7 = .ok (.ireturn, 1) := by decide +kernel
theorem dX9_state_0 : decode cX9_state 0 = .ok (.aload_n 0, 1) := by decide +kernel
theorem dX9_state_1 : decode cX9_state 1 = .ok (.iload_n 1, 1) := by decide +kernel
theorem dX9_state_2 : decode cX9_state 2 = .ok (.invokevirtual 150, 3) := by decide +kernel
theorem dX9_state_5 : decode cX9_state 5 = .ok (.aload_n 0, 1) := by decide +kernel
theorem dX9_state_6 : decode cX9_state 6 = .ok (.getfield 12, 3) := by decide +kernel
theorem dX9_state_9 : decode cX9_state 9 = .ok (.getfield 159, 3) := by decide +kernel
theorem dX9_state_12 : decode cX9_state 12 = .ok (.iload_n 1, 1) := by decide +kernel
theorem dX9_state_13 : decode cX9_state 13 = .ok (.aaload, 1) := by decide +kernel
theorem dX9_state_14 : decode cX9_state 14 = .ok (.getfield 196, 3) := by decide +kernel
theorem dX9_state_17 : decode cX9_state 17 = .ok (.ireturn, 1) := by decide +kernel
theorem dX9_shares_0 : decode cX9_shares 0 = .ok (.aload_n 0, 1) := by decide +kernel
theorem dX9_shares_1 : decode cX9_shares 1 = .ok (.iload_n 1, 1) := by decide +kernel
theorem dX9_shares_2 : decode cX9_shares 2 = .ok (.invokevirtual 150, 3) := by decide +kernel
theorem dX9_shares_5 : decode cX9_shares 5 = .ok (.aload_n 0, 1) := by decide +kernel
theorem dX9_shares_6 : decode cX9_shares 6 = .ok (.getfield 12, 3) := by decide +kernel
theorem dX9_shares_9 : decode cX9_shares 9 = .ok (.getfield 159, 3) := by decide +kernel
theorem dX9_shares_12 : decode cX9_shares 12 = .ok (.iload_n 1, 1) := by decide +kernel
theorem dX9_shares_13 : decode cX9_shares 13 = .ok (.aaload, 1) := by decide +kernel
theorem dX9_shares_14 : decode cX9_shares 14 = .ok (.getfield 172, 3) := by decide +kernel
theorem dX9_shares_17 : decode cX9_shares 17 = .ok (.ireturn, 1) := by decide +kernel
theorem dX9_freeShares_0 : decode cX9_freeShares 0 = .ok (.aload_n 0, 1) := by decide +kernel
theorem dX9_freeShares_1 : decode cX9_freeShares 1 = .ok (.getfield 12, 3) := by decide +kernel
theorem dX9_freeShares_4 : decode cX9_freeShares 4 = .ok (.invokevirtual 163, 3) := by decide +kernel
theorem dX9_freeShares_7 : decode cX9_freeShares 7 = .ok (.ireturn, 1) := by decide +kernel
theorem dX9_waitingPlace_0 : decode cX9_waitingPlace 0 = .ok (.aload_n 0, 1) := by decide +kernel
theorem dX9_waitingPlace_1 : decode cX9_waitingPlace 1 = .ok (.iload_n 1, 1) := by decide +kernel
theorem dX9_waitingPlace_2 : decode cX9_waitingPlace 2 = .ok (.invokevirtual 150, 3) := by decide +kernel
theorem dX9_waitingPlace_5 : decode cX9_waitingPlace 5 = .ok (.aload_n 0, 1) := by decide +kernel
theorem dX9_waitingPlace_6 : decode cX9_waitingPlace 6 = .ok (.getfield 12, 3) := by decide +kernel
theorem dX9_waitingPlace_9 : decode cX9_waitingPlace 9 = .ok (.iload_n 1, 1) := by decide +kernel
theorem dX9_waitingPlace_10 : decode cX9_waitingPlace 10 = .ok (.invokevirtual 208, 3) := by decide +kernel
theorem dX9_waitingPlace_13 : decode cX9_waitingPlace 13 = .ok (.ireturn, 1) := by decide +kernel
theorem dX9_passDays_0 : decode cX9_passDays 0 = .ok (.iload_n 1, 1) := by decide +kernel
theorem dX9_passDays_1 : decode cX9_passDays 1 = .ok (.iconst 1, 1) := by decide +kernel
theorem dX9_passDays_2 : decode cX9_passDays 2 = .ok (.if_icmp .lt 9, 3) := by decide +kernel
theorem dX9_passDays_5 : decode cX9_passDays 5 = .ok (.iload_n 1, 1) := by decide +kernel
theorem dX9_passDays_6 : decode cX9_passDays 6 = .ok (.bipush 30, 2) := by decide +kernel
theorem dX9_passDays_8 : decode cX9_passDays 8 = .ok (.if_icmp .le 13, 3) := by decide +kernel
theorem dX9_passDays_11 : decode cX9_passDays 11 = .ok (.new 80, 3) := by decide +kernel
theorem dX9_passDays_14 : decode cX9_passDays 14 = .ok (.dup, 1) := by decide +kernel
theorem dX9_passDays_15 : decode cX9_passDays 15 = .ok (.ldc 211, 2) := by decide +kernel
theorem dX9_passDays_17 : decode cX9_passDays 17 = .ok (.invokespecial 84, 3) := by decide +kernel
theorem dX9_passDays_20 : decode cX9_passDays 20 = .ok (.athrow, 1) := by decide +kernel
theorem dX9_passDays_21 : decode cX9_passDays 21 = .ok (.iload_n 1, 1) := by decide +kernel
theorem dX9_passDays_22 : decode cX9_passDays 22 = .ok (.bipush 30, 2) := by decide +kernel
theorem dX9_passDays_24 : decode cX9_passDays 24 = .ok (.aload_n 0, 1) := by decide +kernel
theorem dX9_passDays_25 : decode cX9_passDays 25 = .ok (.getfield 12, 3) := by decide +kernel
theorem dX9_passDays_28 : decode cX9_passDays 28 = .ok (.getfield 213, 3) := by decide +kernel
theorem dX9_passDays_31 : decode cX9_passDays 31 = .ok (.isub, 1) := by decide +kernel
theorem dX9_passDays_32 : decode cX9_passDays 32 = .ok (.if_icmp .le 13, 3) := by decide +kernel
theorem dX9_passDays_35 : decode cX9_passDays 35 = .ok (.new 66, 3) := by decide +kernel
theorem dX9_passDays_38 : decode cX9_passDays 38 = .ok (.dup, 1) := by decide +kernel
theorem dX9_passDays_39 : decode cX9_passDays 39 = .ok (.ldc 216, 2) := by decide +kernel
theorem dX9_passDays_41 : decode cX9_passDays 41 = .ok (.invokespecial 70, 3) := by decide +kernel
theorem dX9_passDays_44 : decode cX9_passDays 44 = .ok (.athrow, 1) := by decide +kernel
theorem dX9_passDays_45 : decode cX9_passDays 45 = .ok (.aload_n 0, 1) := by decide +kernel
theorem dX9_passDays_46 : decode cX9_passDays 46 = .ok (.getfield 19, 3) := by decide +kernel
theorem dX9_passDays_49 : decode cX9_passDays 49 = .ok (.aload_n 0, 1) := by decide +kernel
theorem dX9_passDays_50 : decode cX9_passDays 50 = .ok (.getfield 12, 3) := by decide +kernel
theorem dX9_passDays_53 : decode cX9_passDays 53 = .ok (.invokevirtual 92, 3) := by decide +kernel
theorem dX9_passDays_56 : decode cX9_passDays 56 = .ok (.aload_n 0, 1) := by decide +kernel
theorem dX9_passDays_57 : decode cX9_passDays 57 = .ok (.getfield 12, 3) := by decide +kernel
theorem dX9_passDays_60 : decode cX9_passDays 60 = .ok (.iload_n 1, 1) := by decide +kernel
theorem dX9_passDays_61 : decode cX9_passDays 61 = .ok (.invokevirtual 218, 3) := by decide +kernel
theorem dX9_passDays_64 : decode cX9_passDays 64 = .ok (.aload_n 0, 1) := by decide +kernel
theorem dX9_passDays_65 : decode cX9_passDays 65 = .ok (.getfield 12, 3) := by decide +kernel
theorem dX9_passDays_68 : decode cX9_passDays 68 = .ok (.getfield 213, 3) := by decide +kernel
theorem dX9_passDays_71 : decode cX9_passDays 71 = .ok (.ireturn, 1) := by decide +kernel
theorem dX9_generate_0 : decode cX9_generate 0 = .ok (.aload_n 0, 1) := by decide +kernel
theorem dX9_generate_1 : decode cX9_generate 1 = .ok (.iload_n 1, 1) := by decide +kernel
theorem dX9_generate_2 : decode cX9_generate 2 = .ok (.invokevirtual 128, 3) := by decide +kernel
theorem dX9_generate_5 : decode cX9_generate 5 = .ok (.iload_n 2, 1) := by decide +kernel
theorem dX9_generate_6 : decode cX9_generate 6 = .ok (.iconst 1, 1) := by decide +kernel
theorem dX9_generate_7 : decode cX9_generate 7 = .ok (.if_icmp .lt 9, 3) := by decide +kernel
theorem dX9_generate_10 : decode cX9_generate 10 = .ok (.iload_n 2, 1) := by decide +kernel
theorem dX9_generate_11 : decode cX9_generate 11 = .ok (.ldc 221, 2) := by decide +kernel
theorem dX9_generate_13 : decode cX9_generate 13 = .ok (.if_icmp .le 13, 3) := by decide +kernel
theorem dX9_generate_16 : decode cX9_generate 16 = .ok (.new 80, 3) := by decide +kernel
theorem dX9_generate_19 : decode cX9_generate 19 = .ok (.dup, 1) := by decide +kernel
theorem dX9_generate_20 : decode cX9_generate 20 = .ok (.ldc 222, 2) := by decide +kernel
theorem dX9_generate_22 : decode cX9_generate 22 = .ok (.invokespecial 84, 3) := by decide +kernel
theorem dX9_generate_25 : decode cX9_generate 25 = .ok (.athrow, 1) := by decide +kernel
theorem dX9_generate_26 : decode cX9_generate 26 = .ok (.aload_n 0, 1) := by decide +kernel
theorem dX9_generate_27 : decode cX9_generate 27 = .ok (.getfield 12, 3) := by decide +kernel
theorem dX9_generate_30 : decode cX9_generate 30 = .ok (.getfield 224, 3) := by decide +kernel
theorem dX9_generate_33 : decode cX9_generate 33 = .ok (.aload_n 0, 1) := by decide +kernel
theorem dX9_generate_34 : decode cX9_generate 34 = .ok (.getfield 12, 3) := by decide +kernel
theorem dX9_generate_37 : decode cX9_generate 37 = .ok (.getfield 104, 3) := by decide +kernel
theorem dX9_generate_40 : decode cX9_generate 40 = .ok (.getfield 131, 3) := by decide +kernel
theorem dX9_generate_43 : decode cX9_generate 43 = .ok (.iload_n 1, 1) := by decide +kernel
theorem dX9_generate_44 : decode cX9_generate 44 = .ok (.iaload, 1) := by decide +kernel
theorem dX9_generate_45 : decode cX9_generate 45 = .ok (.invokestatic 227, 3) := by decide +kernel
theorem dX9_generate_48 : decode cX9_generate 48 = .ok (.istore_n 3, 1) := by decide +kernel
theorem dX9_generate_49 : decode cX9_generate 49 = .ok (.aload_n 0, 1) := by decide +kernel
theorem dX9_generate_50 : decode cX9_generate 50 = .ok (.getfield 12, 3) := by decide +kernel
theorem dX9_generate_53 : decode cX9_generate 53 = .ok (.getfield 233, 3) := by decide +kernel
theorem dX9_generate_56 : decode cX9_generate 56 = .ok (.getfield 237, 3) := by decide +kernel
theorem dX9_generate_59 : decode cX9_generate 59 = .ok (.astore 4, 2) := by decide +kernel
theorem dX9_generate_61 : decode cX9_generate 61 = .ok (.iload_n 2, 1) := by decide +kernel
theorem dX9_generate_62 : decode cX9_generate 62 = .ok (.ldc 221, 2) := by decide +kernel
theorem dX9_generate_64 : decode cX9_generate 64 = .ok (.aload 4, 2) := by decide +kernel
theorem dX9_generate_66 : decode cX9_generate 66 = .ok (.iload_n 3, 1) := by decide +kernel
theorem dX9_generate_67 : decode cX9_generate 67 = .ok (.iaload, 1) := by decide +kernel
theorem dX9_generate_68 : decode cX9_generate 68 = .ok (.isub, 1) := by decide +kernel
theorem dX9_generate_69 : decode cX9_generate 69 = .ok (.if_icmp .le 13, 3) := by decide +kernel
theorem dX9_generate_72 : decode cX9_generate 72 = .ok (.new 66, 3) := by decide +kernel
theorem dX9_generate_75 : decode cX9_generate 75 = .ok (.dup, 1) := by decide +kernel
theorem dX9_generate_76 : decode cX9_generate 76 = .ok (.ldc 240, 2) := by decide +kernel
theorem dX9_generate_78 : decode cX9_generate 78 = .ok (.invokespecial 70, 3) := by decide +kernel
theorem dX9_generate_81 : decode cX9_generate 81 = .ok (.athrow, 1) := by decide +kernel
theorem dX9_generate_82 : decode cX9_generate 82 = .ok (.aload_n 0, 1) := by decide +kernel
theorem dX9_generate_83 : decode cX9_generate 83 = .ok (.getfield 19, 3) := by decide +kernel
theorem dX9_generate_86 : decode cX9_generate 86 = .ok (.aload_n 0, 1) := by decide +kernel
theorem dX9_generate_87 : decode cX9_generate 87 = .ok (.getfield 12, 3) := by decide +kernel
theorem dX9_generate_90 : decode cX9_generate 90 = .ok (.invokevirtual 92, 3) := by decide +kernel
theorem dX9_generate_93 : decode cX9_generate 93 = .ok (.aload 4, 2) := by decide +kernel
theorem dX9_generate_95 : decode cX9_generate 95 = .ok (.iload_n 3, 1) := by decide +kernel
theorem dX9_generate_96 : decode cX9_generate 96 = .ok (.dup2, 1) := by decide +kernel
theorem dX9_generate_97 : decode cX9_generate 97 = .ok (.iaload, 1) := by decide +kernel
theorem dX9_generate_98 : decode cX9_generate 98 = .ok (.iload_n 2, 1) := by decide +kernel
theorem dX9_generate_99 : decode cX9_generate 99 = .ok (.iadd, 1) := by decide +kernel
theorem dX9_generate_100 : decode cX9_generate 100 = .ok (.iastore, 1) := by decide +kernel
theorem dX9_generate_101 : decode cX9_generate 101 = .ok (.aload 4, 2) := by decide +kernel
theorem dX9_generate_103 : decode cX9_generate 103 = .ok (.iload_n 3, 1) := by decide +kernel
theorem dX9_generate_104 : decode cX9_generate 104 = .ok (.iaload, 1) := by decide +kernel
theorem dX9_generate_105 : decode cX9_generate 105 = .ok (.ireturn, 1) := by decide +kernel
theorem dX9_bill_0 : decode cX9_bill 0 = .ok (.aload_n 0, 1) := by decide +kernel
theorem dX9_bill_1 : decode cX9_bill 1 = .ok (.iload_n 1, 1) := by decide +kernel
theorem dX9_bill_2 : decode cX9_bill 2 = .ok (.invokevirtual 150, 3) := by decide +kernel
theorem dX9_bill_5 : decode cX9_bill 5 = .ok (.iload_n 2, 1) := by decide +kernel
theorem dX9_bill_6 : decode cX9_bill 6 = .ok (.iconst 1, 1) := by decide +kernel
theorem dX9_bill_7 : decode cX9_bill 7 = .ok (.if_icmp .lt 9, 3) := by decide +kernel
theorem dX9_bill_10 : decode cX9_bill 10 = .ok (.iload_n 2, 1) := by decide +kernel
theorem dX9_bill_11 : decode cX9_bill 11 = .ok (.ldc 221, 2) := by decide +kernel
theorem dX9_bill_13 : decode cX9_bill 13 = .ok (.if_icmp .le 13, 3) := by decide +kernel
theorem dX9_bill_16 : decode cX9_bill 16 = .ok (.new 80, 3) := by decide +kernel
theorem dX9_bill_19 : decode cX9_bill 19 = .ok (.dup, 1) := by decide +kernel
theorem dX9_bill_20 : decode cX9_bill 20 = .ok (.ldc 242, 2) := by decide +kernel
theorem dX9_bill_22 : decode cX9_bill 22 = .ok (.invokespecial 84, 3) := by decide +kernel
theorem dX9_bill_25 : decode cX9_bill 25 = .ok (.athrow, 1) := by decide +kernel
theorem dX9_bill_26 : decode cX9_bill 26 = .ok (.aload_n 0, 1) := by decide +kernel
theorem dX9_bill_27 : decode cX9_bill 27 = .ok (.iload_n 1, 1) := by decide +kernel
theorem dX9_bill_28 : decode cX9_bill 28 = .ok (.invokevirtual 156, 3) := by decide +kernel
theorem dX9_bill_31 : decode cX9_bill 31 = .ok (.aload_n 0, 1) := by decide +kernel
theorem dX9_bill_32 : decode cX9_bill 32 = .ok (.getfield 12, 3) := by decide +kernel
theorem dX9_bill_35 : decode cX9_bill 35 = .ok (.getfield 159, 3) := by decide +kernel
theorem dX9_bill_38 : decode cX9_bill 38 = .ok (.iload_n 1, 1) := by decide +kernel
theorem dX9_bill_39 : decode cX9_bill 39 = .ok (.aaload, 1) := by decide +kernel
theorem dX9_bill_40 : decode cX9_bill 40 = .ok (.getfield 204, 3) := by decide +kernel
theorem dX9_bill_43 : decode cX9_bill 43 = .ok (.astore_n 3, 1) := by decide +kernel
theorem dX9_bill_44 : decode cX9_bill 44 = .ok (.iload_n 2, 1) := by decide +kernel
theorem dX9_bill_45 : decode cX9_bill 45 = .ok (.i2l, 1) := by decide +kernel
theorem dX9_bill_46 : decode cX9_bill 46 = .ok (.ldc2_w 244, 3) := by decide +kernel
theorem dX9_bill_49 : decode cX9_bill 49 = .ok (.aload_n 3, 1) := by decide +kernel
theorem dX9_bill_50 : decode cX9_bill 50 = .ok (.iconst 1, 1) := by decide +kernel
theorem dX9_bill_51 : decode cX9_bill 51 = .ok (.laload, 1) := by decide +kernel
theorem dX9_bill_52 : decode cX9_bill 52 = .ok (.lsub, 1) := by decide +kernel
theorem dX9_bill_53 : decode cX9_bill 53 = .ok (.lcmp, 1) := by decide +kernel
theorem dX9_bill_54 : decode cX9_bill 54 = .ok (.ifCond .le 13, 3) := by decide +kernel
theorem dX9_bill_57 : decode cX9_bill 57 = .ok (.new 66, 3) := by decide +kernel
theorem dX9_bill_60 : decode cX9_bill 60 = .ok (.dup, 1) := by decide +kernel
theorem dX9_bill_61 : decode cX9_bill 61 = .ok (.ldc 246, 2) := by decide +kernel
theorem dX9_bill_63 : decode cX9_bill 63 = .ok (.invokespecial 70, 3) := by decide +kernel
theorem dX9_bill_66 : decode cX9_bill 66 = .ok (.athrow, 1) := by decide +kernel
theorem dX9_bill_67 : decode cX9_bill 67 = .ok (.aload_n 0, 1) := by decide +kernel
theorem dX9_bill_68 : decode cX9_bill 68 = .ok (.getfield 19, 3) := by decide +kernel
theorem dX9_bill_71 : decode cX9_bill 71 = .ok (.aload_n 0, 1) := by decide +kernel
theorem dX9_bill_72 : decode cX9_bill 72 = .ok (.getfield 12, 3) := by decide +kernel
theorem dX9_bill_75 : decode cX9_bill 75 = .ok (.invokevirtual 92, 3) := by decide +kernel
theorem dX9_bill_78 : decode cX9_bill 78 = .ok (.aload_n 3, 1) := by decide +kernel
theorem dX9_bill_79 : decode cX9_bill 79 = .ok (.iconst 1, 1) := by decide +kernel
theorem dX9_bill_80 : decode cX9_bill 80 = .ok (.dup2, 1) := by decide +kernel
theorem dX9_bill_81 : decode cX9_bill 81 = .ok (.laload, 1) := by decide +kernel
theorem dX9_bill_82 : decode cX9_bill 82 = .ok (.iload_n 2, 1) := by decide +kernel
theorem dX9_bill_83 : decode cX9_bill 83 = .ok (.i2l, 1) := by decide +kernel
theorem dX9_bill_84 : decode cX9_bill 84 = .ok (.ladd, 1) := by decide +kernel
theorem dX9_bill_85 : decode cX9_bill 85 = .ok (.lastore, 1) := by decide +kernel
theorem dX9_bill_86 : decode cX9_bill 86 = .ok (.aload_n 3, 1) := by decide +kernel
theorem dX9_bill_87 : decode cX9_bill 87 = .ok (.iconst 1, 1) := by decide +kernel
theorem dX9_bill_88 : decode cX9_bill 88 = .ok (.laload, 1) := by decide +kernel
theorem dX9_bill_89 : decode cX9_bill 89 = .ok (.lreturn, 1) := by decide +kernel
theorem dX9_endMonth_0 : decode cX9_endMonth 0 = .ok (.aload_n 0, 1) := by decide +kernel
theorem dX9_endMonth_1 : decode cX9_endMonth 1 = .ok (.getfield 12, 3) := by decide +kernel
theorem dX9_endMonth_4 : decode cX9_endMonth 4 = .ok (.getfield 213, 3) := by decide +kernel
theorem dX9_endMonth_7 : decode cX9_endMonth 7 = .ok (.bipush 30, 2) := by decide +kernel
theorem dX9_endMonth_9 : decode cX9_endMonth 9 = .ok (.if_icmp .ge 13, 3) := by decide +kernel
theorem dX9_endMonth_12 : decode cX9_endMonth 12 = .ok (.new 66, 3) := by decide +kernel
theorem dX9_endMonth_15 : decode cX9_endMonth 15 = .ok (.dup, 1) := by decide +kernel
theorem dX9_endMonth_16 : decode cX9_endMonth 16 = .ok (.ldc 248, 2) := by decide +kernel
theorem dX9_endMonth_18 : decode cX9_endMonth 18 = .ok (.invokespecial 70, 3) := by decide +kernel
theorem dX9_endMonth_21 : decode cX9_endMonth 21 = .ok (.athrow, 1) := by decide +kernel
theorem dX9_endMonth_22 : decode cX9_endMonth 22 = .ok (.aload_n 0, 1) := by decide +kernel
theorem dX9_endMonth_23 : decode cX9_endMonth 23 = .ok (.getfield 12, 3) := by decide +kernel
theorem dX9_endMonth_26 : decode cX9_endMonth 26 = .ok (.getfield 224, 3) := by decide +kernel
theorem dX9_endMonth_29 : decode cX9_endMonth 29 = .ok (.bipush 59, 2) := by decide +kernel
theorem dX9_endMonth_31 : decode cX9_endMonth 31 = .ok (.if_icmp .lt 13, 3) := by decide +kernel
theorem dX9_endMonth_34 : decode cX9_endMonth 34 = .ok (.new 66, 3) := by decide +kernel
theorem dX9_endMonth_37 : decode cX9_endMonth 37 = .ok (.dup, 1) := by decide +kernel
theorem dX9_endMonth_38 : decode cX9_endMonth 38 = .ok (.ldc 250, 2) := by decide +kernel
theorem dX9_endMonth_40 : decode cX9_endMonth 40 = .ok (.invokespecial 70, 3) := by decide +kernel
theorem dX9_endMonth_43 : decode cX9_endMonth 43 = .ok (.athrow, 1) := by decide +kernel
theorem dX9_endMonth_44 : decode cX9_endMonth 44 = .ok (.aload_n 0, 1) := by decide +kernel
theorem dX9_endMonth_45 : decode cX9_endMonth 45 = .ok (.getfield 19, 3) := by decide +kernel
theorem dX9_endMonth_48 : decode cX9_endMonth 48 = .ok (.aload_n 0, 1) := by decide +kernel
theorem dX9_endMonth_49 : decode cX9_endMonth 49 = .ok (.getfield 12, 3) := by decide +kernel
theorem dX9_endMonth_52 : decode cX9_endMonth 52 = .ok (.invokevirtual 92, 3) := by decide +kernel
theorem dX9_endMonth_55 : decode cX9_endMonth 55 = .ok (.aload_n 0, 1) := by decide +kernel
theorem dX9_endMonth_56 : decode cX9_endMonth 56 = .ok (.getfield 12, 3) := by decide +kernel
theorem dX9_endMonth_59 : decode cX9_endMonth 59 = .ok (.aload_n 0, 1) := by decide +kernel
theorem dX9_endMonth_60 : decode cX9_endMonth 60 = .ok (.getfield 12, 3) := by decide +kernel
theorem dX9_endMonth_63 : decode cX9_endMonth 63 = .ok (.getfield 224, 3) := by decide +kernel
theorem dX9_endMonth_66 : decode cX9_endMonth 66 = .ok (.invokevirtual 252, 3) := by decide +kernel
theorem dX9_endMonth_69 : decode cX9_endMonth 69 = .ok (.lstore_n 1, 1) := by decide +kernel
theorem dX9_endMonth_70 : decode cX9_endMonth 70 = .ok (.aload_n 0, 1) := by decide +kernel
theorem dX9_endMonth_71 : decode cX9_endMonth 71 = .ok (.getfield 40, 3) := by decide +kernel
theorem dX9_endMonth_74 : decode cX9_endMonth 74 = .ok (.aload_n 0, 1) := by decide +kernel
theorem dX9_endMonth_75 : decode cX9_endMonth 75 = .ok (.getfield 12, 3) := by decide +kernel
theorem dX9_endMonth_78 : decode cX9_endMonth 78 = .ok (.aload_n 0, 1) := by decide +kernel
theorem dX9_endMonth_79 : decode cX9_endMonth 79 = .ok (.getfield 12, 3) := by decide +kernel
theorem dX9_endMonth_82 : decode cX9_endMonth 82 = .ok (.getfield 224, 3) := by decide +kernel
theorem dX9_endMonth_85 : decode cX9_endMonth 85 = .ok (.iconst 0, 1) := by decide +kernel
theorem dX9_endMonth_86 : decode cX9_endMonth 86 = .ok (.invokevirtual 256, 3) := by decide +kernel
theorem dX9_endMonth_89 : decode cX9_endMonth 89 = .ok (.aload_n 0, 1) := by decide +kernel
theorem dX9_endMonth_90 : decode cX9_endMonth 90 = .ok (.getfield 40, 3) := by decide +kernel
theorem dX9_endMonth_93 : decode cX9_endMonth 93 = .ok (.lload_n 1, 1) := by decide +kernel
theorem dX9_endMonth_94 : decode cX9_endMonth 94 = .ok (.invokevirtual 260, 3) := by decide +kernel
theorem dX9_endMonth_97 : decode cX9_endMonth 97 = .ok (.aload_n 0, 1) := by decide +kernel
theorem dX9_endMonth_98 : decode cX9_endMonth 98 = .ok (.getfield 47, 3) := by decide +kernel
theorem dX9_endMonth_101 : decode cX9_endMonth 101 = .ok (.aload_n 0, 1) := by decide +kernel
theorem dX9_endMonth_102 : decode cX9_endMonth 102 = .ok (.getfield 12, 3) := by decide +kernel
theorem dX9_endMonth_105 : decode cX9_endMonth 105 = .ok (.aload_n 0, 1) := by decide +kernel
theorem dX9_endMonth_106 : decode cX9_endMonth 106 = .ok (.getfield 40, 3) := by decide +kernel
theorem dX9_endMonth_109 : decode cX9_endMonth 109 = .ok (.getfield 264, 3) := by decide +kernel
theorem dX9_endMonth_112 : decode cX9_endMonth 112 = .ok (.invokevirtual 267, 3) := by decide +kernel
theorem dX9_endMonth_115 : decode cX9_endMonth 115 = .ok (.aload_n 0, 1) := by decide +kernel
theorem dX9_endMonth_116 : decode cX9_endMonth 116 = .ok (.getfield 12, 3) := by decide +kernel
theorem dX9_endMonth_119 : decode cX9_endMonth 119 = .ok (.aload_n 0, 1) := by decide +kernel
theorem dX9_endMonth_120 : decode cX9_endMonth 120 = .ok (.getfield 40, 3) := by decide +kernel
theorem dX9_endMonth_123 : decode cX9_endMonth 123 = .ok (.getfield 264, 3) := by decide +kernel
theorem dX9_endMonth_126 : decode cX9_endMonth 126 = .ok (.aload_n 0, 1) := by decide +kernel
theorem dX9_endMonth_127 : decode cX9_endMonth 127 = .ok (.getfield 47, 3) := by decide +kernel
theorem dX9_endMonth_130 : decode cX9_endMonth 130 = .ok (.getfield 271, 3) := by decide +kernel
theorem dX9_endMonth_133 : decode cX9_endMonth 133 = .ok (.invokevirtual 274, 3) := by decide +kernel
theorem dX9_endMonth_136 : decode cX9_endMonth 136 = .ok (.lload_n 1, 1) := by decide +kernel
theorem dX9_endMonth_137 : decode cX9_endMonth 137 = .ok (.lreturn, 1) := by decide +kernel
theorem dX9_month_0 : decode cX9_month 0 = .ok (.aload_n 0, 1) := by decide +kernel
theorem dX9_month_1 : decode cX9_month 1 = .ok (.getfield 12, 3) := by decide +kernel
theorem dX9_month_4 : decode cX9_month 4 = .ok (.getfield 224, 3) := by decide +kernel
theorem dX9_month_7 : decode cX9_month 7 = .ok (.ireturn, 1) := by decide +kernel
theorem dX9_generation_0 : decode cX9_generation 0 = .ok (.aload_n 0, 1) := by decide +kernel
theorem dX9_generation_1 : decode cX9_generation 1 = .ok (.iload_n 1, 1) := by decide +kernel
theorem dX9_generation_2 : decode cX9_generation 2 = .ok (.invokevirtual 278, 3) := by decide +kernel
theorem dX9_generation_5 : decode cX9_generation 5 = .ok (.aload_n 0, 1) := by decide +kernel
theorem dX9_generation_6 : decode cX9_generation 6 = .ok (.iload_n 2, 1) := by decide +kernel
theorem dX9_generation_7 : decode cX9_generation 7 = .ok (.invokevirtual 281, 3) := by decide +kernel
theorem dX9_generation_10 : decode cX9_generation 10 = .ok (.aload_n 0, 1) := by decide +kernel
theorem dX9_generation_11 : decode cX9_generation 11 = .ok (.getfield 12, 3) := by decide +kernel
theorem dX9_generation_14 : decode cX9_generation 14 = .ok (.getfield 233, 3) := by decide +kernel
theorem dX9_generation_17 : decode cX9_generation 17 = .ok (.getfield 237, 3) := by decide +kernel
theorem dX9_generation_20 : decode cX9_generation 20 = .ok (.iload_n 1, 1) := by decide +kernel
theorem dX9_generation_21 : decode cX9_generation 21 = .ok (.iload_n 2, 1) := by decide +kernel
theorem dX9_generation_22 : decode cX9_generation 22 = .ok (.invokestatic 227, 3) := by decide +kernel
theorem dX9_generation_25 : decode cX9_generation 25 = .ok (.iaload, 1) := by decide +kernel
theorem dX9_generation_26 : decode cX9_generation 26 = .ok (.ireturn, 1) := by decide +kernel
theorem dX9_shareDays_0 : decode cX9_shareDays 0 = .ok (.aload_n 0, 1) := by decide +kernel
theorem dX9_shareDays_1 : decode cX9_shareDays 1 = .ok (.iload_n 1, 1) := by decide +kernel
theorem dX9_shareDays_2 : decode cX9_shareDays 2 = .ok (.invokevirtual 278, 3) := by decide +kernel
theorem dX9_shareDays_5 : decode cX9_shareDays 5 = .ok (.aload_n 0, 1) := by decide +kernel
theorem dX9_shareDays_6 : decode cX9_shareDays 6 = .ok (.iload_n 2, 1) := by decide +kernel
theorem dX9_shareDays_7 : decode cX9_shareDays 7 = .ok (.invokevirtual 284, 3) := by decide +kernel
theorem dX9_shareDays_10 : decode cX9_shareDays 10 = .ok (.iload_n 2, 1) := by decide +kernel
theorem dX9_shareDays_11 : decode cX9_shareDays 11 = .ok (.iconst (-1), 1) := by decide +kernel
theorem dX9_shareDays_12 : decode cX9_shareDays 12 = .ok (.if_icmp .ne 12, 3) := by decide +kernel
theorem dX9_shareDays_15 : decode cX9_shareDays 15 = .ok (.aload_n 0, 1) := by decide +kernel
theorem dX9_shareDays_16 : decode cX9_shareDays 16 = .ok (.getfield 12, 3) := by decide +kernel
theorem dX9_shareDays_19 : decode cX9_shareDays 19 = .ok (.iload_n 1, 1) := by decide +kernel
theorem dX9_shareDays_20 : decode cX9_shareDays 20 = .ok (.invokevirtual 287, 3) := by decide +kernel
theorem dX9_shareDays_23 : decode cX9_shareDays 23 = .ok (.ireturn, 1) := by decide +kernel
theorem dX9_shareDays_24 : decode cX9_shareDays 24 = .ok (.aload_n 0, 1) := by decide +kernel
theorem dX9_shareDays_25 : decode cX9_shareDays 25 = .ok (.getfield 12, 3) := by decide +kernel
theorem dX9_shareDays_28 : decode cX9_shareDays 28 = .ok (.getfield 159, 3) := by decide +kernel
theorem dX9_shareDays_31 : decode cX9_shareDays 31 = .ok (.iload_n 2, 1) := by decide +kernel
theorem dX9_shareDays_32 : decode cX9_shareDays 32 = .ok (.aaload, 1) := by decide +kernel
theorem dX9_shareDays_33 : decode cX9_shareDays 33 = .ok (.getfield 290, 3) := by decide +kernel
theorem dX9_shareDays_36 : decode cX9_shareDays 36 = .ok (.iload_n 1, 1) := by decide +kernel
theorem dX9_shareDays_37 : decode cX9_shareDays 37 = .ok (.iaload, 1) := by decide +kernel
theorem dX9_shareDays_38 : decode cX9_shareDays 38 = .ok (.ireturn, 1) := by decide +kernel
theorem dX9_projectedPart_0 : decode cX9_projectedPart 0 = .ok (.aload_n 0, 1) := by decide +kernel
theorem dX9_projectedPart_1 : decode cX9_projectedPart 1 = .ok (.iload_n 1, 1) := by decide +kernel
theorem dX9_projectedPart_2 : decode cX9_projectedPart 2 = .ok (.invokevirtual 284, 3) := by decide +kernel
theorem dX9_projectedPart_5 : decode cX9_projectedPart 5 = .ok (.aload_n 0, 1) := by decide +kernel
theorem dX9_projectedPart_6 : decode cX9_projectedPart 6 = .ok (.invokevirtual 293, 3) := by decide +kernel
theorem dX9_projectedPart_9 : decode cX9_projectedPart 9 = .ok (.aload_n 0, 1) := by decide +kernel
theorem dX9_projectedPart_10 : decode cX9_projectedPart 10 = .ok (.getfield 40, 3) := by decide +kernel
theorem dX9_projectedPart_13 : decode cX9_projectedPart 13 = .ok (.aload_n 0, 1) := by decide +kernel
theorem dX9_projectedPart_14 : decode cX9_projectedPart 14 = .ok (.getfield 12, 3) := by decide +kernel
theorem dX9_projectedPart_17 : decode cX9_projectedPart 17 = .ok (.aload_n 0, 1) := by decide +kernel
theorem dX9_projectedPart_18 : decode cX9_projectedPart 18 = .ok (.getfield 12, 3) := by decide +kernel
theorem dX9_projectedPart_21 : decode cX9_projectedPart 21 = .ok (.getfield 224, 3) := by decide +kernel
theorem dX9_projectedPart_24 : decode cX9_projectedPart 24 = .ok (.invokevirtual 252, 3) := by decide +kernel
theorem dX9_projectedPart_27 : decode cX9_projectedPart 27 = .ok (.invokevirtual 260, 3) := by decide +kernel
theorem dX9_projectedPart_30 : decode cX9_projectedPart 30 = .ok (.aload_n 0, 1) := by decide +kernel
theorem dX9_projectedPart_31 : decode cX9_projectedPart 31 = .ok (.getfield 40, 3) := by decide +kernel
theorem dX9_projectedPart_34 : decode cX9_projectedPart 34 = .ok (.getfield 264, 3) := by decide +kernel
theorem dX9_projectedPart_37 : decode cX9_projectedPart 37 = .ok (.iload_n 1, 1) := by decide +kernel
theorem dX9_projectedPart_38 : decode cX9_projectedPart 38 = .ok (.invokestatic 296, 3) := by decide +kernel
theorem dX9_projectedPart_41 : decode cX9_projectedPart 41 = .ok (.laload, 1) := by decide +kernel
theorem dX9_projectedPart_42 : decode cX9_projectedPart 42 = .ok (.lreturn, 1) := by decide +kernel
theorem dX9_projectedCredit_0 : decode cX9_projectedCredit 0 = .ok (.aload_n 0, 1) := by decide +kernel
theorem dX9_projectedCredit_1 : decode cX9_projectedCredit 1 = .ok (.iload_n 1, 1) := by decide +kernel
theorem dX9_projectedCredit_2 : decode cX9_projectedCredit 2 = .ok (.invokevirtual 150, 3) := by decide +kernel
theorem dX9_projectedCredit_5 : decode cX9_projectedCredit 5 = .ok (.aload_n 0, 1) := by decide +kernel
theorem dX9_projectedCredit_6 : decode cX9_projectedCredit 6 = .ok (.invokevirtual 293, 3) := by decide +kernel
theorem dX9_projectedCredit_9 : decode cX9_projectedCredit 9 = .ok (.aload_n 0, 1) := by decide +kernel
theorem dX9_projectedCredit_10 : decode cX9_projectedCredit 10 = .ok (.getfield 40, 3) := by decide +kernel
theorem dX9_projectedCredit_13 : decode cX9_projectedCredit 13 = .ok (.aload_n 0, 1) := by decide +kernel
theorem dX9_projectedCredit_14 : decode cX9_projectedCredit 14 = .ok (.getfield 12, 3) := by decide +kernel
theorem dX9_projectedCredit_17 : decode cX9_projectedCredit 17 = .ok (.aload_n 0, 1) := by decide +kernel
theorem dX9_projectedCredit_18 : decode cX9_projectedCredit 18 = .ok (.getfield 12, 3) := by decide +kernel
theorem dX9_projectedCredit_21 : decode cX9_projectedCredit 21 = .ok (.getfield 224, 3) := by decide +kernel
theorem dX9_projectedCredit_24 : decode cX9_projectedCredit 24 = .ok (.invokevirtual 252, 3) := by decide +kernel
theorem dX9_projectedCredit_27 : decode cX9_projectedCredit 27 = .ok (.invokevirtual 260, 3) := by decide +kernel
theorem dX9_projectedCredit_30 : decode cX9_projectedCredit 30 = .ok (.aload_n 0, 1) := by decide +kernel
theorem dX9_projectedCredit_31 : decode cX9_projectedCredit 31 = .ok (.getfield 47, 3) := by decide +kernel
theorem dX9_projectedCredit_34 : decode cX9_projectedCredit 34 = .ok (.aload_n 0, 1) := by decide +kernel
theorem dX9_projectedCredit_35 : decode cX9_projectedCredit 35 = .ok (.getfield 12, 3) := by decide +kernel
theorem dX9_projectedCredit_38 : decode cX9_projectedCredit 38 = .ok (.aload_n 0, 1) := by decide +kernel
theorem dX9_projectedCredit_39 : decode cX9_projectedCredit 39 = .ok (.getfield 40, 3) := by decide +kernel
theorem dX9_projectedCredit_42 : decode cX9_projectedCredit 42 = .ok (.getfield 264, 3) := by decide +kernel
theorem dX9_projectedCredit_45 : decode cX9_projectedCredit 45 = .ok (.invokevirtual 267, 3) := by decide +kernel
theorem dX9_projectedCredit_48 : decode cX9_projectedCredit 48 = .ok (.aload_n 0, 1) := by decide +kernel
theorem dX9_projectedCredit_49 : decode cX9_projectedCredit 49 = .ok (.getfield 47, 3) := by decide +kernel
theorem dX9_projectedCredit_52 : decode cX9_projectedCredit 52 = .ok (.getfield 271, 3) := by decide +kernel
theorem dX9_projectedCredit_55 : decode cX9_projectedCredit 55 = .ok (.iload_n 1, 1) := by decide +kernel
theorem dX9_projectedCredit_56 : decode cX9_projectedCredit 56 = .ok (.laload, 1) := by decide +kernel
theorem dX9_projectedCredit_57 : decode cX9_projectedCredit 57 = .ok (.lreturn, 1) := by decide +kernel
theorem dX9_forecastBalance_0 : decode cX9_forecastBalance 0 = .ok (.aload_n 0, 1) := by decide +kernel
theorem dX9_forecastBalance_1 : decode cX9_forecastBalance 1 = .ok (.iload_n 1, 1) := by decide +kernel
theorem dX9_forecastBalance_2 : decode cX9_forecastBalance 2 = .ok (.invokevirtual 150, 3) := by decide +kernel
theorem dX9_forecastBalance_5 : decode cX9_forecastBalance 5 = .ok (.iload_n 2, 1) := by decide +kernel
theorem dX9_forecastBalance_6 : decode cX9_forecastBalance 6 = .ok (.iconst 1, 1) := by decide +kernel
theorem dX9_forecastBalance_7 : decode cX9_forecastBalance 7 = .ok (.if_icmp .lt 9, 3) := by decide +kernel
theorem dX9_forecastBalance_10 : decode cX9_forecastBalance 10 = .ok (.iload_n 2, 1) := by decide +kernel
theorem dX9_forecastBalance_11 : decode cX9_forecastBalance 11 = .ok (.bipush 12, 2) := by decide +kernel
theorem dX9_forecastBalance_13 : decode cX9_forecastBalance 13 = .ok (.if_icmp .le 14, 3) := by decide +kernel
theorem dX9_forecastBalance_16 : decode cX9_forecastBalance 16 = .ok (.new 80, 3) := by decide +kernel
theorem dX9_forecastBalance_19 : decode cX9_forecastBalance 19 = .ok (.dup, 1) := by decide +kernel
theorem dX9_forecastBalance_20 : decode cX9_forecastBalance 20 = .ok (.ldc_w 299, 3) := by decide +kernel
theorem dX9_forecastBalance_23 : decode cX9_forecastBalance 23 = .ok (.invokespecial 84, 3) := by decide +kernel
theorem dX9_forecastBalance_26 : decode cX9_forecastBalance 26 = .ok (.athrow, 1) := by decide +kernel
theorem dX9_forecastBalance_27 : decode cX9_forecastBalance 27 = .ok (.aload_n 0, 1) := by decide +kernel
theorem dX9_forecastBalance_28 : decode cX9_forecastBalance 28 = .ok (.getfield 54, 3) := by decide +kernel
theorem dX9_forecastBalance_31 : decode cX9_forecastBalance 31 = .ok (.aload_n 0, 1) := by decide +kernel
theorem dX9_forecastBalance_32 : decode cX9_forecastBalance 32 = .ok (.getfield 12, 3) := by decide +kernel
theorem dX9_forecastBalance_35 : decode cX9_forecastBalance 35 = .ok (.getfield 159, 3) := by decide +kernel
theorem dX9_forecastBalance_38 : decode cX9_forecastBalance 38 = .ok (.iload_n 1, 1) := by decide +kernel
theorem dX9_forecastBalance_39 : decode cX9_forecastBalance 39 = .ok (.aaload, 1) := by decide +kernel
theorem dX9_forecastBalance_40 : decode cX9_forecastBalance 40 = .ok (.invokevirtual 301, 3) := by decide +kernel
theorem dX9_forecastBalance_43 : decode cX9_forecastBalance 43 = .ok (.aload_n 0, 1) := by decide +kernel
theorem dX9_forecastBalance_44 : decode cX9_forecastBalance 44 = .ok (.getfield 12, 3) := by decide +kernel
theorem dX9_forecastBalance_47 : decode cX9_forecastBalance 47 = .ok (.aload_n 0, 1) := by decide +kernel
theorem dX9_forecastBalance_48 : decode cX9_forecastBalance 48 = .ok (.getfield 12, 3) := by decide +kernel
theorem dX9_forecastBalance_51 : decode cX9_forecastBalance 51 = .ok (.getfield 224, 3) := by decide +kernel
theorem dX9_forecastBalance_54 : decode cX9_forecastBalance 54 = .ok (.invokevirtual 252, 3) := by decide +kernel
theorem dX9_forecastBalance_57 : decode cX9_forecastBalance 57 = .ok (.lstore_n 3, 1) := by decide +kernel
theorem dX9_forecastBalance_58 : decode cX9_forecastBalance 58 = .ok (.aload_n 0, 1) := by decide +kernel
theorem dX9_forecastBalance_59 : decode cX9_forecastBalance 59 = .ok (.getfield 54, 3) := by decide +kernel
theorem dX9_forecastBalance_62 : decode cX9_forecastBalance 62 = .ok (.getfield 204, 3) := by decide +kernel
theorem dX9_forecastBalance_65 : decode cX9_forecastBalance 65 = .ok (.iconst 1, 1) := by decide +kernel
theorem dX9_forecastBalance_66 : decode cX9_forecastBalance 66 = .ok (.laload, 1) := by decide +kernel
theorem dX9_forecastBalance_67 : decode cX9_forecastBalance 67 = .ok (.lstore 5, 2) := by decide +kernel
theorem dX9_forecastBalance_69 : decode cX9_forecastBalance 69 = .ok (.aload_n 0, 1) := by decide +kernel
theorem dX9_forecastBalance_70 : decode cX9_forecastBalance 70 = .ok (.invokevirtual 293, 3) := by decide +kernel
theorem dX9_forecastBalance_73 : decode cX9_forecastBalance 73 = .ok (.aload_n 0, 1) := by decide +kernel
theorem dX9_forecastBalance_74 : decode cX9_forecastBalance 74 = .ok (.getfield 40, 3) := by decide +kernel
theorem dX9_forecastBalance_77 : decode cX9_forecastBalance 77 = .ok (.lload_n 3, 1) := by decide +kernel
theorem dX9_forecastBalance_78 : decode cX9_forecastBalance 78 = .ok (.invokevirtual 260, 3) := by decide +kernel
theorem dX9_forecastBalance_81 : decode cX9_forecastBalance 81 = .ok (.aload_n 0, 1) := by decide +kernel
theorem dX9_forecastBalance_82 : decode cX9_forecastBalance 82 = .ok (.getfield 47, 3) := by decide +kernel
theorem dX9_forecastBalance_85 : decode cX9_forecastBalance 85 = .ok (.aload_n 0, 1) := by decide +kernel
theorem dX9_forecastBalance_86 : decode cX9_forecastBalance 86 = .ok (.getfield 12, 3) := by decide +kernel
theorem dX9_forecastBalance_89 : decode cX9_forecastBalance 89 = .ok (.aload_n 0, 1) := by decide +kernel
theorem dX9_forecastBalance_90 : decode cX9_forecastBalance 90 = .ok (.getfield 40, 3) := by decide +kernel
theorem dX9_forecastBalance_93 : decode cX9_forecastBalance 93 = .ok (.getfield 264, 3) := by decide +kernel
theorem dX9_forecastBalance_96 : decode cX9_forecastBalance 96 = .ok (.invokevirtual 267, 3) := by decide +kernel
theorem dX9_forecastBalance_99 : decode cX9_forecastBalance 99 = .ok (.aload_n 0, 1) := by decide +kernel
theorem dX9_forecastBalance_100 : decode cX9_forecastBalance 100 = .ok (.getfield 54, 3) := by decide +kernel
theorem dX9_forecastBalance_103 : decode cX9_forecastBalance 103 = .ok (.aload_n 0, 1) := by decide +kernel
theorem dX9_forecastBalance_104 : decode cX9_forecastBalance 104 = .ok (.getfield 47, 3) := by decide +kernel
theorem dX9_forecastBalance_107 : decode cX9_forecastBalance 107 = .ok (.getfield 271, 3) := by decide +kernel
theorem dX9_forecastBalance_110 : decode cX9_forecastBalance 110 = .ok (.iload_n 1, 1) := by decide +kernel
theorem dX9_forecastBalance_111 : decode cX9_forecastBalance 111 = .ok (.laload, 1) := by decide +kernel
theorem dX9_forecastBalance_112 : decode cX9_forecastBalance 112 = .ok (.aload_n 0, 1) := by decide +kernel
theorem dX9_forecastBalance_113 : decode cX9_forecastBalance 113 = .ok (.getfield 12, 3) := by decide +kernel
theorem dX9_forecastBalance_116 : decode cX9_forecastBalance 116 = .ok (.getfield 224, 3) := by decide +kernel
theorem dX9_forecastBalance_119 : decode cX9_forecastBalance 119 = .ok (.aload_n 0, 1) := by decide +kernel
theorem dX9_forecastBalance_120 : decode cX9_forecastBalance 120 = .ok (.getfield 12, 3) := by decide +kernel
theorem dX9_forecastBalance_123 : decode cX9_forecastBalance 123 = .ok (.getfield 104, 3) := by decide +kernel
theorem dX9_forecastBalance_126 : decode cX9_forecastBalance 126 = .ok (.getfield 113, 3) := by decide +kernel
theorem dX9_forecastBalance_129 : decode cX9_forecastBalance 129 = .ok (.invokevirtual 305, 3) := by decide +kernel
theorem dX9_forecastBalance_132 : decode cX9_forecastBalance 132 = .ok (.pop2, 1) := by decide +kernel
theorem dX9_forecastBalance_133 : decode cX9_forecastBalance 133 = .ok (.aload_n 0, 1) := by decide +kernel
theorem dX9_forecastBalance_134 : decode cX9_forecastBalance 134 = .ok (.getfield 40, 3) := by decide +kernel
theorem dX9_forecastBalance_137 : decode cX9_forecastBalance 137 = .ok (.aload_n 0, 1) := by decide +kernel
theorem dX9_forecastBalance_138 : decode cX9_forecastBalance 138 = .ok (.getfield 12, 3) := by decide +kernel
theorem dX9_forecastBalance_141 : decode cX9_forecastBalance 141 = .ok (.iconst (-1), 1) := by decide +kernel
theorem dX9_forecastBalance_142 : decode cX9_forecastBalance 142 = .ok (.bipush 30, 2) := by decide +kernel
theorem dX9_forecastBalance_144 : decode cX9_forecastBalance 144 = .ok (.invokevirtual 256, 3) := by decide +kernel
theorem dX9_forecastBalance_147 : decode cX9_forecastBalance 147 = .ok (.aload_n 0, 1) := by decide +kernel
theorem dX9_forecastBalance_148 : decode cX9_forecastBalance 148 = .ok (.getfield 40, 3) := by decide +kernel
theorem dX9_forecastBalance_151 : decode cX9_forecastBalance 151 = .ok (.lload_n 3, 1) := by decide +kernel
theorem dX9_forecastBalance_152 : decode cX9_forecastBalance 152 = .ok (.invokevirtual 260, 3) := by decide +kernel
theorem dX9_forecastBalance_155 : decode cX9_forecastBalance 155 = .ok (.aload_n 0, 1) := by decide +kernel
theorem dX9_forecastBalance_156 : decode cX9_forecastBalance 156 = .ok (.getfield 47, 3) := by decide +kernel
theorem dX9_forecastBalance_159 : decode cX9_forecastBalance 159 = .ok (.aload_n 0, 1) := by decide +kernel
theorem dX9_forecastBalance_160 : decode cX9_forecastBalance 160 = .ok (.getfield 12, 3) := by decide +kernel
theorem dX9_forecastBalance_163 : decode cX9_forecastBalance 163 = .ok (.aload_n 0, 1) := by decide +kernel
theorem dX9_forecastBalance_164 : decode cX9_forecastBalance 164 = .ok (.getfield 40, 3) := by decide +kernel
theorem dX9_forecastBalance_167 : decode cX9_forecastBalance 167 = .ok (.getfield 264, 3) := by decide +kernel
theorem dX9_forecastBalance_170 : decode cX9_forecastBalance 170 = .ok (.invokevirtual 267, 3) := by decide +kernel
theorem dX9_forecastBalance_173 : decode cX9_forecastBalance 173 = .ok (.iconst 1, 1) := by decide +kernel
theorem dX9_forecastBalance_174 : decode cX9_forecastBalance 174 = .ok (.istore 7, 2) := by decide +kernel
theorem dX9_forecastBalance_176 : decode cX9_forecastBalance 176 = .ok (.iload 7, 2) := by decide +kernel
theorem dX9_forecastBalance_178 : decode cX9_forecastBalance 178 = .ok (.iload_n 2, 1) := by decide +kernel
theorem dX9_forecastBalance_179 : decode cX9_forecastBalance 179 = .ok (.if_icmp .ge 57, 3) := by decide +kernel
theorem dX9_forecastBalance_182 : decode cX9_forecastBalance 182 = .ok (.aload_n 0, 1) := by decide +kernel
theorem dX9_forecastBalance_183 : decode cX9_forecastBalance 183 = .ok (.getfield 54, 3) := by decide +kernel
theorem dX9_forecastBalance_186 : decode cX9_forecastBalance 186 = .ok (.getfield 204, 3) := by decide +kernel
theorem dX9_forecastBalance_189 : decode cX9_forecastBalance 189 = .ok (.iconst 1, 1) := by decide +kernel
theorem dX9_forecastBalance_190 : decode cX9_forecastBalance 190 = .ok (.lload 5, 2) := by decide +kernel
theorem dX9_forecastBalance_192 : decode cX9_forecastBalance 192 = .ok (.lastore, 1) := by decide +kernel
theorem dX9_forecastBalance_193 : decode cX9_forecastBalance 193 = .ok (.aload_n 0, 1) := by decide +kernel
theorem dX9_forecastBalance_194 : decode cX9_forecastBalance 194 = .ok (.getfield 54, 3) := by decide +kernel
theorem dX9_forecastBalance_197 : decode cX9_forecastBalance 197 = .ok (.aload_n 0, 1) := by decide +kernel
theorem dX9_forecastBalance_198 : decode cX9_forecastBalance 198 = .ok (.getfield 47, 3) := by decide +kernel
theorem dX9_forecastBalance_201 : decode cX9_forecastBalance 201 = .ok (.getfield 271, 3) := by decide +kernel
theorem dX9_forecastBalance_204 : decode cX9_forecastBalance 204 = .ok (.iload_n 1, 1) := by decide +kernel
theorem dX9_forecastBalance_205 : decode cX9_forecastBalance 205 = .ok (.laload, 1) := by decide +kernel
theorem dX9_forecastBalance_206 : decode cX9_forecastBalance 206 = .ok (.aload_n 0, 1) := by decide +kernel
theorem dX9_forecastBalance_207 : decode cX9_forecastBalance 207 = .ok (.getfield 12, 3) := by decide +kernel
theorem dX9_forecastBalance_210 : decode cX9_forecastBalance 210 = .ok (.getfield 224, 3) := by decide +kernel
theorem dX9_forecastBalance_213 : decode cX9_forecastBalance 213 = .ok (.iload 7, 2) := by decide +kernel
theorem dX9_forecastBalance_215 : decode cX9_forecastBalance 215 = .ok (.iadd, 1) := by decide +kernel
theorem dX9_forecastBalance_216 : decode cX9_forecastBalance 216 = .ok (.aload_n 0, 1) := by decide +kernel
theorem dX9_forecastBalance_217 : decode cX9_forecastBalance 217 = .ok (.getfield 12, 3) := by decide +kernel
theorem dX9_forecastBalance_220 : decode cX9_forecastBalance 220 = .ok (.getfield 104, 3) := by decide +kernel
theorem dX9_forecastBalance_223 : decode cX9_forecastBalance 223 = .ok (.getfield 113, 3) := by decide +kernel
theorem dX9_forecastBalance_226 : decode cX9_forecastBalance 226 = .ok (.invokevirtual 305, 3) := by decide +kernel
theorem dX9_forecastBalance_229 : decode cX9_forecastBalance 229 = .ok (.pop2, 1) := by decide +kernel
theorem dX9_forecastBalance_230 : decode cX9_forecastBalance 230 = .ok (.iinc 7 1, 3) := by decide +kernel
theorem dX9_forecastBalance_233 : decode cX9_forecastBalance 233 = .ok (.goto (-57), 3) := by decide +kernel
theorem dX9_forecastBalance_236 : decode cX9_forecastBalance 236 = .ok (.aload_n 0, 1) := by decide +kernel
theorem dX9_forecastBalance_237 : decode cX9_forecastBalance 237 = .ok (.getfield 54, 3) := by decide +kernel
theorem dX9_forecastBalance_240 : decode cX9_forecastBalance 240 = .ok (.invokevirtual 309, 3) := by decide +kernel
theorem dX9_forecastBalance_243 : decode cX9_forecastBalance 243 = .ok (.lreturn, 1) := by decide +kernel
theorem dX9_neededRate_0 : decode cX9_neededRate 0 = .ok (.aload_n 0, 1) := by decide +kernel
theorem dX9_neededRate_1 : decode cX9_neededRate 1 = .ok (.iload_n 1, 1) := by decide +kernel
theorem dX9_neededRate_2 : decode cX9_neededRate 2 = .ok (.invokevirtual 284, 3) := by decide +kernel
theorem dX9_neededRate_5 : decode cX9_neededRate 5 = .ok (.aload_n 0, 1) := by decide +kernel
theorem dX9_neededRate_6 : decode cX9_neededRate 6 = .ok (.iload_n 2, 1) := by decide +kernel
theorem dX9_neededRate_7 : decode cX9_neededRate 7 = .ok (.invokevirtual 281, 3) := by decide +kernel
theorem dX9_neededRate_10 : decode cX9_neededRate 10 = .ok (.iload_n 1, 1) := by decide +kernel
theorem dX9_neededRate_11 : decode cX9_neededRate 11 = .ok (.invokestatic 296, 3) := by decide +kernel
theorem dX9_neededRate_14 : decode cX9_neededRate 14 = .ok (.istore 5, 2) := by decide +kernel
theorem dX9_neededRate_16 : decode cX9_neededRate 16 = .ok (.aload_n 0, 1) := by decide +kernel
theorem dX9_neededRate_17 : decode cX9_neededRate 17 = .ok (.getfield 12, 3) := by decide +kernel
theorem dX9_neededRate_20 : decode cX9_neededRate 20 = .ok (.getfield 233, 3) := by decide +kernel
theorem dX9_neededRate_23 : decode cX9_neededRate 23 = .ok (.getfield 237, 3) := by decide +kernel
theorem dX9_neededRate_26 : decode cX9_neededRate 26 = .ok (.aload_n 0, 1) := by decide +kernel
theorem dX9_neededRate_27 : decode cX9_neededRate 27 = .ok (.getfield 12, 3) := by decide +kernel
theorem dX9_neededRate_30 : decode cX9_neededRate 30 = .ok (.getfield 224, 3) := by decide +kernel
theorem dX9_neededRate_33 : decode cX9_neededRate 33 = .ok (.iload_n 2, 1) := by decide +kernel
theorem dX9_neededRate_34 : decode cX9_neededRate 34 = .ok (.invokestatic 227, 3) := by decide +kernel
theorem dX9_neededRate_37 : decode cX9_neededRate 37 = .ok (.iaload, 1) := by decide +kernel
theorem dX9_neededRate_38 : decode cX9_neededRate 38 = .ok (.i2l, 1) := by decide +kernel
theorem dX9_neededRate_39 : decode cX9_neededRate 39 = .ok (.lstore 6, 2) := by decide +kernel
theorem dX9_neededRate_41 : decode cX9_neededRate 41 = .ok (.aload_n 0, 1) := by decide +kernel
theorem dX9_neededRate_42 : decode cX9_neededRate 42 = .ok (.getfield 12, 3) := by decide +kernel
theorem dX9_neededRate_45 : decode cX9_neededRate 45 = .ok (.aload_n 0, 1) := by decide +kernel
theorem dX9_neededRate_46 : decode cX9_neededRate 46 = .ok (.getfield 12, 3) := by decide +kernel
theorem dX9_neededRate_49 : decode cX9_neededRate 49 = .ok (.getfield 224, 3) := by decide +kernel
theorem dX9_neededRate_52 : decode cX9_neededRate 52 = .ok (.invokevirtual 252, 3) := by decide +kernel
theorem dX9_neededRate_55 : decode cX9_neededRate 55 = .ok (.lload 6, 2) := by decide +kernel
theorem dX9_neededRate_57 : decode cX9_neededRate 57 = .ok (.aload_n 0, 1) := by decide +kernel
theorem dX9_neededRate_58 : decode cX9_neededRate 58 = .ok (.getfield 12, 3) := by decide +kernel
theorem dX9_neededRate_61 : decode cX9_neededRate 61 = .ok (.getfield 104, 3) := by decide +kernel
theorem dX9_neededRate_64 : decode cX9_neededRate 64 = .ok (.getfield 313, 3) := by decide +kernel
theorem dX9_neededRate_67 : decode cX9_neededRate 67 = .ok (.iload_n 2, 1) := by decide +kernel
theorem dX9_neededRate_68 : decode cX9_neededRate 68 = .ok (.iaload, 1) := by decide +kernel
theorem dX9_neededRate_69 : decode cX9_neededRate 69 = .ok (.i2l, 1) := by decide +kernel
theorem dX9_neededRate_70 : decode cX9_neededRate 70 = .ok (.lmul, 1) := by decide +kernel
theorem dX9_neededRate_71 : decode cX9_neededRate 71 = .ok (.lsub, 1) := by decide +kernel
theorem dX9_neededRate_72 : decode cX9_neededRate 72 = .ok (.lstore 8, 2) := by decide +kernel
theorem dX9_neededRate_74 : decode cX9_neededRate 74 = .ok (.aload_n 0, 1) := by decide +kernel
theorem dX9_neededRate_75 : decode cX9_neededRate 75 = .ok (.invokevirtual 293, 3) := by decide +kernel
theorem dX9_neededRate_78 : decode cX9_neededRate 78 = .ok (.iconst 0, 1) := by decide +kernel
theorem dX9_neededRate_79 : decode cX9_neededRate 79 = .ok (.istore 10, 2) := by decide +kernel
theorem dX9_neededRate_81 : decode cX9_neededRate 81 = .ok (.iload 10, 2) := by decide +kernel
theorem dX9_neededRate_83 : decode cX9_neededRate 83 = .ok (.sipush 200, 3) := by decide +kernel
theorem dX9_neededRate_86 : decode cX9_neededRate 86 = .ok (.if_icmp .gt 43, 3) := by decide +kernel
theorem dX9_neededRate_89 : decode cX9_neededRate 89 = .ok (.aload_n 0, 1) := by decide +kernel
theorem dX9_neededRate_90 : decode cX9_neededRate 90 = .ok (.getfield 40, 3) := by decide +kernel
theorem dX9_neededRate_93 : decode cX9_neededRate 93 = .ok (.lload 8, 2) := by decide +kernel
theorem dX9_neededRate_95 : decode cX9_neededRate 95 = .ok (.lload 6, 2) := by decide +kernel
theorem dX9_neededRate_97 : decode cX9_neededRate 97 = .ok (.iload 10, 2) := by decide +kernel
theorem dX9_neededRate_99 : decode cX9_neededRate 99 = .ok (.i2l, 1) := by decide +kernel
theorem dX9_neededRate_100 : decode cX9_neededRate 100 = .ok (.lmul, 1) := by decide +kernel
theorem dX9_neededRate_101 : decode cX9_neededRate 101 = .ok (.ladd, 1) := by decide +kernel
theorem dX9_neededRate_102 : decode cX9_neededRate 102 = .ok (.invokevirtual 260, 3) := by decide +kernel
theorem dX9_neededRate_105 : decode cX9_neededRate 105 = .ok (.aload_n 0, 1) := by decide +kernel
theorem dX9_neededRate_106 : decode cX9_neededRate 106 = .ok (.getfield 40, 3) := by decide +kernel
theorem dX9_neededRate_109 : decode cX9_neededRate 109 = .ok (.getfield 264, 3) := by decide +kernel
theorem dX9_neededRate_112 : decode cX9_neededRate 112 = .ok (.iload 5, 2) := by decide +kernel
theorem dX9_neededRate_114 : decode cX9_neededRate 114 = .ok (.laload, 1) := by decide +kernel
theorem dX9_neededRate_115 : decode cX9_neededRate 115 = .ok (.lload_n 3, 1) := by decide +kernel
theorem dX9_neededRate_116 : decode cX9_neededRate 116 = .ok (.lcmp, 1) := by decide +kernel
theorem dX9_neededRate_117 : decode cX9_neededRate 117 = .ok (.ifCond .lt 6, 3) := by decide +kernel
theorem dX9_neededRate_120 : decode cX9_neededRate 120 = .ok (.iload 10, 2) := by decide +kernel
theorem dX9_neededRate_122 : decode cX9_neededRate 122 = .ok (.ireturn, 1) := by decide +kernel
theorem dX9_neededRate_123 : decode cX9_neededRate 123 = .ok (.iinc 10 1, 3) := by decide +kernel
theorem dX9_neededRate_126 : decode cX9_neededRate 126 = .ok (.goto (-45), 3) := by decide +kernel
theorem dX9_neededRate_129 : decode cX9_neededRate 129 = .ok (.new 316, 3) := by decide +kernel
theorem dX9_neededRate_132 : decode cX9_neededRate 132 = .ok (.dup, 1) := by decide +kernel
theorem dX9_neededRate_133 : decode cX9_neededRate 133 = .ok (.ldc_w 318, 3) := by decide +kernel
theorem dX9_neededRate_136 : decode cX9_neededRate 136 = .ok (.invokespecial 320, 3) := by decide +kernel
theorem dX9_neededRate_139 : decode cX9_neededRate 139 = .ok (.athrow, 1) := by decide +kernel
theorem dX9_issued_0 : decode cX9_issued 0 = .ok (.aload_n 0, 1) := by decide +kernel
theorem dX9_issued_1 : decode cX9_issued 1 = .ok (.iload_n 1, 1) := by decide +kernel
theorem dX9_issued_2 : decode cX9_issued 2 = .ok (.invokevirtual 278, 3) := by decide +kernel
theorem dX9_issued_5 : decode cX9_issued 5 = .ok (.aload_n 0, 1) := by decide +kernel
theorem dX9_issued_6 : decode cX9_issued 6 = .ok (.getfield 12, 3) := by decide +kernel
theorem dX9_issued_9 : decode cX9_issued 9 = .ok (.iload_n 1, 1) := by decide +kernel
theorem dX9_issued_10 : decode cX9_issued 10 = .ok (.invokevirtual 252, 3) := by decide +kernel
theorem dX9_issued_13 : decode cX9_issued 13 = .ok (.lreturn, 1) := by decide +kernel
theorem dX9_shareDayValue_0 : decode cX9_shareDayValue 0 = .ok (.aload_n 0, 1) := by decide +kernel
theorem dX9_shareDayValue_1 : decode cX9_shareDayValue 1 = .ok (.iload_n 1, 1) := by decide +kernel
theorem dX9_shareDayValue_2 : decode cX9_shareDayValue 2 = .ok (.invokevirtual 278, 3) := by decide +kernel
theorem dX9_shareDayValue_5 : decode cX9_shareDayValue 5 = .ok (.aload_n 0, 1) := by decide +kernel
theorem dX9_shareDayValue_6 : decode cX9_shareDayValue 6 = .ok (.getfield 12, 3) := by decide +kernel
theorem dX9_shareDayValue_9 : decode cX9_shareDayValue 9 = .ok (.iload_n 1, 1) := by decide +kernel
theorem dX9_shareDayValue_10 : decode cX9_shareDayValue 10 = .ok (.invokevirtual 252, 3) := by decide +kernel
theorem dX9_shareDayValue_13 : decode cX9_shareDayValue 13 = .ok (.lstore_n 3, 1) := by decide +kernel
theorem dX9_shareDayValue_14 : decode cX9_shareDayValue 14 = .ok (.aload_n 0, 1) := by decide +kernel
theorem dX9_shareDayValue_15 : decode cX9_shareDayValue 15 = .ok (.getfield 12, 3) := by decide +kernel
theorem dX9_shareDayValue_18 : decode cX9_shareDayValue 18 = .ok (.getfield 104, 3) := by decide +kernel
theorem dX9_shareDayValue_21 : decode cX9_shareDayValue 21 = .ok (.invokevirtual 321, 3) := by decide +kernel
theorem dX9_shareDayValue_24 : decode cX9_shareDayValue 24 = .ok (.i2l, 1) := by decide +kernel
theorem dX9_shareDayValue_25 : decode cX9_shareDayValue 25 = .ok (.lstore 5, 2) := by decide +kernel
theorem dX9_shareDayValue_27 : decode cX9_shareDayValue 27 = .ok (.lload_n 3, 1) := by decide +kernel
theorem dX9_shareDayValue_28 : decode cX9_shareDayValue 28 = .ok (.lload 5, 2) := by decide +kernel
theorem dX9_shareDayValue_30 : decode cX9_shareDayValue 30 = .ok (.invokestatic 324, 3) := by decide +kernel
theorem dX9_shareDayValue_33 : decode cX9_shareDayValue 33 = .ok (.lstore 7, 2) := by decide +kernel
theorem dX9_shareDayValue_35 : decode cX9_shareDayValue 35 = .ok (.iload_n 2, 1) := by decide +kernel
theorem dX9_shareDayValue_36 : decode cX9_shareDayValue 36 = .ok (.ifCond .eq 8, 3) := by decide +kernel
theorem dX9_shareDayValue_39 : decode cX9_shareDayValue 39 = .ok (.lload 5, 2) := by decide +kernel
theorem dX9_shareDayValue_41 : decode cX9_shareDayValue 41 = .ok (.goto 4, 3) := by decide +kernel
theorem dX9_shareDayValue_44 : decode cX9_shareDayValue 44 = .ok (.lload_n 3, 1) := by decide +kernel
theorem dX9_shareDayValue_45 : decode cX9_shareDayValue 45 = .ok (.lload 7, 2) := by decide +kernel
theorem dX9_shareDayValue_47 : decode cX9_shareDayValue 47 = .ok (.ldiv, 1) := by decide +kernel
theorem dX9_shareDayValue_48 : decode cX9_shareDayValue 48 = .ok (.lreturn, 1) := by decide +kernel
theorem dX9_neededShares_0 : decode cX9_neededShares 0 = .ok (.lload_n 1, 1) := by decide +kernel
theorem dX9_neededShares_1 : decode cX9_neededShares 1 = .ok (.lconst 0, 1) := by decide +kernel
theorem dX9_neededShares_2 : decode cX9_neededShares 2 = .ok (.lcmp, 1) := by decide +kernel
theorem dX9_neededShares_3 : decode cX9_neededShares 3 = .ok (.ifCond .ge 14, 3) := by decide +kernel
theorem dX9_neededShares_6 : decode cX9_neededShares 6 = .ok (.new 80, 3) := by decide +kernel
theorem dX9_neededShares_9 : decode cX9_neededShares 9 = .ok (.dup, 1) := by decide +kernel
theorem dX9_neededShares_10 : decode cX9_neededShares 10 = .ok (.ldc_w 328, 3) := by decide +kernel
theorem dX9_neededShares_13 : decode cX9_neededShares 13 = .ok (.invokespecial 84, 3) := by decide +kernel
theorem dX9_neededShares_16 : decode cX9_neededShares 16 = .ok (.athrow, 1) := by decide +kernel
theorem dX9_neededShares_17 : decode cX9_neededShares 17 = .ok (.aload_n 0, 1) := by decide +kernel
theorem dX9_neededShares_18 : decode cX9_neededShares 18 = .ok (.getfield 12, 3) := by decide +kernel
theorem dX9_neededShares_21 : decode cX9_neededShares 21 = .ok (.aload_n 0, 1) := by decide +kernel
theorem dX9_neededShares_22 : decode cX9_neededShares 22 = .ok (.getfield 12, 3) := by decide +kernel
theorem dX9_neededShares_25 : decode cX9_neededShares 25 = .ok (.getfield 224, 3) := by decide +kernel
theorem dX9_neededShares_28 : decode cX9_neededShares 28 = .ok (.invokevirtual 252, 3) := by decide +kernel
theorem dX9_neededShares_31 : decode cX9_neededShares 31 = .ok (.lstore_n 3, 1) := by decide +kernel
theorem dX9_neededShares_32 : decode cX9_neededShares 32 = .ok (.lload_n 1, 1) := by decide +kernel
theorem dX9_neededShares_33 : decode cX9_neededShares 33 = .ok (.lload_n 3, 1) := by decide +kernel
theorem dX9_neededShares_34 : decode cX9_neededShares 34 = .ok (.lcmp, 1) := by decide +kernel
theorem dX9_neededShares_35 : decode cX9_neededShares 35 = .ok (.ifCond .le 14, 3) := by decide +kernel
theorem dX9_neededShares_38 : decode cX9_neededShares 38 = .ok (.new 316, 3) := by decide +kernel
theorem dX9_neededShares_41 : decode cX9_neededShares 41 = .ok (.dup, 1) := by decide +kernel
theorem dX9_neededShares_42 : decode cX9_neededShares 42 = .ok (.ldc_w 330, 3) := by decide +kernel
theorem dX9_neededShares_45 : decode cX9_neededShares 45 = .ok (.invokespecial 320, 3) := by decide +kernel
theorem dX9_neededShares_48 : decode cX9_neededShares 48 = .ok (.athrow, 1) := by decide +kernel
theorem dX9_neededShares_49 : decode cX9_neededShares 49 = .ok (.lload_n 1, 1) := by decide +kernel
theorem dX9_neededShares_50 : decode cX9_neededShares 50 = .ok (.lconst 0, 1) := by decide +kernel
theorem dX9_neededShares_51 : decode cX9_neededShares 51 = .ok (.lcmp, 1) := by decide +kernel
theorem dX9_neededShares_52 : decode cX9_neededShares 52 = .ok (.ifCond .eq 9, 3) := by decide +kernel
theorem dX9_neededShares_55 : decode cX9_neededShares 55 = .ok (.lload_n 3, 1) := by decide +kernel
theorem dX9_neededShares_56 : decode cX9_neededShares 56 = .ok (.lconst 1, 1) := by decide +kernel
theorem dX9_neededShares_57 : decode cX9_neededShares 57 = .ok (.lcmp, 1) := by decide +kernel
theorem dX9_neededShares_58 : decode cX9_neededShares 58 = .ok (.ifCond .ge 5, 3) := by decide +kernel
theorem dX9_neededShares_61 : decode cX9_neededShares 61 = .ok (.iconst 1, 1) := by decide +kernel
theorem dX9_neededShares_62 : decode cX9_neededShares 62 = .ok (.ireturn, 1) := by decide +kernel
theorem dX9_neededShares_63 : decode cX9_neededShares 63 = .ok (.lload_n 1, 1) := by decide +kernel
theorem dX9_neededShares_64 : decode cX9_neededShares 64 = .ok (.aload_n 0, 1) := by decide +kernel
theorem dX9_neededShares_65 : decode cX9_neededShares 65 = .ok (.getfield 12, 3) := by decide +kernel
theorem dX9_neededShares_68 : decode cX9_neededShares 68 = .ok (.getfield 104, 3) := by decide +kernel
theorem dX9_neededShares_71 : decode cX9_neededShares 71 = .ok (.getfield 110, 3) := by decide +kernel
theorem dX9_neededShares_74 : decode cX9_neededShares 74 = .ok (.i2l, 1) := by decide +kernel
theorem dX9_neededShares_75 : decode cX9_neededShares 75 = .ok (.lmul, 1) := by decide +kernel
theorem dX9_neededShares_76 : decode cX9_neededShares 76 = .ok (.lload_n 3, 1) := by decide +kernel
theorem dX9_neededShares_77 : decode cX9_neededShares 77 = .ok (.ladd, 1) := by decide +kernel
theorem dX9_neededShares_78 : decode cX9_neededShares 78 = .ok (.lconst 1, 1) := by decide +kernel
theorem dX9_neededShares_79 : decode cX9_neededShares 79 = .ok (.lsub, 1) := by decide +kernel
theorem dX9_neededShares_80 : decode cX9_neededShares 80 = .ok (.lload_n 3, 1) := by decide +kernel
theorem dX9_neededShares_81 : decode cX9_neededShares 81 = .ok (.ldiv, 1) := by decide +kernel
theorem dX9_neededShares_82 : decode cX9_neededShares 82 = .ok (.l2i, 1) := by decide +kernel
theorem dX9_neededShares_83 : decode cX9_neededShares 83 = .ok (.ireturn, 1) := by decide +kernel
theorem dX9_balance_0 : decode cX9_balance 0 = .ok (.aload_n 0, 1) := by decide +kernel
theorem dX9_balance_1 : decode cX9_balance 1 = .ok (.iload_n 1, 1) := by decide +kernel
theorem dX9_balance_2 : decode cX9_balance 2 = .ok (.invokevirtual 150, 3) := by decide +kernel
theorem dX9_balance_5 : decode cX9_balance 5 = .ok (.aload_n 0, 1) := by decide +kernel
theorem dX9_balance_6 : decode cX9_balance 6 = .ok (.getfield 12, 3) := by decide +kernel
theorem dX9_balance_9 : decode cX9_balance 9 = .ok (.getfield 159, 3) := by decide +kernel
theorem dX9_balance_12 : decode cX9_balance 12 = .ok (.iload_n 1, 1) := by decide +kernel
theorem dX9_balance_13 : decode cX9_balance 13 = .ok (.aaload, 1) := by decide +kernel
theorem dX9_balance_14 : decode cX9_balance 14 = .ok (.invokevirtual 309, 3) := by decide +kernel
theorem dX9_balance_17 : decode cX9_balance 17 = .ok (.lreturn, 1) := by decide +kernel
theorem dX9_lot_0 : decode cX9_lot 0 = .ok (.aload_n 0, 1) := by decide +kernel
theorem dX9_lot_1 : decode cX9_lot 1 = .ok (.iload_n 1, 1) := by decide +kernel
theorem dX9_lot_2 : decode cX9_lot 2 = .ok (.invokevirtual 150, 3) := by decide +kernel
theorem dX9_lot_5 : decode cX9_lot 5 = .ok (.aload_n 0, 1) := by decide +kernel
theorem dX9_lot_6 : decode cX9_lot 6 = .ok (.iload_n 2, 1) := by decide +kernel
theorem dX9_lot_7 : decode cX9_lot 7 = .ok (.invokevirtual 278, 3) := by decide +kernel
theorem dX9_lot_10 : decode cX9_lot 10 = .ok (.aload_n 0, 1) := by decide +kernel
theorem dX9_lot_11 : decode cX9_lot 11 = .ok (.getfield 12, 3) := by decide +kernel
theorem dX9_lot_14 : decode cX9_lot 14 = .ok (.getfield 159, 3) := by decide +kernel
theorem dX9_lot_17 : decode cX9_lot 17 = .ok (.iload_n 1, 1) := by decide +kernel
theorem dX9_lot_18 : decode cX9_lot 18 = .ok (.aaload, 1) := by decide +kernel
theorem dX9_lot_19 : decode cX9_lot 19 = .ok (.getfield 332, 3) := by decide +kernel
theorem dX9_lot_22 : decode cX9_lot 22 = .ok (.iload_n 2, 1) := by decide +kernel
theorem dX9_lot_23 : decode cX9_lot 23 = .ok (.laload, 1) := by decide +kernel
theorem dX9_lot_24 : decode cX9_lot 24 = .ok (.lreturn, 1) := by decide +kernel
theorem dX9_account_0 : decode cX9_account 0 = .ok (.aload_n 0, 1) := by decide +kernel
theorem dX9_account_1 : decode cX9_account 1 = .ok (.iload_n 1, 1) := by decide +kernel
theorem dX9_account_2 : decode cX9_account 2 = .ok (.invokevirtual 150, 3) := by decide +kernel
theorem dX9_account_5 : decode cX9_account 5 = .ok (.iload_n 2, 1) := by decide +kernel
theorem dX9_account_6 : decode cX9_account 6 = .ok (.ifCond .lt 9, 3) := by decide +kernel
theorem dX9_account_9 : decode cX9_account 9 = .ok (.iload_n 2, 1) := by decide +kernel
theorem dX9_account_10 : decode cX9_account 10 = .ok (.bipush 6, 2) := by decide +kernel
theorem dX9_account_12 : decode cX9_account 12 = .ok (.if_icmp .lt 14, 3) := by decide +kernel
theorem dX9_account_15 : decode cX9_account 15 = .ok (.new 80, 3) := by decide +kernel
theorem dX9_account_18 : decode cX9_account 18 = .ok (.dup, 1) := by decide +kernel
theorem dX9_account_19 : decode cX9_account 19 = .ok (.ldc_w 335, 3) := by decide +kernel
theorem dX9_account_22 : decode cX9_account 22 = .ok (.invokespecial 84, 3) := by decide +kernel
theorem dX9_account_25 : decode cX9_account 25 = .ok (.athrow, 1) := by decide +kernel
theorem dX9_account_26 : decode cX9_account 26 = .ok (.aload_n 0, 1) := by decide +kernel
theorem dX9_account_27 : decode cX9_account 27 = .ok (.getfield 12, 3) := by decide +kernel
theorem dX9_account_30 : decode cX9_account 30 = .ok (.getfield 159, 3) := by decide +kernel
theorem dX9_account_33 : decode cX9_account 33 = .ok (.iload_n 1, 1) := by decide +kernel
theorem dX9_account_34 : decode cX9_account 34 = .ok (.aaload, 1) := by decide +kernel
theorem dX9_account_35 : decode cX9_account 35 = .ok (.getfield 204, 3) := by decide +kernel
theorem dX9_account_38 : decode cX9_account 38 = .ok (.iload_n 2, 1) := by decide +kernel
theorem dX9_account_39 : decode cX9_account 39 = .ok (.laload, 1) := by decide +kernel
theorem dX9_account_40 : decode cX9_account 40 = .ok (.lreturn, 1) := by decide +kernel
theorem dX9_expiring_0 : decode cX9_expiring 0 = .ok (.aload_n 0, 1) := by decide +kernel
theorem dX9_expiring_1 : decode cX9_expiring 1 = .ok (.iload_n 1, 1) := by decide +kernel
theorem dX9_expiring_2 : decode cX9_expiring 2 = .ok (.invokevirtual 150, 3) := by decide +kernel
theorem dX9_expiring_5 : decode cX9_expiring 5 = .ok (.aload_n 0, 1) := by decide +kernel
theorem dX9_expiring_6 : decode cX9_expiring 6 = .ok (.getfield 54, 3) := by decide +kernel
theorem dX9_expiring_9 : decode cX9_expiring 9 = .ok (.aload_n 0, 1) := by decide +kernel
theorem dX9_expiring_10 : decode cX9_expiring 10 = .ok (.getfield 12, 3) := by decide +kernel
theorem dX9_expiring_13 : decode cX9_expiring 13 = .ok (.getfield 159, 3) := by decide +kernel
theorem dX9_expiring_16 : decode cX9_expiring 16 = .ok (.iload_n 1, 1) := by decide +kernel
theorem dX9_expiring_17 : decode cX9_expiring 17 = .ok (.aaload, 1) := by decide +kernel
theorem dX9_expiring_18 : decode cX9_expiring 18 = .ok (.invokevirtual 301, 3) := by decide +kernel
theorem dX9_expiring_21 : decode cX9_expiring 21 = .ok (.aload_n 0, 1) := by decide +kernel
theorem dX9_expiring_22 : decode cX9_expiring 22 = .ok (.getfield 54, 3) := by decide +kernel
theorem dX9_expiring_25 : decode cX9_expiring 25 = .ok (.aload_n 0, 1) := by decide +kernel
theorem dX9_expiring_26 : decode cX9_expiring 26 = .ok (.getfield 54, 3) := by decide +kernel
theorem dX9_expiring_29 : decode cX9_expiring 29 = .ok (.getfield 204, 3) := by decide +kernel
theorem dX9_expiring_32 : decode cX9_expiring 32 = .ok (.iconst 1, 1) := by decide +kernel
theorem dX9_expiring_33 : decode cX9_expiring 33 = .ok (.laload, 1) := by decide +kernel
theorem dX9_expiring_34 : decode cX9_expiring 34 = .ok (.invokevirtual 337, 3) := by decide +kernel
theorem dX9_expiring_37 : decode cX9_expiring 37 = .ok (.pop2, 1) := by decide +kernel
theorem dX9_expiring_38 : decode cX9_expiring 38 = .ok (.aload_n 0, 1) := by decide +kernel
theorem dX9_expiring_39 : decode cX9_expiring 39 = .ok (.getfield 54, 3) := by decide +kernel
theorem dX9_expiring_42 : decode cX9_expiring 42 = .ok (.aload_n 0, 1) := by decide +kernel
theorem dX9_expiring_43 : decode cX9_expiring 43 = .ok (.getfield 12, 3) := by decide +kernel
theorem dX9_expiring_46 : decode cX9_expiring 46 = .ok (.getfield 224, 3) := by decide +kernel
theorem dX9_expiring_49 : decode cX9_expiring 49 = .ok (.aload_n 0, 1) := by decide +kernel
theorem dX9_expiring_50 : decode cX9_expiring 50 = .ok (.getfield 12, 3) := by decide +kernel
theorem dX9_expiring_53 : decode cX9_expiring 53 = .ok (.getfield 104, 3) := by decide +kernel
theorem dX9_expiring_56 : decode cX9_expiring 56 = .ok (.getfield 113, 3) := by decide +kernel
theorem dX9_expiring_59 : decode cX9_expiring 59 = .ok (.isub, 1) := by decide +kernel
theorem dX9_expiring_60 : decode cX9_expiring 60 = .ok (.invokevirtual 341, 3) := by decide +kernel
theorem dX9_expiring_63 : decode cX9_expiring 63 = .ok (.lreturn, 1) := by decide +kernel
theorem dX9_monthsCovered_0 : decode cX9_monthsCovered 0 = .ok (.aload_n 0, 1) := by decide +kernel
theorem dX9_monthsCovered_1 : decode cX9_monthsCovered 1 = .ok (.iload_n 1, 1) := by decide +kernel
theorem dX9_monthsCovered_2 : decode cX9_monthsCovered 2 = .ok (.invokevirtual 150, 3) := by decide +kernel
theorem dX9_monthsCovered_5 : decode cX9_monthsCovered 5 = .ok (.lload_n 2, 1) := by decide +kernel
theorem dX9_monthsCovered_6 : decode cX9_monthsCovered 6 = .ok (.lconst 1, 1) := by decide +kernel
theorem dX9_monthsCovered_7 : decode cX9_monthsCovered 7 = .ok (.lcmp, 1) := by decide +kernel
theorem dX9_monthsCovered_8 : decode cX9_monthsCovered 8 = .ok (.ifCond .ge 14, 3) := by decide +kernel
theorem dX9_monthsCovered_11 : decode cX9_monthsCovered 11 = .ok (.new 80, 3) := by decide +kernel
theorem dX9_monthsCovered_14 : decode cX9_monthsCovered 14 = .ok (.dup, 1) := by decide +kernel
theorem dX9_monthsCovered_15 : decode cX9_monthsCovered 15 = .ok (.ldc_w 344, 3) := by decide +kernel
theorem dX9_monthsCovered_18 : decode cX9_monthsCovered 18 = .ok (.invokespecial 84, 3) := by decide +kernel
theorem dX9_monthsCovered_21 : decode cX9_monthsCovered 21 = .ok (.athrow, 1) := by decide +kernel
theorem dX9_monthsCovered_22 : decode cX9_monthsCovered 22 = .ok (.aload_n 0, 1) := by decide +kernel
theorem dX9_monthsCovered_23 : decode cX9_monthsCovered 23 = .ok (.getfield 54, 3) := by decide +kernel
theorem dX9_monthsCovered_26 : decode cX9_monthsCovered 26 = .ok (.aload_n 0, 1) := by decide +kernel
theorem dX9_monthsCovered_27 : decode cX9_monthsCovered 27 = .ok (.getfield 12, 3) := by decide +kernel
theorem dX9_monthsCovered_30 : decode cX9_monthsCovered 30 = .ok (.getfield 159, 3) := by decide +kernel
theorem dX9_monthsCovered_33 : decode cX9_monthsCovered 33 = .ok (.iload_n 1, 1) := by decide +kernel
theorem dX9_monthsCovered_34 : decode cX9_monthsCovered 34 = .ok (.aaload, 1) := by decide +kernel
theorem dX9_monthsCovered_35 : decode cX9_monthsCovered 35 = .ok (.invokevirtual 301, 3) := by decide +kernel
theorem dX9_monthsCovered_38 : decode cX9_monthsCovered 38 = .ok (.aload_n 0, 1) := by decide +kernel
theorem dX9_monthsCovered_39 : decode cX9_monthsCovered 39 = .ok (.getfield 12, 3) := by decide +kernel
theorem dX9_monthsCovered_42 : decode cX9_monthsCovered 42 = .ok (.getfield 104, 3) := by decide +kernel
theorem dX9_monthsCovered_45 : decode cX9_monthsCovered 45 = .ok (.getfield 113, 3) := by decide +kernel
theorem dX9_monthsCovered_48 : decode cX9_monthsCovered 48 = .ok (.istore 4, 2) := by decide +kernel
theorem dX9_monthsCovered_50 : decode cX9_monthsCovered 50 = .ok (.iconst 0, 1) := by decide +kernel
theorem dX9_monthsCovered_51 : decode cX9_monthsCovered 51 = .ok (.istore 5, 2) := by decide +kernel
theorem dX9_monthsCovered_53 : decode cX9_monthsCovered 53 = .ok (.iload 5, 2) := by decide +kernel
theorem dX9_monthsCovered_55 : decode cX9_monthsCovered 55 = .ok (.iload 4, 2) := by decide +kernel
theorem dX9_monthsCovered_57 : decode cX9_monthsCovered 57 = .ok (.if_icmp .gt 54, 3) := by decide +kernel
theorem dX9_monthsCovered_60 : decode cX9_monthsCovered 60 = .ok (.aload_n 0, 1) := by decide +kernel
theorem dX9_monthsCovered_61 : decode cX9_monthsCovered 61 = .ok (.getfield 54, 3) := by decide +kernel
theorem dX9_monthsCovered_64 : decode cX9_monthsCovered 64 = .ok (.invokevirtual 309, 3) := by decide +kernel
theorem dX9_monthsCovered_67 : decode cX9_monthsCovered 67 = .ok (.lload_n 2, 1) := by decide +kernel
theorem dX9_monthsCovered_68 : decode cX9_monthsCovered 68 = .ok (.lcmp, 1) := by decide +kernel
theorem dX9_monthsCovered_69 : decode cX9_monthsCovered 69 = .ok (.ifCond .ge 6, 3) := by decide +kernel
theorem dX9_monthsCovered_72 : decode cX9_monthsCovered 72 = .ok (.iload 5, 2) := by decide +kernel
theorem dX9_monthsCovered_74 : decode cX9_monthsCovered 74 = .ok (.ireturn, 1) := by decide +kernel
theorem dX9_monthsCovered_75 : decode cX9_monthsCovered 75 = .ok (.aload_n 0, 1) := by decide +kernel
theorem dX9_monthsCovered_76 : decode cX9_monthsCovered 76 = .ok (.getfield 54, 3) := by decide +kernel
theorem dX9_monthsCovered_79 : decode cX9_monthsCovered 79 = .ok (.lload_n 2, 1) := by decide +kernel
theorem dX9_monthsCovered_80 : decode cX9_monthsCovered 80 = .ok (.invokevirtual 337, 3) := by decide +kernel
theorem dX9_monthsCovered_83 : decode cX9_monthsCovered 83 = .ok (.pop2, 1) := by decide +kernel
theorem dX9_monthsCovered_84 : decode cX9_monthsCovered 84 = .ok (.aload_n 0, 1) := by decide +kernel
theorem dX9_monthsCovered_85 : decode cX9_monthsCovered 85 = .ok (.getfield 54, 3) := by decide +kernel
theorem dX9_monthsCovered_88 : decode cX9_monthsCovered 88 = .ok (.aload_n 0, 1) := by decide +kernel
theorem dX9_monthsCovered_89 : decode cX9_monthsCovered 89 = .ok (.getfield 12, 3) := by decide +kernel
theorem dX9_monthsCovered_92 : decode cX9_monthsCovered 92 = .ok (.getfield 224, 3) := by decide +kernel
theorem dX9_monthsCovered_95 : decode cX9_monthsCovered 95 = .ok (.iload 5, 2) := by decide +kernel
theorem dX9_monthsCovered_97 : decode cX9_monthsCovered 97 = .ok (.iadd, 1) := by decide +kernel
theorem dX9_monthsCovered_98 : decode cX9_monthsCovered 98 = .ok (.iload 4, 2) := by decide +kernel
theorem dX9_monthsCovered_100 : decode cX9_monthsCovered 100 = .ok (.isub, 1) := by decide +kernel
theorem dX9_monthsCovered_101 : decode cX9_monthsCovered 101 = .ok (.invokevirtual 341, 3) := by decide +kernel
theorem dX9_monthsCovered_104 : decode cX9_monthsCovered 104 = .ok (.pop2, 1) := by decide +kernel
theorem dX9_monthsCovered_105 : decode cX9_monthsCovered 105 = .ok (.iinc 5 1, 3) := by decide +kernel
theorem dX9_monthsCovered_108 : decode cX9_monthsCovered 108 = .ok (.goto (-55), 3) := by decide +kernel
theorem dX9_monthsCovered_111 : decode cX9_monthsCovered 111 = .ok (.iload 4, 2) := by decide +kernel
theorem dX9_monthsCovered_113 : decode cX9_monthsCovered 113 = .ok (.iconst 1, 1) := by decide +kernel
theorem dX9_monthsCovered_114 : decode cX9_monthsCovered 114 = .ok (.iadd, 1) := by decide +kernel
theorem dX9_monthsCovered_115 : decode cX9_monthsCovered 115 = .ok (.ireturn, 1) := by decide +kernel
theorem dX9_fund_0 : decode cX9_fund 0 = .ok (.aload_n 0, 1) := by decide +kernel
theorem dX9_fund_1 : decode cX9_fund 1 = .ok (.getfield 12, 3) := by decide +kernel
theorem dX9_fund_4 : decode cX9_fund 4 = .ok (.getfield 346, 3) := by decide +kernel
theorem dX9_fund_7 : decode cX9_fund 7 = .ok (.lreturn, 1) := by decide +kernel
theorem dX9_operatorAccount_0 : decode cX9_operatorAccount 0 = .ok (.aload_n 0, 1) := by decide +kernel
theorem dX9_operatorAccount_1 : decode cX9_operatorAccount 1 = .ok (.getfield 12, 3) := by decide +kernel
theorem dX9_operatorAccount_4 : decode cX9_operatorAccount 4 = .ok (.getfield 350, 3) := by decide +kernel
theorem dX9_operatorAccount_7 : decode cX9_operatorAccount 7 = .ok (.lreturn, 1) := by decide +kernel
theorem dX9_correct_0 : decode cX9_correct 0 = .ok (.iload_n 1, 1) := by decide +kernel
theorem dX9_correct_1 : decode cX9_correct 1 = .ok (.ifCond .lt 14, 3) := by decide +kernel
theorem dX9_correct_4 : decode cX9_correct 4 = .ok (.iload_n 1, 1) := by decide +kernel
theorem dX9_correct_5 : decode cX9_correct 5 = .ok (.aload_n 0, 1) := by decide +kernel
theorem dX9_correct_6 : decode cX9_correct 6 = .ok (.getfield 12, 3) := by decide +kernel
theorem dX9_correct_9 : decode cX9_correct 9 = .ok (.getfield 224, 3) := by decide +kernel
theorem dX9_correct_12 : decode cX9_correct 12 = .ok (.if_icmp .lt 14, 3) := by decide +kernel
theorem dX9_correct_15 : decode cX9_correct 15 = .ok (.new 353, 3) := by decide +kernel
theorem dX9_correct_18 : decode cX9_correct 18 = .ok (.dup, 1) := by decide +kernel
theorem dX9_correct_19 : decode cX9_correct 19 = .ok (.ldc_w 355, 3) := by decide +kernel
theorem dX9_correct_22 : decode cX9_correct 22 = .ok (.invokespecial 357, 3) := by decide +kernel
theorem dX9_correct_25 : decode cX9_correct 25 = .ok (.athrow, 1) := by decide +kernel
theorem dX9_correct_26 : decode cX9_correct 26 = .ok (.aload_n 0, 1) := by decide +kernel
theorem dX9_correct_27 : decode cX9_correct 27 = .ok (.iload_n 2, 1) := by decide +kernel
theorem dX9_correct_28 : decode cX9_correct 28 = .ok (.invokevirtual 281, 3) := by decide +kernel
theorem dX9_correct_31 : decode cX9_correct 31 = .ok (.iload_n 3, 1) := by decide +kernel
theorem dX9_correct_32 : decode cX9_correct 32 = .ok (.ifCond .lt 9, 3) := by decide +kernel
theorem dX9_correct_35 : decode cX9_correct 35 = .ok (.iload_n 3, 1) := by decide +kernel
theorem dX9_correct_36 : decode cX9_correct 36 = .ok (.ldc 221, 2) := by decide +kernel
theorem dX9_correct_38 : decode cX9_correct 38 = .ok (.if_icmp .le 13, 3) := by decide +kernel
theorem dX9_correct_41 : decode cX9_correct 41 = .ok (.new 80, 3) := by decide +kernel
theorem dX9_correct_44 : decode cX9_correct 44 = .ok (.dup, 1) := by decide +kernel
theorem dX9_correct_45 : decode cX9_correct 45 = .ok (.ldc 222, 2) := by decide +kernel
theorem dX9_correct_47 : decode cX9_correct 47 = .ok (.invokespecial 84, 3) := by decide +kernel
theorem dX9_correct_50 : decode cX9_correct 50 = .ok (.athrow, 1) := by decide +kernel
theorem dX9_correct_51 : decode cX9_correct 51 = .ok (.aload_n 0, 1) := by decide +kernel
theorem dX9_correct_52 : decode cX9_correct 52 = .ok (.getfield 19, 3) := by decide +kernel
theorem dX9_correct_55 : decode cX9_correct 55 = .ok (.aload_n 0, 1) := by decide +kernel
theorem dX9_correct_56 : decode cX9_correct 56 = .ok (.getfield 12, 3) := by decide +kernel
theorem dX9_correct_59 : decode cX9_correct 59 = .ok (.invokevirtual 92, 3) := by decide +kernel
theorem dX9_correct_62 : decode cX9_correct 62 = .ok (.iload_n 1, 1) := by decide +kernel
theorem dX9_correct_63 : decode cX9_correct 63 = .ok (.iload_n 2, 1) := by decide +kernel
theorem dX9_correct_64 : decode cX9_correct 64 = .ok (.invokestatic 227, 3) := by decide +kernel
theorem dX9_correct_67 : decode cX9_correct 67 = .ok (.istore 4, 2) := by decide +kernel
theorem dX9_correct_69 : decode cX9_correct 69 = .ok (.aload_n 0, 1) := by decide +kernel
theorem dX9_correct_70 : decode cX9_correct 70 = .ok (.getfield 12, 3) := by decide +kernel
theorem dX9_correct_73 : decode cX9_correct 73 = .ok (.getfield 233, 3) := by decide +kernel
theorem dX9_correct_76 : decode cX9_correct 76 = .ok (.astore 5, 2) := by decide +kernel
theorem dX9_correct_78 : decode cX9_correct 78 = .ok (.aload 5, 2) := by decide +kernel
theorem dX9_correct_80 : decode cX9_correct 80 = .ok (.getfield 358, 3) := by decide +kernel
theorem dX9_correct_83 : decode cX9_correct 83 = .ok (.iload 4, 2) := by decide +kernel
theorem dX9_correct_85 : decode cX9_correct 85 = .ok (.iload_n 3, 1) := by decide +kernel
theorem dX9_correct_86 : decode cX9_correct 86 = .ok (.aload 5, 2) := by decide +kernel
theorem dX9_correct_88 : decode cX9_correct 88 = .ok (.getfield 237, 3) := by decide +kernel
theorem dX9_correct_91 : decode cX9_correct 91 = .ok (.iload 4, 2) := by decide +kernel
theorem dX9_correct_93 : decode cX9_correct 93 = .ok (.iaload, 1) := by decide +kernel
theorem dX9_correct_94 : decode cX9_correct 94 = .ok (.isub, 1) := by decide +kernel
theorem dX9_correct_95 : decode cX9_correct 95 = .ok (.iastore, 1) := by decide +kernel
theorem dX9_correct_96 : decode cX9_correct 96 = .ok (.aload 5, 2) := by decide +kernel
theorem dX9_correct_98 : decode cX9_correct 98 = .ok (.getfield 237, 3) := by decide +kernel
theorem dX9_correct_101 : decode cX9_correct 101 = .ok (.iload 4, 2) := by decide +kernel
theorem dX9_correct_103 : decode cX9_correct 103 = .ok (.iaload, 1) := by decide +kernel
theorem dX9_correct_104 : decode cX9_correct 104 = .ok (.ireturn, 1) := by decide +kernel
theorem dX9_trueUp_0 : decode cX9_trueUp 0 = .ok (.aload_n 0, 1) := by decide +kernel
theorem dX9_trueUp_1 : decode cX9_trueUp 1 = .ok (.getfield 19, 3) := by decide +kernel
theorem dX9_trueUp_4 : decode cX9_trueUp 4 = .ok (.aload_n 0, 1) := by decide +kernel
theorem dX9_trueUp_5 : decode cX9_trueUp 5 = .ok (.getfield 12, 3) := by decide +kernel
theorem dX9_trueUp_8 : decode cX9_trueUp 8 = .ok (.invokevirtual 92, 3) := by decide +kernel
theorem dX9_trueUp_11 : decode cX9_trueUp 11 = .ok (.lconst 0, 1) := by decide +kernel
theorem dX9_trueUp_12 : decode cX9_trueUp 12 = .ok (.lstore_n 1, 1) := by decide +kernel
theorem dX9_trueUp_13 : decode cX9_trueUp 13 = .ok (.iconst 0, 1) := by decide +kernel
theorem dX9_trueUp_14 : decode cX9_trueUp 14 = .ok (.istore_n 3, 1) := by decide +kernel
theorem dX9_trueUp_15 : decode cX9_trueUp 15 = .ok (.iload_n 3, 1) := by decide +kernel
theorem dX9_trueUp_16 : decode cX9_trueUp 16 = .ok (.aload_n 0, 1) := by decide +kernel
theorem dX9_trueUp_17 : decode cX9_trueUp 17 = .ok (.getfield 12, 3) := by decide +kernel
theorem dX9_trueUp_20 : decode cX9_trueUp 20 = .ok (.getfield 224, 3) := by decide +kernel
theorem dX9_trueUp_23 : decode cX9_trueUp 23 = .ok (.if_icmp .ge 103, 3) := by decide +kernel
theorem dX9_trueUp_26 : decode cX9_trueUp 26 = .ok (.aload_n 0, 1) := by decide +kernel
theorem dX9_trueUp_27 : decode cX9_trueUp 27 = .ok (.getfield 12, 3) := by decide +kernel
theorem dX9_trueUp_30 : decode cX9_trueUp 30 = .ok (.getfield 233, 3) := by decide +kernel
theorem dX9_trueUp_33 : decode cX9_trueUp 33 = .ok (.iload_n 3, 1) := by decide +kernel
theorem dX9_trueUp_34 : decode cX9_trueUp 34 = .ok (.aload_n 0, 1) := by decide +kernel
theorem dX9_trueUp_35 : decode cX9_trueUp 35 = .ok (.getfield 12, 3) := by decide +kernel
theorem dX9_trueUp_38 : decode cX9_trueUp 38 = .ok (.getfield 104, 3) := by decide +kernel
theorem dX9_trueUp_41 : decode cX9_trueUp 41 = .ok (.invokevirtual 361, 3) := by decide +kernel
theorem dX9_trueUp_44 : decode cX9_trueUp 44 = .ok (.lstore 4, 2) := by decide +kernel
theorem dX9_trueUp_46 : decode cX9_trueUp 46 = .ok (.lload 4, 2) := by decide +kernel
theorem dX9_trueUp_48 : decode cX9_trueUp 48 = .ok (.lconst 0, 1) := by decide +kernel
theorem dX9_trueUp_49 : decode cX9_trueUp 49 = .ok (.lcmp, 1) := by decide +kernel
theorem dX9_trueUp_50 : decode cX9_trueUp 50 = .ok (.ifCond .eq 54, 3) := by decide +kernel
theorem dX9_trueUp_53 : decode cX9_trueUp 53 = .ok (.aload_n 0, 1) := by decide +kernel
theorem dX9_trueUp_54 : decode cX9_trueUp 54 = .ok (.getfield 40, 3) := by decide +kernel
theorem dX9_trueUp_57 : decode cX9_trueUp 57 = .ok (.aload_n 0, 1) := by decide +kernel
theorem dX9_trueUp_58 : decode cX9_trueUp 58 = .ok (.getfield 12, 3) := by decide +kernel
theorem dX9_trueUp_61 : decode cX9_trueUp 61 = .ok (.iload_n 3, 1) := by decide +kernel
theorem dX9_trueUp_62 : decode cX9_trueUp 62 = .ok (.iconst 0, 1) := by decide +kernel
theorem dX9_trueUp_63 : decode cX9_trueUp 63 = .ok (.invokevirtual 256, 3) := by decide +kernel
theorem dX9_trueUp_66 : decode cX9_trueUp 66 = .ok (.aload_n 0, 1) := by decide +kernel
theorem dX9_trueUp_67 : decode cX9_trueUp 67 = .ok (.getfield 40, 3) := by decide +kernel
theorem dX9_trueUp_70 : decode cX9_trueUp 70 = .ok (.lload 4, 2) := by decide +kernel
theorem dX9_trueUp_72 : decode cX9_trueUp 72 = .ok (.invokestatic 365, 3) := by decide +kernel
theorem dX9_trueUp_75 : decode cX9_trueUp 75 = .ok (.invokevirtual 260, 3) := by decide +kernel
theorem dX9_trueUp_78 : decode cX9_trueUp 78 = .ok (.aload_n 0, 1) := by decide +kernel
theorem dX9_trueUp_79 : decode cX9_trueUp 79 = .ok (.getfield 12, 3) := by decide +kernel
theorem dX9_trueUp_82 : decode cX9_trueUp 82 = .ok (.aload_n 0, 1) := by decide +kernel
theorem dX9_trueUp_83 : decode cX9_trueUp 83 = .ok (.getfield 40, 3) := by decide +kernel
theorem dX9_trueUp_86 : decode cX9_trueUp 86 = .ok (.getfield 264, 3) := by decide +kernel
theorem dX9_trueUp_89 : decode cX9_trueUp 89 = .ok (.lload 4, 2) := by decide +kernel
theorem dX9_trueUp_91 : decode cX9_trueUp 91 = .ok (.lconst 0, 1) := by decide +kernel
theorem dX9_trueUp_92 : decode cX9_trueUp 92 = .ok (.lcmp, 1) := by decide +kernel
theorem dX9_trueUp_93 : decode cX9_trueUp 93 = .ok (.ifCond .le 7, 3) := by decide +kernel
theorem dX9_trueUp_96 : decode cX9_trueUp 96 = .ok (.iconst 1, 1) := by decide +kernel
theorem dX9_trueUp_97 : decode cX9_trueUp 97 = .ok (.goto 4, 3) := by decide +kernel
theorem dX9_trueUp_100 : decode cX9_trueUp 100 = .ok (.iconst 0, 1) := by decide +kernel
theorem dX9_trueUp_101 : decode cX9_trueUp 101 = .ok (.invokevirtual 370, 3) := by decide +kernel
theorem dX9_trueUp_104 : decode cX9_trueUp 104 = .ok (.aload_n 0, 1) := by decide +kernel
theorem dX9_trueUp_105 : decode cX9_trueUp 105 = .ok (.getfield 12, 3) := by decide +kernel
theorem dX9_trueUp_108 : decode cX9_trueUp 108 = .ok (.getfield 233, 3) := by decide +kernel
theorem dX9_trueUp_111 : decode cX9_trueUp 111 = .ok (.iload_n 3, 1) := by decide +kernel
theorem dX9_trueUp_112 : decode cX9_trueUp 112 = .ok (.invokevirtual 374, 3) := by decide +kernel
theorem dX9_trueUp_115 : decode cX9_trueUp 115 = .ok (.lload_n 1, 1) := by decide +kernel
theorem dX9_trueUp_116 : decode cX9_trueUp 116 = .ok (.lload 4, 2) := by decide +kernel
theorem dX9_trueUp_118 : decode cX9_trueUp 118 = .ok (.ladd, 1) := by decide +kernel
theorem dX9_trueUp_119 : decode cX9_trueUp 119 = .ok (.lstore_n 1, 1) := by decide +kernel
theorem dX9_trueUp_120 : decode cX9_trueUp 120 = .ok (.iinc 3 1, 3) := by decide +kernel
theorem dX9_trueUp_123 : decode cX9_trueUp 123 = .ok (.goto (-108), 3) := by decide +kernel
theorem dX9_trueUp_126 : decode cX9_trueUp 126 = .ok (.lload_n 1, 1) := by decide +kernel
theorem dX9_trueUp_127 : decode cX9_trueUp 127 = .ok (.lreturn, 1) := by decide +kernel
theorem dX9_shareFund_0 : decode cX9_shareFund 0 = .ok (.aload_n 0, 1) := by decide +kernel
theorem dX9_shareFund_1 : decode cX9_shareFund 1 = .ok (.getfield 12, 3) := by decide +kernel
theorem dX9_shareFund_4 : decode cX9_shareFund 4 = .ok (.getfield 346, 3) := by decide +kernel
theorem dX9_shareFund_7 : decode cX9_shareFund 7 = .ok (.lconst 0, 1) := by decide +kernel
theorem dX9_shareFund_8 : decode cX9_shareFund 8 = .ok (.lcmp, 1) := by decide +kernel
theorem dX9_shareFund_9 : decode cX9_shareFund 9 = .ok (.ifCond .gt 14, 3) := by decide +kernel
theorem dX9_shareFund_12 : decode cX9_shareFund 12 = .ok (.new 66, 3) := by decide +kernel
theorem dX9_shareFund_15 : decode cX9_shareFund 15 = .ok (.dup, 1) := by decide +kernel
theorem dX9_shareFund_16 : decode cX9_shareFund 16 = .ok (.ldc_w 377, 3) := by decide +kernel
theorem dX9_shareFund_19 : decode cX9_shareFund 19 = .ok (.invokespecial 70, 3) := by decide +kernel
theorem dX9_shareFund_22 : decode cX9_shareFund 22 = .ok (.athrow, 1) := by decide +kernel
theorem dX9_shareFund_23 : decode cX9_shareFund 23 = .ok (.aload_n 0, 1) := by decide +kernel
theorem dX9_shareFund_24 : decode cX9_shareFund 24 = .ok (.getfield 12, 3) := by decide +kernel
theorem dX9_shareFund_27 : decode cX9_shareFund 27 = .ok (.invokevirtual 379, 3) := by decide +kernel
theorem dX9_shareFund_30 : decode cX9_shareFund 30 = .ok (.iconst 1, 1) := by decide +kernel
theorem dX9_shareFund_31 : decode cX9_shareFund 31 = .ok (.if_icmp .ge 14, 3) := by decide +kernel
theorem dX9_shareFund_34 : decode cX9_shareFund 34 = .ok (.new 66, 3) := by decide +kernel
theorem dX9_shareFund_37 : decode cX9_shareFund 37 = .ok (.dup, 1) := by decide +kernel
theorem dX9_shareFund_38 : decode cX9_shareFund 38 = .ok (.ldc_w 382, 3) := by decide +kernel
theorem dX9_shareFund_41 : decode cX9_shareFund 41 = .ok (.invokespecial 70, 3) := by decide +kernel
theorem dX9_shareFund_44 : decode cX9_shareFund 44 = .ok (.athrow, 1) := by decide +kernel
theorem dX9_shareFund_45 : decode cX9_shareFund 45 = .ok (.aload_n 0, 1) := by decide +kernel
theorem dX9_shareFund_46 : decode cX9_shareFund 46 = .ok (.getfield 19, 3) := by decide +kernel
theorem dX9_shareFund_49 : decode cX9_shareFund 49 = .ok (.aload_n 0, 1) := by decide +kernel
theorem dX9_shareFund_50 : decode cX9_shareFund 50 = .ok (.getfield 12, 3) := by decide +kernel
theorem dX9_shareFund_53 : decode cX9_shareFund 53 = .ok (.invokevirtual 92, 3) := by decide +kernel
theorem dX9_shareFund_56 : decode cX9_shareFund 56 = .ok (.aload_n 0, 1) := by decide +kernel
theorem dX9_shareFund_57 : decode cX9_shareFund 57 = .ok (.getfield 12, 3) := by decide +kernel
theorem dX9_shareFund_60 : decode cX9_shareFund 60 = .ok (.getfield 346, 3) := by decide +kernel
theorem dX9_shareFund_63 : decode cX9_shareFund 63 = .ok (.lstore_n 1, 1) := by decide +kernel
theorem dX9_shareFund_64 : decode cX9_shareFund 64 = .ok (.aload_n 0, 1) := by decide +kernel
theorem dX9_shareFund_65 : decode cX9_shareFund 65 = .ok (.getfield 40, 3) := by decide +kernel
theorem dX9_shareFund_68 : decode cX9_shareFund 68 = .ok (.aload_n 0, 1) := by decide +kernel
theorem dX9_shareFund_69 : decode cX9_shareFund 69 = .ok (.getfield 12, 3) := by decide +kernel
theorem dX9_shareFund_72 : decode cX9_shareFund 72 = .ok (.invokevirtual 384, 3) := by decide +kernel
theorem dX9_shareFund_75 : decode cX9_shareFund 75 = .ok (.aload_n 0, 1) := by decide +kernel
theorem dX9_shareFund_76 : decode cX9_shareFund 76 = .ok (.getfield 40, 3) := by decide +kernel
theorem dX9_shareFund_79 : decode cX9_shareFund 79 = .ok (.lload_n 1, 1) := by decide +kernel
theorem dX9_shareFund_80 : decode cX9_shareFund 80 = .ok (.invokevirtual 260, 3) := by decide +kernel
theorem dX9_shareFund_83 : decode cX9_shareFund 83 = .ok (.aload_n 0, 1) := by decide +kernel
theorem dX9_shareFund_84 : decode cX9_shareFund 84 = .ok (.getfield 12, 3) := by decide +kernel
theorem dX9_shareFund_87 : decode cX9_shareFund 87 = .ok (.lconst 0, 1) := by decide +kernel
theorem dX9_shareFund_88 : decode cX9_shareFund 88 = .ok (.putfield 346, 3) := by decide +kernel
theorem dX9_shareFund_91 : decode cX9_shareFund 91 = .ok (.aload_n 0, 1) := by decide +kernel
theorem dX9_shareFund_92 : decode cX9_shareFund 92 = .ok (.getfield 12, 3) := by decide +kernel
theorem dX9_shareFund_95 : decode cX9_shareFund 95 = .ok (.aload_n 0, 1) := by decide +kernel
theorem dX9_shareFund_96 : decode cX9_shareFund 96 = .ok (.getfield 40, 3) := by decide +kernel
theorem dX9_shareFund_99 : decode cX9_shareFund 99 = .ok (.getfield 264, 3) := by decide +kernel
theorem dX9_shareFund_102 : decode cX9_shareFund 102 = .ok (.invokevirtual 387, 3) := by decide +kernel
theorem dX9_shareFund_105 : decode cX9_shareFund 105 = .ok (.lload_n 1, 1) := by decide +kernel
theorem dX9_shareFund_106 : decode cX9_shareFund 106 = .ok (.lreturn, 1) := by decide +kernel
theorem dX9_describe_0 : decode cX9_describe 0 = .ok (.aload_n 0, 1) := by decide +kernel
theorem dX9_describe_1 : decode cX9_describe 1 = .ok (.iload_n 1, 1) := by decide +kernel
theorem dX9_describe_2 : decode cX9_describe 2 = .ok (.invokevirtual 150, 3) := by decide +kernel
theorem dX9_describe_5 : decode cX9_describe 5 = .ok (.aload_n 0, 1) := by decide +kernel
theorem dX9_describe_6 : decode cX9_describe 6 = .ok (.getfield 33, 3) := by decide +kernel
theorem dX9_describe_9 : decode cX9_describe 9 = .ok (.aload_n 0, 1) := by decide +kernel
theorem dX9_describe_10 : decode cX9_describe 10 = .ok (.getfield 12, 3) := by decide +kernel
theorem dX9_describe_13 : decode cX9_describe 13 = .ok (.iload_n 1, 1) := by decide +kernel
theorem dX9_describe_14 : decode cX9_describe 14 = .ok (.invokevirtual 391, 3) := by decide +kernel
theorem dX9_describe_17 : decode cX9_describe 17 = .ok (.aload_n 0, 1) := by decide +kernel
theorem dX9_describe_18 : decode cX9_describe 18 = .ok (.getfield 33, 3) := by decide +kernel
theorem dX9_describe_21 : decode cX9_describe 21 = .ok (.getfield 395, 3) := by decide +kernel
theorem dX9_describe_24 : decode cX9_describe 24 = .ok (.ireturn, 1) := by decide +kernel
theorem dX9_describedByte_0 : decode cX9_describedByte 0 = .ok (.iload_n 1, 1) := by decide +kernel
theorem dX9_describedByte_1 : decode cX9_describedByte 1 = .ok (.ifCond .lt 14, 3) := by decide +kernel
theorem dX9_describedByte_4 : decode cX9_describedByte 4 = .ok (.iload_n 1, 1) := by decide +kernel
theorem dX9_describedByte_5 : decode cX9_describedByte 5 = .ok (.aload_n 0, 1) := by decide +kernel
theorem dX9_describedByte_6 : decode cX9_describedByte 6 = .ok (.getfield 33, 3) := by decide +kernel
theorem dX9_describedByte_9 : decode cX9_describedByte 9 = .ok (.getfield 395, 3) := by decide +kernel
theorem dX9_describedByte_12 : decode cX9_describedByte 12 = .ok (.if_icmp .lt 14, 3) := by decide +kernel
theorem dX9_describedByte_15 : decode cX9_describedByte 15 = .ok (.new 353, 3) := by decide +kernel
theorem dX9_describedByte_18 : decode cX9_describedByte 18 = .ok (.dup, 1) := by decide +kernel
theorem dX9_describedByte_19 : decode cX9_describedByte 19 = .ok (.ldc_w 396, 3) := by decide +kernel
theorem dX9_describedByte_22 : decode cX9_describedByte 22 = .ok (.invokespecial 357, 3) := by decide +kernel
theorem dX9_describedByte_25 : decode cX9_describedByte 25 = .ok (.athrow, 1) := by decide +kernel
theorem dX9_describedByte_26 : decode cX9_describedByte 26 = .ok (.aload_n 0, 1) := by decide +kernel
theorem dX9_describedByte_27 : decode cX9_describedByte 27 = .ok (.getfield 33, 3) := by decide +kernel
theorem dX9_describedByte_30 : decode cX9_describedByte 30 = .ok (.getfield 398, 3) := by decide +kernel
theorem dX9_describedByte_33 : decode cX9_describedByte 33 = .ok (.iload_n 1, 1) := by decide +kernel
theorem dX9_describedByte_34 : decode cX9_describedByte 34 = .ok (.baload, 1) := by decide +kernel
theorem dX9_describedByte_35 : decode cX9_describedByte 35 = .ok (.ireturn, 1) := by decide +kernel
theorem dX9_undo_0 : decode cX9_undo 0 = .ok (.aload_n 0, 1) := by decide +kernel
theorem dX9_undo_1 : decode cX9_undo 1 = .ok (.getfield 19, 3) := by decide +kernel
theorem dX9_undo_4 : decode cX9_undo 4 = .ok (.getfield 402, 3) := by decide +kernel
theorem dX9_undo_7 : decode cX9_undo 7 = .ok (.iconst 1, 1) := by decide +kernel
theorem dX9_undo_8 : decode cX9_undo 8 = .ok (.if_icmp .ge 14, 3) := by decide +kernel
theorem dX9_undo_11 : decode cX9_undo 11 = .ok (.new 66, 3) := by decide +kernel
theorem dX9_undo_14 : decode cX9_undo 14 = .ok (.dup, 1) := by decide +kernel
theorem dX9_undo_15 : decode cX9_undo 15 = .ok (.ldc_w 405, 3) := by decide +kernel
theorem dX9_undo_18 : decode cX9_undo 18 = .ok (.invokespecial 70, 3) := by decide +kernel
theorem dX9_undo_21 : decode cX9_undo 21 = .ok (.athrow, 1) := by decide +kernel
theorem dX9_undo_22 : decode cX9_undo 22 = .ok (.aload_n 0, 1) := by decide +kernel
theorem dX9_undo_23 : decode cX9_undo 23 = .ok (.getfield 19, 3) := by decide +kernel
theorem dX9_undo_26 : decode cX9_undo 26 = .ok (.aload_n 0, 1) := by decide +kernel
theorem dX9_undo_27 : decode cX9_undo 27 = .ok (.getfield 12, 3) := by decide +kernel
theorem dX9_undo_30 : decode cX9_undo 30 = .ok (.invokevirtual 407, 3) := by decide +kernel
theorem dX9_undo_33 : decode cX9_undo 33 = .ok (.aload_n 0, 1) := by decide +kernel
theorem dX9_undo_34 : decode cX9_undo 34 = .ok (.getfield 19, 3) := by decide +kernel
theorem dX9_undo_37 : decode cX9_undo 37 = .ok (.getfield 402, 3) := by decide +kernel
theorem dX9_undo_40 : decode cX9_undo 40 = .ok (.ireturn, 1) := by decide +kernel
theorem dX9_requireSubscriber_0 : decode cX9_requireSubscriber 0 = .ok (.iload_n 1, 1) := by decide +kernel
theorem dX9_requireSubscriber_1 : decode cX9_requireSubscriber 1 = .ok (.ifCond .lt 14, 3) := by decide +kernel
theorem dX9_requireSubscriber_4 : decode cX9_requireSubscriber 4 = .ok (.iload_n 1, 1) := by decide +kernel
theorem dX9_requireSubscriber_5 : decode cX9_requireSubscriber 5 = .ok (.aload_n 0, 1) := by decide +kernel
theorem dX9_requireSubscriber_6 : decode cX9_requireSubscriber 6 = .ok (.getfield 12, 3) := by decide +kernel
theorem dX9_requireSubscriber_9 : decode cX9_requireSubscriber 9 = .ok (.getfield 141, 3) := by decide +kernel
theorem dX9_requireSubscriber_12 : decode cX9_requireSubscriber 12 = .ok (.if_icmp .lt 14, 3) := by decide +kernel
theorem dX9_requireSubscriber_15 : decode cX9_requireSubscriber 15 = .ok (.new 353, 3) := by decide +kernel
theorem dX9_requireSubscriber_18 : decode cX9_requireSubscriber 18 = .ok (.dup, 1) := by decide +kernel
theorem dX9_requireSubscriber_19 : decode cX9_requireSubscriber 19 = .ok (.ldc_w 410, 3) := by decide +kernel
theorem dX9_requireSubscriber_22 : decode cX9_requireSubscriber 22 = .ok (.invokespecial 357, 3) := by decide +kernel
theorem dX9_requireSubscriber_25 : decode cX9_requireSubscriber 25 = .ok (.athrow, 1) := by decide +kernel
theorem dX9_requireSubscriber_26 : decode cX9_requireSubscriber 26 = .ok (.return_, 1) := by decide +kernel
theorem dX9_requireParticipant_0 : decode cX9_requireParticipant 0 = .ok (.iload_n 1, 1) := by decide +kernel
theorem dX9_requireParticipant_1 : decode cX9_requireParticipant 1 = .ok (.iconst (-1), 1) := by decide +kernel
theorem dX9_requireParticipant_2 : decode cX9_requireParticipant 2 = .ok (.if_icmp .eq 8, 3) := by decide +kernel
theorem dX9_requireParticipant_5 : decode cX9_requireParticipant 5 = .ok (.aload_n 0, 1) := by decide +kernel
theorem dX9_requireParticipant_6 : decode cX9_requireParticipant 6 = .ok (.iload_n 1, 1) := by decide +kernel
theorem dX9_requireParticipant_7 : decode cX9_requireParticipant 7 = .ok (.invokevirtual 150, 3) := by decide +kernel
theorem dX9_requireParticipant_10 : decode cX9_requireParticipant 10 = .ok (.return_, 1) := by decide +kernel
theorem dX9_requireMonth_0 : decode cX9_requireMonth 0 = .ok (.iload_n 1, 1) := by decide +kernel
theorem dX9_requireMonth_1 : decode cX9_requireMonth 1 = .ok (.ifCond .lt 14, 3) := by decide +kernel
theorem dX9_requireMonth_4 : decode cX9_requireMonth 4 = .ok (.iload_n 1, 1) := by decide +kernel
theorem dX9_requireMonth_5 : decode cX9_requireMonth 5 = .ok (.aload_n 0, 1) := by decide +kernel
theorem dX9_requireMonth_6 : decode cX9_requireMonth 6 = .ok (.getfield 12, 3) := by decide +kernel
theorem dX9_requireMonth_9 : decode cX9_requireMonth 9 = .ok (.getfield 224, 3) := by decide +kernel
theorem dX9_requireMonth_12 : decode cX9_requireMonth 12 = .ok (.if_icmp .le 14, 3) := by decide +kernel
theorem dX9_requireMonth_15 : decode cX9_requireMonth 15 = .ok (.new 353, 3) := by decide +kernel
theorem dX9_requireMonth_18 : decode cX9_requireMonth 18 = .ok (.dup, 1) := by decide +kernel
theorem dX9_requireMonth_19 : decode cX9_requireMonth 19 = .ok (.ldc_w 412, 3) := by decide +kernel
theorem dX9_requireMonth_22 : decode cX9_requireMonth 22 = .ok (.invokespecial 357, 3) := by decide +kernel
theorem dX9_requireMonth_25 : decode cX9_requireMonth 25 = .ok (.athrow, 1) := by decide +kernel
theorem dX9_requireMonth_26 : decode cX9_requireMonth 26 = .ok (.return_, 1) := by decide +kernel
theorem dX9_requirePeriod_0 : decode cX9_requirePeriod 0 = .ok (.iload_n 1, 1) := by decide +kernel
theorem dX9_requirePeriod_1 : decode cX9_requirePeriod 1 = .ok (.ifCond .lt 17, 3) := by decide +kernel
theorem dX9_requirePeriod_4 : decode cX9_requirePeriod 4 = .ok (.iload_n 1, 1) := by decide +kernel
theorem dX9_requirePeriod_5 : decode cX9_requirePeriod 5 = .ok (.aload_n 0, 1) := by decide +kernel
theorem dX9_requirePeriod_6 : decode cX9_requirePeriod 6 = .ok (.getfield 12, 3) := by decide +kernel
theorem dX9_requirePeriod_9 : decode cX9_requirePeriod 9 = .ok (.getfield 104, 3) := by decide +kernel
theorem dX9_requirePeriod_12 : decode cX9_requirePeriod 12 = .ok (.getfield 105, 3) := by decide +kernel
theorem dX9_requirePeriod_15 : decode cX9_requirePeriod 15 = .ok (.if_icmp .lt 14, 3) := by decide +kernel
theorem dX9_requirePeriod_18 : decode cX9_requirePeriod 18 = .ok (.new 353, 3) := by decide +kernel
theorem dX9_requirePeriod_21 : decode cX9_requirePeriod 21 = .ok (.dup, 1) := by decide +kernel
theorem dX9_requirePeriod_22 : decode cX9_requirePeriod 22 = .ok (.ldc_w 414, 3) := by decide +kernel
theorem dX9_requirePeriod_25 : decode cX9_requirePeriod 25 = .ok (.invokespecial 357, 3) := by decide +kernel
theorem dX9_requirePeriod_28 : decode cX9_requirePeriod 28 = .ok (.athrow, 1) := by decide +kernel
theorem dX9_requirePeriod_29 : decode cX9_requirePeriod 29 = .ok (.return_, 1) := by decide +kernel
theorem dX9_requireHour_0 : decode cX9_requireHour 0 = .ok (.iload_n 1, 1) := by decide +kernel
theorem dX9_requireHour_1 : decode cX9_requireHour 1 = .ok (.ifCond .lt 9, 3) := by decide +kernel
theorem dX9_requireHour_4 : decode cX9_requireHour 4 = .ok (.iload_n 1, 1) := by decide +kernel
theorem dX9_requireHour_5 : decode cX9_requireHour 5 = .ok (.bipush 24, 2) := by decide +kernel
theorem dX9_requireHour_7 : decode cX9_requireHour 7 = .ok (.if_icmp .lt 14, 3) := by decide +kernel
theorem dX9_requireHour_10 : decode cX9_requireHour 10 = .ok (.new 353, 3) := by decide +kernel
theorem dX9_requireHour_13 : decode cX9_requireHour 13 = .ok (.dup, 1) := by decide +kernel
theorem dX9_requireHour_14 : decode cX9_requireHour 14 = .ok (.ldc_w 416, 3) := by decide +kernel
theorem dX9_requireHour_17 : decode cX9_requireHour 17 = .ok (.invokespecial 357, 3) := by decide +kernel
theorem dX9_requireHour_20 : decode cX9_requireHour 20 = .ok (.athrow, 1) := by decide +kernel
theorem dX9_requireHour_21 : decode cX9_requireHour 21 = .ok (.return_, 1) := by decide +kernel
theorem dX9_requireCount_0 : decode cX9_requireCount 0 = .ok (.iload_n 1, 1) := by decide +kernel
theorem dX9_requireCount_1 : decode cX9_requireCount 1 = .ok (.iconst 1, 1) := by decide +kernel
theorem dX9_requireCount_2 : decode cX9_requireCount 2 = .ok (.if_icmp .ge 14, 3) := by decide +kernel
theorem dX9_requireCount_5 : decode cX9_requireCount 5 = .ok (.new 80, 3) := by decide +kernel
theorem dX9_requireCount_8 : decode cX9_requireCount 8 = .ok (.dup, 1) := by decide +kernel
theorem dX9_requireCount_9 : decode cX9_requireCount 9 = .ok (.ldc_w 418, 3) := by decide +kernel
theorem dX9_requireCount_12 : decode cX9_requireCount 12 = .ok (.invokespecial 84, 3) := by decide +kernel
theorem dX9_requireCount_15 : decode cX9_requireCount 15 = .ok (.athrow, 1) := by decide +kernel
theorem dX9_requireCount_16 : decode cX9_requireCount 16 = .ok (.return_, 1) := by decide +kernel
theorem dX9_requireDifferent_0 : decode cX9_requireDifferent 0 = .ok (.iload_n 1, 1) := by decide +kernel
theorem dX9_requireDifferent_1 : decode cX9_requireDifferent 1 = .ok (.iload_n 2, 1) := by decide +kernel
theorem dX9_requireDifferent_2 : decode cX9_requireDifferent 2 = .ok (.if_icmp .ne 14, 3) := by decide +kernel
theorem dX9_requireDifferent_5 : decode cX9_requireDifferent 5 = .ok (.new 80, 3) := by decide +kernel
theorem dX9_requireDifferent_8 : decode cX9_requireDifferent 8 = .ok (.dup, 1) := by decide +kernel
theorem dX9_requireDifferent_9 : decode cX9_requireDifferent 9 = .ok (.ldc_w 420, 3) := by decide +kernel
theorem dX9_requireDifferent_12 : decode cX9_requireDifferent 12 = .ok (.invokespecial 84, 3) := by decide +kernel
theorem dX9_requireDifferent_15 : decode cX9_requireDifferent 15 = .ok (.athrow, 1) := by decide +kernel
theorem dX9_requireDifferent_16 : decode cX9_requireDifferent 16 = .ok (.return_, 1) := by decide +kernel
theorem dX9_requireActive_0 : decode cX9_requireActive 0 = .ok (.aload_n 0, 1) := by decide +kernel
theorem dX9_requireActive_1 : decode cX9_requireActive 1 = .ok (.getfield 12, 3) := by decide +kernel
theorem dX9_requireActive_4 : decode cX9_requireActive 4 = .ok (.getfield 159, 3) := by decide +kernel
theorem dX9_requireActive_7 : decode cX9_requireActive 7 = .ok (.iload_n 1, 1) := by decide +kernel
theorem dX9_requireActive_8 : decode cX9_requireActive 8 = .ok (.aaload, 1) := by decide +kernel
theorem dX9_requireActive_9 : decode cX9_requireActive 9 = .ok (.invokevirtual 422, 3) := by decide +kernel
theorem dX9_requireActive_12 : decode cX9_requireActive 12 = .ok (.ifCond .ne 14, 3) := by decide +kernel
theorem dX9_requireActive_15 : decode cX9_requireActive 15 = .ok (.new 66, 3) := by decide +kernel
theorem dX9_requireActive_18 : decode cX9_requireActive 18 = .ok (.dup, 1) := by decide +kernel
theorem dX9_requireActive_19 : decode cX9_requireActive 19 = .ok (.ldc_w 426, 3) := by decide +kernel
theorem dX9_requireActive_22 : decode cX9_requireActive 22 = .ok (.invokespecial 70, 3) := by decide +kernel
theorem dX9_requireActive_25 : decode cX9_requireActive 25 = .ok (.athrow, 1) := by decide +kernel
theorem dX9_requireActive_26 : decode cX9_requireActive 26 = .ok (.return_, 1) := by decide +kernel
theorem dX9_requireShareKept_0 : decode cX9_requireShareKept 0 = .ok (.iload_n 2, 1) := by decide +kernel
theorem dX9_requireShareKept_1 : decode cX9_requireShareKept 1 = .ok (.aload_n 1, 1) := by decide +kernel
theorem dX9_requireShareKept_2 : decode cX9_requireShareKept 2 = .ok (.getfield 172, 3) := by decide +kernel
theorem dX9_requireShareKept_5 : decode cX9_requireShareKept 5 = .ok (.if_icmp .lt 14, 3) := by decide +kernel
theorem dX9_requireShareKept_8 : decode cX9_requireShareKept 8 = .ok (.new 66, 3) := by decide +kernel
theorem dX9_requireShareKept_11 : decode cX9_requireShareKept 11 = .ok (.dup, 1) := by decide +kernel
theorem dX9_requireShareKept_12 : decode cX9_requireShareKept 12 = .ok (.ldc_w 428, 3) := by decide +kernel
theorem dX9_requireShareKept_15 : decode cX9_requireShareKept 15 = .ok (.invokespecial 70, 3) := by decide +kernel
theorem dX9_requireShareKept_18 : decode cX9_requireShareKept 18 = .ok (.athrow, 1) := by decide +kernel
theorem dX9_requireShareKept_19 : decode cX9_requireShareKept 19 = .ok (.return_, 1) := by decide +kernel
theorem dX9_requireRoomForShares_0 : decode cX9_requireRoomForShares 0 = .ok (.iload_n 2, 1) := by decide +kernel
theorem dX9_requireRoomForShares_1 : decode cX9_requireRoomForShares 1 = .ok (.aload_n 0, 1) := by decide +kernel
theorem dX9_requireRoomForShares_2 : decode cX9_requireRoomForShares 2 = .ok (.getfield 12, 3) := by decide +kernel
theorem dX9_requireRoomForShares_5 : decode cX9_requireRoomForShares 5 = .ok (.getfield 104, 3) := by decide +kernel
theorem dX9_requireRoomForShares_8 : decode cX9_requireRoomForShares 8 = .ok (.invokevirtual 122, 3) := by decide +kernel
theorem dX9_requireRoomForShares_11 : decode cX9_requireRoomForShares 11 = .ok (.aload_n 1, 1) := by decide +kernel
theorem dX9_requireRoomForShares_12 : decode cX9_requireRoomForShares 12 = .ok (.getfield 172, 3) := by decide +kernel
theorem dX9_requireRoomForShares_15 : decode cX9_requireRoomForShares 15 = .ok (.isub, 1) := by decide +kernel
theorem dX9_requireRoomForShares_16 : decode cX9_requireRoomForShares 16 = .ok (.if_icmp .le 14, 3) := by decide +kernel
theorem dX9_requireRoomForShares_19 : decode cX9_requireRoomForShares 19 = .ok (.new 66, 3) := by decide +kernel
theorem dX9_requireRoomForShares_22 : decode cX9_requireRoomForShares 22 = .ok (.dup, 1) := by decide +kernel
theorem dX9_requireRoomForShares_23 : decode cX9_requireRoomForShares 23 = .ok (.ldc_w 430, 3) := by decide +kernel
theorem dX9_requireRoomForShares_26 : decode cX9_requireRoomForShares 26 = .ok (.invokespecial 70, 3) := by decide +kernel
theorem dX9_requireRoomForShares_29 : decode cX9_requireRoomForShares 29 = .ok (.athrow, 1) := by decide +kernel
theorem dX9_requireRoomForShares_30 : decode cX9_requireRoomForShares 30 = .ok (.return_, 1) := by decide +kernel
theorem dX9_weighProjected_0 : decode cX9_weighProjected 0 = .ok (.aload_n 0, 1) := by decide +kernel
theorem dX9_weighProjected_1 : decode cX9_weighProjected 1 = .ok (.getfield 40, 3) := by decide +kernel
theorem dX9_weighProjected_4 : decode cX9_weighProjected 4 = .ok (.aload_n 0, 1) := by decide +kernel
theorem dX9_weighProjected_5 : decode cX9_weighProjected 5 = .ok (.getfield 12, 3) := by decide +kernel
theorem dX9_weighProjected_8 : decode cX9_weighProjected 8 = .ok (.aload_n 0, 1) := by decide +kernel
theorem dX9_weighProjected_9 : decode cX9_weighProjected 9 = .ok (.getfield 12, 3) := by decide +kernel
theorem dX9_weighProjected_12 : decode cX9_weighProjected 12 = .ok (.getfield 224, 3) := by decide +kernel
theorem dX9_weighProjected_15 : decode cX9_weighProjected 15 = .ok (.bipush 30, 2) := by decide +kernel
theorem dX9_weighProjected_17 : decode cX9_weighProjected 17 = .ok (.aload_n 0, 1) := by decide +kernel
theorem dX9_weighProjected_18 : decode cX9_weighProjected 18 = .ok (.getfield 12, 3) := by decide +kernel
theorem dX9_weighProjected_21 : decode cX9_weighProjected 21 = .ok (.getfield 213, 3) := by decide +kernel
theorem dX9_weighProjected_24 : decode cX9_weighProjected 24 = .ok (.isub, 1) := by decide +kernel
theorem dX9_weighProjected_25 : decode cX9_weighProjected 25 = .ok (.invokevirtual 256, 3) := by decide +kernel
theorem dX9_weighProjected_28 : decode cX9_weighProjected 28 = .ok (.return_, 1) := by decide +kernel
theorem dX9_placeOf_0 : decode cX9_placeOf 0 = .ok (.iload_n 0, 1) := by decide +kernel
theorem dX9_placeOf_1 : decode cX9_placeOf 1 = .ok (.iconst (-1), 1) := by decide +kernel
theorem dX9_placeOf_2 : decode cX9_placeOf 2 = .ok (.if_icmp .ne 8, 3) := by decide +kernel
theorem dX9_placeOf_5 : decode cX9_placeOf 5 = .ok (.bipush 16, 2) := by decide +kernel
theorem dX9_placeOf_7 : decode cX9_placeOf 7 = .ok (.goto 4, 3) := by decide +kernel
theorem dX9_placeOf_10 : decode cX9_placeOf 10 = .ok (.iload_n 0, 1) := by decide +kernel
theorem dX9_placeOf_11 : decode cX9_placeOf 11 = .ok (.ireturn, 1) := by decide +kernel
theorem dX9_greatestDivisor_0 : decode cX9_greatestDivisor 0 = .ok (.iconst 0, 1) := by decide +kernel
theorem dX9_greatestDivisor_1 : decode cX9_greatestDivisor 1 = .ok (.istore 4, 2) := by decide +kernel
theorem dX9_greatestDivisor_3 : decode cX9_greatestDivisor 3 = .ok (.iload 4, 2) := by decide +kernel
theorem dX9_greatestDivisor_5 : decode cX9_greatestDivisor 5 = .ok (.sipush 200, 3) := by decide +kernel
theorem dX9_greatestDivisor_8 : decode cX9_greatestDivisor 8 = .ok (.if_icmp .ge 25, 3) := by decide +kernel
theorem dX9_greatestDivisor_11 : decode cX9_greatestDivisor 11 = .ok (.lload_n 2, 1) := by decide +kernel
theorem dX9_greatestDivisor_12 : decode cX9_greatestDivisor 12 = .ok (.lconst 0, 1) := by decide +kernel
theorem dX9_greatestDivisor_13 : decode cX9_greatestDivisor 13 = .ok (.lcmp, 1) := by decide +kernel
theorem dX9_greatestDivisor_14 : decode cX9_greatestDivisor 14 = .ok (.ifCond .eq 19, 3) := by decide +kernel
theorem dX9_greatestDivisor_17 : decode cX9_greatestDivisor 17 = .ok (.lload_n 0, 1) := by decide +kernel
theorem dX9_greatestDivisor_18 : decode cX9_greatestDivisor 18 = .ok (.lload_n 2, 1) := by decide +kernel
theorem dX9_greatestDivisor_19 : decode cX9_greatestDivisor 19 = .ok (.lrem, 1) := by decide +kernel
theorem dX9_greatestDivisor_20 : decode cX9_greatestDivisor 20 = .ok (.lstore 5, 2) := by decide +kernel
theorem dX9_greatestDivisor_22 : decode cX9_greatestDivisor 22 = .ok (.lload_n 2, 1) := by decide +kernel
theorem dX9_greatestDivisor_23 : decode cX9_greatestDivisor 23 = .ok (.lstore_n 0, 1) := by decide +kernel
theorem dX9_greatestDivisor_24 : decode cX9_greatestDivisor 24 = .ok (.lload 5, 2) := by decide +kernel
theorem dX9_greatestDivisor_26 : decode cX9_greatestDivisor 26 = .ok (.lstore_n 2, 1) := by decide +kernel
theorem dX9_greatestDivisor_27 : decode cX9_greatestDivisor 27 = .ok (.iinc 4 1, 3) := by decide +kernel
theorem dX9_greatestDivisor_30 : decode cX9_greatestDivisor 30 = .ok (.goto (-27), 3) := by decide +kernel
theorem dX9_greatestDivisor_33 : decode cX9_greatestDivisor 33 = .ok (.lload_n 0, 1) := by decide +kernel
theorem dX9_greatestDivisor_34 : decode cX9_greatestDivisor 34 = .ok (.lconst 1, 1) := by decide +kernel
theorem dX9_greatestDivisor_35 : decode cX9_greatestDivisor 35 = .ok (.invokestatic 432, 3) := by decide +kernel
theorem dX9_greatestDivisor_38 : decode cX9_greatestDivisor 38 = .ok (.lreturn, 1) := by decide +kernel
