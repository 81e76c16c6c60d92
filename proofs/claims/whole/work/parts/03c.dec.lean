theorem dX10_init_0 : decode cX10_init 0 = .ok (.aload_n 0, 1) := by decide +kernel
theorem dX10_init_1 : decode cX10_init 1 = .ok (.invokespecial 1, 3) := by decide +kernel
theorem dX10_init_4 : decode cX10_init 4 = .ok (.aload_n 0, 1) := by decide +kernel
theorem dX10_init_5 : decode cX10_init 5 = .ok (.sipush 1588, 3) := by decide +kernel
theorem dX10_init_8 : decode cX10_init 8 = .ok (.newarray .int, 2) := by decide +kernel
theorem dX10_init_10 : decode cX10_init 10 = .ok (.putfield 7, 3) := by decide +kernel
theorem dX10_init_13 : decode cX10_init 13 = .ok (.aload_n 0, 1) := by decide +kernel
theorem dX10_init_14 : decode cX10_init 14 = .ok (.sipush 1588, 3) := by decide +kernel
theorem dX10_init_17 : decode cX10_init 17 = .ok (.newarray .int, 2) := by decide +kernel
theorem dX10_init_19 : decode cX10_init 19 = .ok (.putfield 13, 3) := by decide +kernel
theorem dX10_init_22 : decode cX10_init 22 = .ok (.aload_n 0, 1) := by decide +kernel
theorem dX10_init_23 : decode cX10_init 23 = .ok (.sipush 9528, 3) := by decide +kernel
theorem dX10_init_26 : decode cX10_init 26 = .ok (.newarray .int, 2) := by decide +kernel
theorem dX10_init_28 : decode cX10_init 28 = .ok (.putfield 16, 3) := by decide +kernel
theorem dX10_init_31 : decode cX10_init 31 = .ok (.aload_n 0, 1) := by decide +kernel
theorem dX10_init_32 : decode cX10_init 32 = .ok (.sipush 1058, 3) := by decide +kernel
theorem dX10_init_35 : decode cX10_init 35 = .ok (.newarray .long, 2) := by decide +kernel
theorem dX10_init_37 : decode cX10_init 37 = .ok (.putfield 19, 3) := by decide +kernel
theorem dX10_init_40 : decode cX10_init 40 = .ok (.aload_n 0, 1) := by decide +kernel
theorem dX10_init_41 : decode cX10_init 41 = .ok (.sipush 6348, 3) := by decide +kernel
theorem dX10_init_44 : decode cX10_init 44 = .ok (.newarray .long, 2) := by decide +kernel
theorem dX10_init_46 : decode cX10_init 46 = .ok (.putfield 23, 3) := by decide +kernel
theorem dX10_init_49 : decode cX10_init 49 = .ok (.aload_n 0, 1) := by decide +kernel
theorem dX10_init_50 : decode cX10_init 50 = .ok (.sipush 300, 3) := by decide +kernel
theorem dX10_init_53 : decode cX10_init 53 = .ok (.newarray .int, 2) := by decide +kernel
theorem dX10_init_55 : decode cX10_init 55 = .ok (.putfield 26, 3) := by decide +kernel
theorem dX10_init_58 : decode cX10_init 58 = .ok (.aload_n 0, 1) := by decide +kernel
theorem dX10_init_59 : decode cX10_init 59 = .ok (.iconst (-1), 1) := by decide +kernel
theorem dX10_init_60 : decode cX10_init 60 = .ok (.putfield 29, 3) := by decide +kernel
theorem dX10_init_63 : decode cX10_init 63 = .ok (.aload_n 0, 1) := by decide +kernel
theorem dX10_init_64 : decode cX10_init 64 = .ok (.bipush 17, 2) := by decide +kernel
theorem dX10_init_66 : decode cX10_init 66 = .ok (.newarray .long, 2) := by decide +kernel
theorem dX10_init_68 : decode cX10_init 68 = .ok (.putfield 33, 3) := by decide +kernel
theorem dX10_init_71 : decode cX10_init 71 = .ok (.aload_n 0, 1) := by decide +kernel
theorem dX10_init_72 : decode cX10_init 72 = .ok (.bipush 17, 2) := by decide +kernel
theorem dX10_init_74 : decode cX10_init 74 = .ok (.newarray .long, 2) := by decide +kernel
theorem dX10_init_76 : decode cX10_init 76 = .ok (.putfield 36, 3) := by decide +kernel
theorem dX10_init_79 : decode cX10_init 79 = .ok (.aload_n 0, 1) := by decide +kernel
theorem dX10_init_80 : decode cX10_init 80 = .ok (.bipush 17, 2) := by decide +kernel
theorem dX10_init_82 : decode cX10_init 82 = .ok (.newarray .long, 2) := by decide +kernel
theorem dX10_init_84 : decode cX10_init 84 = .ok (.putfield 39, 3) := by decide +kernel
theorem dX10_init_87 : decode cX10_init 87 = .ok (.aload_n 0, 1) := by decide +kernel
theorem dX10_init_88 : decode cX10_init 88 = .ok (.bipush 17, 2) := by decide +kernel
theorem dX10_init_90 : decode cX10_init 90 = .ok (.newarray .boolean, 2) := by decide +kernel
theorem dX10_init_92 : decode cX10_init 92 = .ok (.putfield 42, 3) := by decide +kernel
theorem dX10_init_95 : decode cX10_init 95 = .ok (.aload_n 0, 1) := by decide +kernel
theorem dX10_init_96 : decode cX10_init 96 = .ok (.bipush 16, 2) := by decide +kernel
theorem dX10_init_98 : decode cX10_init 98 = .ok (.newarray .long, 2) := by decide +kernel
theorem dX10_init_100 : decode cX10_init 100 = .ok (.putfield 46, 3) := by decide +kernel
theorem dX10_init_103 : decode cX10_init 103 = .ok (.aload_n 0, 1) := by decide +kernel
theorem dX10_init_104 : decode cX10_init 104 = .ok (.bipush 16, 2) := by decide +kernel
theorem dX10_init_106 : decode cX10_init 106 = .ok (.newarray .boolean, 2) := by decide +kernel
theorem dX10_init_108 : decode cX10_init 108 = .ok (.putfield 49, 3) := by decide +kernel
theorem dX10_init_111 : decode cX10_init 111 = .ok (.aload_n 0, 1) := by decide +kernel
theorem dX10_init_112 : decode cX10_init 112 = .ok (.bipush 84, 2) := by decide +kernel
theorem dX10_init_114 : decode cX10_init 114 = .ok (.newarray .long, 2) := by decide +kernel
theorem dX10_init_116 : decode cX10_init 116 = .ok (.putfield 52, 3) := by decide +kernel
theorem dX10_init_119 : decode cX10_init 119 = .ok (.aload_n 0, 1) := by decide +kernel
theorem dX10_init_120 : decode cX10_init 120 = .ok (.bipush 100, 2) := by decide +kernel
theorem dX10_init_122 : decode cX10_init 122 = .ok (.newarray .byte, 2) := by decide +kernel
theorem dX10_init_124 : decode cX10_init 124 = .ok (.putfield 55, 3) := by decide +kernel
theorem dX10_init_127 : decode cX10_init 127 = .ok (.aload_n 0, 1) := by decide +kernel
theorem dX10_init_128 : decode cX10_init 128 = .ok (.getfield 7, 3) := by decide +kernel
theorem dX10_init_131 : decode cX10_init 131 = .ok (.sipush 1000, 3) := by decide +kernel
theorem dX10_init_134 : decode cX10_init 134 = .ok (.bipush 12, 2) := by decide +kernel
theorem dX10_init_136 : decode cX10_init 136 = .ok (.bipush 50, 2) := by decide +kernel
theorem dX10_init_138 : decode cX10_init 138 = .ok (.bipush 100, 2) := by decide +kernel
theorem dX10_init_140 : decode cX10_init 140 = .ok (.invokestatic 59, 3) := by decide +kernel
theorem dX10_init_143 : decode cX10_init 143 = .ok (.aload_n 0, 1) := by decide +kernel
theorem dX10_init_144 : decode cX10_init 144 = .ok (.getfield 7, 3) := by decide +kernel
theorem dX10_init_147 : decode cX10_init 147 = .ok (.iconst 4, 1) := by decide +kernel
theorem dX10_init_148 : decode cX10_init 148 = .ok (.iconst 1, 1) := by decide +kernel
theorem dX10_init_149 : decode cX10_init 149 = .ok (.iastore, 1) := by decide +kernel
theorem dX10_init_150 : decode cX10_init 150 = .ok (.aload_n 0, 1) := by decide +kernel
theorem dX10_init_151 : decode cX10_init 151 = .ok (.getfield 7, 3) := by decide +kernel
theorem dX10_init_154 : decode cX10_init 154 = .ok (.bipush 32, 2) := by decide +kernel
theorem dX10_init_156 : decode cX10_init 156 = .ok (.bipush 10, 2) := by decide +kernel
theorem dX10_init_158 : decode cX10_init 158 = .ok (.iastore, 1) := by decide +kernel
theorem dX10_init_159 : decode cX10_init 159 = .ok (.return_, 1) := by decide +kernel
theorem dX10_begins_0 : decode cX10_begins 0 = .ok (.iconst 0, 1) := by decide +kernel
theorem dX10_begins_1 : decode cX10_begins 1 = .ok (.istore 5, 2) := by decide +kernel
theorem dX10_begins_3 : decode cX10_begins 3 = .ok (.iload 5, 2) := by decide +kernel
theorem dX10_begins_5 : decode cX10_begins 5 = .ok (.sipush 1588, 3) := by decide +kernel
theorem dX10_begins_8 : decode cX10_begins 8 = .ok (.if_icmp .ge 26, 3) := by decide +kernel
theorem dX10_begins_11 : decode cX10_begins 11 = .ok (.aload_n 0, 1) := by decide +kernel
theorem dX10_begins_12 : decode cX10_begins 12 = .ok (.iload 5, 2) := by decide +kernel
theorem dX10_begins_14 : decode cX10_begins 14 = .ok (.iload 5, 2) := by decide +kernel
theorem dX10_begins_16 : decode cX10_begins 16 = .ok (.sipush 1348, 3) := by decide +kernel
theorem dX10_begins_19 : decode cX10_begins 19 = .ok (.if_icmp .lt 7, 3) := by decide +kernel
theorem dX10_begins_22 : decode cX10_begins 22 = .ok (.iconst (-1), 1) := by decide +kernel
theorem dX10_begins_23 : decode cX10_begins 23 = .ok (.goto 4, 3) := by decide +kernel
theorem dX10_begins_26 : decode cX10_begins 26 = .ok (.iconst 0, 1) := by decide +kernel
theorem dX10_begins_27 : decode cX10_begins 27 = .ok (.iastore, 1) := by decide +kernel
theorem dX10_begins_28 : decode cX10_begins 28 = .ok (.iinc 5 1, 3) := by decide +kernel
theorem dX10_begins_31 : decode cX10_begins 31 = .ok (.goto (-28), 3) := by decide +kernel
theorem dX10_begins_34 : decode cX10_begins 34 = .ok (.aload_n 0, 1) := by decide +kernel
theorem dX10_begins_35 : decode cX10_begins 35 = .ok (.iconst 0, 1) := by decide +kernel
theorem dX10_begins_36 : decode cX10_begins 36 = .ok (.iload_n 1, 1) := by decide +kernel
theorem dX10_begins_37 : decode cX10_begins 37 = .ok (.iastore, 1) := by decide +kernel
theorem dX10_begins_38 : decode cX10_begins 38 = .ok (.aload_n 0, 1) := by decide +kernel
theorem dX10_begins_39 : decode cX10_begins 39 = .ok (.iconst 1, 1) := by decide +kernel
theorem dX10_begins_40 : decode cX10_begins 40 = .ok (.iload_n 2, 1) := by decide +kernel
theorem dX10_begins_41 : decode cX10_begins 41 = .ok (.iastore, 1) := by decide +kernel
theorem dX10_begins_42 : decode cX10_begins 42 = .ok (.aload_n 0, 1) := by decide +kernel
theorem dX10_begins_43 : decode cX10_begins 43 = .ok (.iconst 2, 1) := by decide +kernel
theorem dX10_begins_44 : decode cX10_begins 44 = .ok (.iload_n 3, 1) := by decide +kernel
theorem dX10_begins_45 : decode cX10_begins 45 = .ok (.iastore, 1) := by decide +kernel
theorem dX10_begins_46 : decode cX10_begins 46 = .ok (.aload_n 0, 1) := by decide +kernel
theorem dX10_begins_47 : decode cX10_begins 47 = .ok (.iconst 3, 1) := by decide +kernel
theorem dX10_begins_48 : decode cX10_begins 48 = .ok (.iload 4, 2) := by decide +kernel
theorem dX10_begins_50 : decode cX10_begins 50 = .ok (.iastore, 1) := by decide +kernel
theorem dX10_begins_51 : decode cX10_begins 51 = .ok (.return_, 1) := by decide +kernel
theorem dX10_thrown_0 : decode cX10_thrown 0 = .ok (.aload_n 0, 1) := by decide +kernel
theorem dX10_thrown_1 : decode cX10_thrown 1 = .ok (.getfield 63, 3) := by decide +kernel
theorem dX10_thrown_4 : decode cX10_thrown 4 = .ok (.ireturn, 1) := by decide +kernel
theorem dX10_isIn_0 : decode cX10_isIn 0 = .ok (.lload_n 0, 1) := by decide +kernel
theorem dX10_isIn_1 : decode cX10_isIn 1 = .ok (.lload_n 2, 1) := by decide +kernel
theorem dX10_isIn_2 : decode cX10_isIn 2 = .ok (.lcmp, 1) := by decide +kernel
theorem dX10_isIn_3 : decode cX10_isIn 3 = .ok (.ifCond .lt 14, 3) := by decide +kernel
theorem dX10_isIn_6 : decode cX10_isIn 6 = .ok (.lload_n 0, 1) := by decide +kernel
theorem dX10_isIn_7 : decode cX10_isIn 7 = .ok (.lload 4, 2) := by decide +kernel
theorem dX10_isIn_9 : decode cX10_isIn 9 = .ok (.lcmp, 1) := by decide +kernel
theorem dX10_isIn_10 : decode cX10_isIn 10 = .ok (.ifCond .gt 7, 3) := by decide +kernel
theorem dX10_isIn_13 : decode cX10_isIn 13 = .ok (.iconst 1, 1) := by decide +kernel
theorem dX10_isIn_14 : decode cX10_isIn 14 = .ok (.goto 4, 3) := by decide +kernel
theorem dX10_isIn_17 : decode cX10_isIn 17 = .ok (.iconst 0, 1) := by decide +kernel
theorem dX10_isIn_18 : decode cX10_isIn 18 = .ok (.ireturn, 1) := by decide +kernel
theorem dX10_keeps_0 : decode cX10_keeps 0 = .ok (.aload_n 0, 1) := by decide +kernel
theorem dX10_keeps_1 : decode cX10_keeps 1 = .ok (.getfield 66, 3) := by decide +kernel
theorem dX10_keeps_4 : decode cX10_keeps 4 = .ok (.bipush 6, 2) := by decide +kernel
theorem dX10_keeps_6 : decode cX10_keeps 6 = .ok (.if_icmp .ne 75, 3) := by decide +kernel
theorem dX10_keeps_9 : decode cX10_keeps 9 = .ok (.iconst 0, 1) := by decide +kernel
theorem dX10_keeps_10 : decode cX10_keeps 10 = .ok (.istore_n 1, 1) := by decide +kernel
theorem dX10_keeps_11 : decode cX10_keeps 11 = .ok (.iload_n 1, 1) := by decide +kernel
theorem dX10_keeps_12 : decode cX10_keeps 12 = .ok (.sipush 7940, 3) := by decide +kernel
theorem dX10_keeps_15 : decode cX10_keeps 15 = .ok (.if_icmp .ge 25, 3) := by decide +kernel
theorem dX10_keeps_18 : decode cX10_keeps 18 = .ok (.aload_n 0, 1) := by decide +kernel
theorem dX10_keeps_19 : decode cX10_keeps 19 = .ok (.getfield 16, 3) := by decide +kernel
theorem dX10_keeps_22 : decode cX10_keeps 22 = .ok (.iload_n 1, 1) := by decide +kernel
theorem dX10_keeps_23 : decode cX10_keeps 23 = .ok (.aload_n 0, 1) := by decide +kernel
theorem dX10_keeps_24 : decode cX10_keeps 24 = .ok (.getfield 16, 3) := by decide +kernel
theorem dX10_keeps_27 : decode cX10_keeps 27 = .ok (.iload_n 1, 1) := by decide +kernel
theorem dX10_keeps_28 : decode cX10_keeps 28 = .ok (.sipush 1588, 3) := by decide +kernel
theorem dX10_keeps_31 : decode cX10_keeps 31 = .ok (.iadd, 1) := by decide +kernel
theorem dX10_keeps_32 : decode cX10_keeps 32 = .ok (.iaload, 1) := by decide +kernel
theorem dX10_keeps_33 : decode cX10_keeps 33 = .ok (.iastore, 1) := by decide +kernel
theorem dX10_keeps_34 : decode cX10_keeps 34 = .ok (.iinc 1 1, 3) := by decide +kernel
theorem dX10_keeps_37 : decode cX10_keeps 37 = .ok (.goto (-26), 3) := by decide +kernel
theorem dX10_keeps_40 : decode cX10_keeps 40 = .ok (.iconst 0, 1) := by decide +kernel
theorem dX10_keeps_41 : decode cX10_keeps 41 = .ok (.istore_n 1, 1) := by decide +kernel
theorem dX10_keeps_42 : decode cX10_keeps 42 = .ok (.iload_n 1, 1) := by decide +kernel
theorem dX10_keeps_43 : decode cX10_keeps 43 = .ok (.sipush 5290, 3) := by decide +kernel
theorem dX10_keeps_46 : decode cX10_keeps 46 = .ok (.if_icmp .ge 25, 3) := by decide +kernel
theorem dX10_keeps_49 : decode cX10_keeps 49 = .ok (.aload_n 0, 1) := by decide +kernel
theorem dX10_keeps_50 : decode cX10_keeps 50 = .ok (.getfield 23, 3) := by decide +kernel
theorem dX10_keeps_53 : decode cX10_keeps 53 = .ok (.iload_n 1, 1) := by decide +kernel
theorem dX10_keeps_54 : decode cX10_keeps 54 = .ok (.aload_n 0, 1) := by decide +kernel
theorem dX10_keeps_55 : decode cX10_keeps 55 = .ok (.getfield 23, 3) := by decide +kernel
theorem dX10_keeps_58 : decode cX10_keeps 58 = .ok (.iload_n 1, 1) := by decide +kernel
theorem dX10_keeps_59 : decode cX10_keeps 59 = .ok (.sipush 1058, 3) := by decide +kernel
theorem dX10_keeps_62 : decode cX10_keeps 62 = .ok (.iadd, 1) := by decide +kernel
theorem dX10_keeps_63 : decode cX10_keeps 63 = .ok (.laload, 1) := by decide +kernel
theorem dX10_keeps_64 : decode cX10_keeps 64 = .ok (.lastore, 1) := by decide +kernel
theorem dX10_keeps_65 : decode cX10_keeps 65 = .ok (.iinc 1 1, 3) := by decide +kernel
theorem dX10_keeps_68 : decode cX10_keeps 68 = .ok (.goto (-26), 3) := by decide +kernel
theorem dX10_keeps_71 : decode cX10_keeps 71 = .ok (.aload_n 0, 1) := by decide +kernel
theorem dX10_keeps_72 : decode cX10_keeps 72 = .ok (.dup, 1) := by decide +kernel
theorem dX10_keeps_73 : decode cX10_keeps 73 = .ok (.getfield 66, 3) := by decide +kernel
theorem dX10_keeps_76 : decode cX10_keeps 76 = .ok (.iconst 1, 1) := by decide +kernel
theorem dX10_keeps_77 : decode cX10_keeps 77 = .ok (.isub, 1) := by decide +kernel
theorem dX10_keeps_78 : decode cX10_keeps 78 = .ok (.putfield 66, 3) := by decide +kernel
theorem dX10_keeps_81 : decode cX10_keeps 81 = .ok (.iconst 0, 1) := by decide +kernel
theorem dX10_keeps_82 : decode cX10_keeps 82 = .ok (.istore_n 1, 1) := by decide +kernel
theorem dX10_keeps_83 : decode cX10_keeps 83 = .ok (.iload_n 1, 1) := by decide +kernel
theorem dX10_keeps_84 : decode cX10_keeps 84 = .ok (.sipush 1588, 3) := by decide +kernel
theorem dX10_keeps_87 : decode cX10_keeps 87 = .ok (.if_icmp .ge 30, 3) := by decide +kernel
theorem dX10_keeps_90 : decode cX10_keeps 90 = .ok (.aload_n 0, 1) := by decide +kernel
theorem dX10_keeps_91 : decode cX10_keeps 91 = .ok (.getfield 16, 3) := by decide +kernel
theorem dX10_keeps_94 : decode cX10_keeps 94 = .ok (.sipush 1588, 3) := by decide +kernel
theorem dX10_keeps_97 : decode cX10_keeps 97 = .ok (.aload_n 0, 1) := by decide +kernel
theorem dX10_keeps_98 : decode cX10_keeps 98 = .ok (.getfield 66, 3) := by decide +kernel
theorem dX10_keeps_101 : decode cX10_keeps 101 = .ok (.imul, 1) := by decide +kernel
theorem dX10_keeps_102 : decode cX10_keeps 102 = .ok (.iload_n 1, 1) := by decide +kernel
theorem dX10_keeps_103 : decode cX10_keeps 103 = .ok (.iadd, 1) := by decide +kernel
theorem dX10_keeps_104 : decode cX10_keeps 104 = .ok (.aload_n 0, 1) := by decide +kernel
theorem dX10_keeps_105 : decode cX10_keeps 105 = .ok (.getfield 7, 3) := by decide +kernel
theorem dX10_keeps_108 : decode cX10_keeps 108 = .ok (.iload_n 1, 1) := by decide +kernel
theorem dX10_keeps_109 : decode cX10_keeps 109 = .ok (.iaload, 1) := by decide +kernel
theorem dX10_keeps_110 : decode cX10_keeps 110 = .ok (.iastore, 1) := by decide +kernel
theorem dX10_keeps_111 : decode cX10_keeps 111 = .ok (.iinc 1 1, 3) := by decide +kernel
theorem dX10_keeps_114 : decode cX10_keeps 114 = .ok (.goto (-31), 3) := by decide +kernel
theorem dX10_keeps_117 : decode cX10_keeps 117 = .ok (.iconst 0, 1) := by decide +kernel
theorem dX10_keeps_118 : decode cX10_keeps 118 = .ok (.istore_n 1, 1) := by decide +kernel
theorem dX10_keeps_119 : decode cX10_keeps 119 = .ok (.iload_n 1, 1) := by decide +kernel
theorem dX10_keeps_120 : decode cX10_keeps 120 = .ok (.sipush 1058, 3) := by decide +kernel
theorem dX10_keeps_123 : decode cX10_keeps 123 = .ok (.if_icmp .ge 30, 3) := by decide +kernel
theorem dX10_keeps_126 : decode cX10_keeps 126 = .ok (.aload_n 0, 1) := by decide +kernel
theorem dX10_keeps_127 : decode cX10_keeps 127 = .ok (.getfield 23, 3) := by decide +kernel
theorem dX10_keeps_130 : decode cX10_keeps 130 = .ok (.sipush 1058, 3) := by decide +kernel
theorem dX10_keeps_133 : decode cX10_keeps 133 = .ok (.aload_n 0, 1) := by decide +kernel
theorem dX10_keeps_134 : decode cX10_keeps 134 = .ok (.getfield 66, 3) := by decide +kernel
theorem dX10_keeps_137 : decode cX10_keeps 137 = .ok (.imul, 1) := by decide +kernel
theorem dX10_keeps_138 : decode cX10_keeps 138 = .ok (.iload_n 1, 1) := by decide +kernel
theorem dX10_keeps_139 : decode cX10_keeps 139 = .ok (.iadd, 1) := by decide +kernel
theorem dX10_keeps_140 : decode cX10_keeps 140 = .ok (.aload_n 0, 1) := by decide +kernel
theorem dX10_keeps_141 : decode cX10_keeps 141 = .ok (.getfield 19, 3) := by decide +kernel
theorem dX10_keeps_144 : decode cX10_keeps 144 = .ok (.iload_n 1, 1) := by decide +kernel
theorem dX10_keeps_145 : decode cX10_keeps 145 = .ok (.laload, 1) := by decide +kernel
theorem dX10_keeps_146 : decode cX10_keeps 146 = .ok (.lastore, 1) := by decide +kernel
theorem dX10_keeps_147 : decode cX10_keeps 147 = .ok (.iinc 1 1, 3) := by decide +kernel
theorem dX10_keeps_150 : decode cX10_keeps 150 = .ok (.goto (-31), 3) := by decide +kernel
theorem dX10_keeps_153 : decode cX10_keeps 153 = .ok (.aload_n 0, 1) := by decide +kernel
theorem dX10_keeps_154 : decode cX10_keeps 154 = .ok (.dup, 1) := by decide +kernel
theorem dX10_keeps_155 : decode cX10_keeps 155 = .ok (.getfield 66, 3) := by decide +kernel
theorem dX10_keeps_158 : decode cX10_keeps 158 = .ok (.iconst 1, 1) := by decide +kernel
theorem dX10_keeps_159 : decode cX10_keeps 159 = .ok (.iadd, 1) := by decide +kernel
theorem dX10_keeps_160 : decode cX10_keeps 160 = .ok (.putfield 66, 3) := by decide +kernel
theorem dX10_keeps_163 : decode cX10_keeps 163 = .ok (.return_, 1) := by decide +kernel
theorem dX10_undo_0 : decode cX10_undo 0 = .ok (.aload_n 0, 1) := by decide +kernel
theorem dX10_undo_1 : decode cX10_undo 1 = .ok (.aload_n 0, 1) := by decide +kernel
theorem dX10_undo_2 : decode cX10_undo 2 = .ok (.getfield 66, 3) := by decide +kernel
theorem dX10_undo_5 : decode cX10_undo 5 = .ok (.ifCond .ne 7, 3) := by decide +kernel
theorem dX10_undo_8 : decode cX10_undo 8 = .ok (.iconst 1, 1) := by decide +kernel
theorem dX10_undo_9 : decode cX10_undo 9 = .ok (.goto 4, 3) := by decide +kernel
theorem dX10_undo_12 : decode cX10_undo 12 = .ok (.iconst 0, 1) := by decide +kernel
theorem dX10_undo_13 : decode cX10_undo 13 = .ok (.putfield 63, 3) := by decide +kernel
theorem dX10_undo_16 : decode cX10_undo 16 = .ok (.aload_n 0, 1) := by decide +kernel
theorem dX10_undo_17 : decode cX10_undo 17 = .ok (.getfield 63, 3) := by decide +kernel
theorem dX10_undo_20 : decode cX10_undo 20 = .ok (.ifCond .le 5, 3) := by decide +kernel
theorem dX10_undo_23 : decode cX10_undo 23 = .ok (.iconst 0, 1) := by decide +kernel
theorem dX10_undo_24 : decode cX10_undo 24 = .ok (.ireturn, 1) := by decide +kernel
theorem dX10_undo_25 : decode cX10_undo 25 = .ok (.aload_n 0, 1) := by decide +kernel
theorem dX10_undo_26 : decode cX10_undo 26 = .ok (.dup, 1) := by decide +kernel
theorem dX10_undo_27 : decode cX10_undo 27 = .ok (.getfield 66, 3) := by decide +kernel
theorem dX10_undo_30 : decode cX10_undo 30 = .ok (.iconst 1, 1) := by decide +kernel
theorem dX10_undo_31 : decode cX10_undo 31 = .ok (.isub, 1) := by decide +kernel
theorem dX10_undo_32 : decode cX10_undo 32 = .ok (.putfield 66, 3) := by decide +kernel
theorem dX10_undo_35 : decode cX10_undo 35 = .ok (.iconst 0, 1) := by decide +kernel
theorem dX10_undo_36 : decode cX10_undo 36 = .ok (.istore_n 1, 1) := by decide +kernel
theorem dX10_undo_37 : decode cX10_undo 37 = .ok (.iload_n 1, 1) := by decide +kernel
theorem dX10_undo_38 : decode cX10_undo 38 = .ok (.sipush 1588, 3) := by decide +kernel
theorem dX10_undo_41 : decode cX10_undo 41 = .ok (.if_icmp .ge 30, 3) := by decide +kernel
theorem dX10_undo_44 : decode cX10_undo 44 = .ok (.aload_n 0, 1) := by decide +kernel
theorem dX10_undo_45 : decode cX10_undo 45 = .ok (.getfield 7, 3) := by decide +kernel
theorem dX10_undo_48 : decode cX10_undo 48 = .ok (.iload_n 1, 1) := by decide +kernel
theorem dX10_undo_49 : decode cX10_undo 49 = .ok (.aload_n 0, 1) := by decide +kernel
theorem dX10_undo_50 : decode cX10_undo 50 = .ok (.getfield 16, 3) := by decide +kernel
theorem dX10_undo_53 : decode cX10_undo 53 = .ok (.sipush 1588, 3) := by decide +kernel
theorem dX10_undo_56 : decode cX10_undo 56 = .ok (.aload_n 0, 1) := by decide +kernel
theorem dX10_undo_57 : decode cX10_undo 57 = .ok (.getfield 66, 3) := by decide +kernel
theorem dX10_undo_60 : decode cX10_undo 60 = .ok (.imul, 1) := by decide +kernel
theorem dX10_undo_61 : decode cX10_undo 61 = .ok (.iload_n 1, 1) := by decide +kernel
theorem dX10_undo_62 : decode cX10_undo 62 = .ok (.iadd, 1) := by decide +kernel
theorem dX10_undo_63 : decode cX10_undo 63 = .ok (.iaload, 1) := by decide +kernel
theorem dX10_undo_64 : decode cX10_undo 64 = .ok (.iastore, 1) := by decide +kernel
theorem dX10_undo_65 : decode cX10_undo 65 = .ok (.iinc 1 1, 3) := by decide +kernel
theorem dX10_undo_68 : decode cX10_undo 68 = .ok (.goto (-31), 3) := by decide +kernel
theorem dX10_undo_71 : decode cX10_undo 71 = .ok (.iconst 0, 1) := by decide +kernel
theorem dX10_undo_72 : decode cX10_undo 72 = .ok (.istore_n 1, 1) := by decide +kernel
theorem dX10_undo_73 : decode cX10_undo 73 = .ok (.iload_n 1, 1) := by decide +kernel
theorem dX10_undo_74 : decode cX10_undo 74 = .ok (.sipush 1058, 3) := by decide +kernel
theorem dX10_undo_77 : decode cX10_undo 77 = .ok (.if_icmp .ge 30, 3) := by decide +kernel
theorem dX10_undo_80 : decode cX10_undo 80 = .ok (.aload_n 0, 1) := by decide +kernel
theorem dX10_undo_81 : decode cX10_undo 81 = .ok (.getfield 19, 3) := by decide +kernel
theorem dX10_undo_84 : decode cX10_undo 84 = .ok (.iload_n 1, 1) := by decide +kernel
theorem dX10_undo_85 : decode cX10_undo 85 = .ok (.aload_n 0, 1) := by decide +kernel
theorem dX10_undo_86 : decode cX10_undo 86 = .ok (.getfield 23, 3) := by decide +kernel
theorem dX10_undo_89 : decode cX10_undo 89 = .ok (.sipush 1058, 3) := by decide +kernel
theorem dX10_undo_92 : decode cX10_undo 92 = .ok (.aload_n 0, 1) := by decide +kernel
theorem dX10_undo_93 : decode cX10_undo 93 = .ok (.getfield 66, 3) := by decide +kernel
theorem dX10_undo_96 : decode cX10_undo 96 = .ok (.imul, 1) := by decide +kernel
theorem dX10_undo_97 : decode cX10_undo 97 = .ok (.iload_n 1, 1) := by decide +kernel
theorem dX10_undo_98 : decode cX10_undo 98 = .ok (.iadd, 1) := by decide +kernel
theorem dX10_undo_99 : decode cX10_undo 99 = .ok (.laload, 1) := by decide +kernel
theorem dX10_undo_100 : decode cX10_undo 100 = .ok (.lastore, 1) := by decide +kernel
theorem dX10_undo_101 : decode cX10_undo 101 = .ok (.iinc 1 1, 3) := by decide +kernel
theorem dX10_undo_104 : decode cX10_undo 104 = .ok (.goto (-31), 3) := by decide +kernel
theorem dX10_undo_107 : decode cX10_undo 107 = .ok (.aload_n 0, 1) := by decide +kernel
theorem dX10_undo_108 : decode cX10_undo 108 = .ok (.getfield 66, 3) := by decide +kernel
theorem dX10_undo_111 : decode cX10_undo 111 = .ok (.ireturn, 1) := by decide +kernel
theorem dX10_append_0 : decode cX10_append 0 = .ok (.aload_n 0, 1) := by decide +kernel
theorem dX10_append_1 : decode cX10_append 1 = .ok (.aload_n 0, 1) := by decide +kernel
theorem dX10_append_2 : decode cX10_append 2 = .ok (.getfield 69, 3) := by decide +kernel
theorem dX10_append_5 : decode cX10_append 5 = .ok (.bipush 20, 2) := by decide +kernel
theorem dX10_append_7 : decode cX10_append 7 = .ok (.iadd, 1) := by decide +kernel
theorem dX10_append_8 : decode cX10_append 8 = .ok (.sipush 300, 3) := by decide +kernel
theorem dX10_append_11 : decode cX10_append 11 = .ok (.if_icmp .le 7, 3) := by decide +kernel
theorem dX10_append_14 : decode cX10_append 14 = .ok (.iconst 1, 1) := by decide +kernel
theorem dX10_append_15 : decode cX10_append 15 = .ok (.goto 4, 3) := by decide +kernel
theorem dX10_append_18 : decode cX10_append 18 = .ok (.iconst 0, 1) := by decide +kernel
theorem dX10_append_19 : decode cX10_append 19 = .ok (.putfield 63, 3) := by decide +kernel
theorem dX10_append_22 : decode cX10_append 22 = .ok (.aload_n 0, 1) := by decide +kernel
theorem dX10_append_23 : decode cX10_append 23 = .ok (.getfield 63, 3) := by decide +kernel
theorem dX10_append_26 : decode cX10_append 26 = .ok (.ifCond .le 5, 3) := by decide +kernel
theorem dX10_append_29 : decode cX10_append 29 = .ok (.iconst 0, 1) := by decide +kernel
theorem dX10_append_30 : decode cX10_append 30 = .ok (.ireturn, 1) := by decide +kernel
theorem dX10_append_31 : decode cX10_append 31 = .ok (.iconst 0, 1) := by decide +kernel
theorem dX10_append_32 : decode cX10_append 32 = .ok (.istore 6, 2) := by decide +kernel
theorem dX10_append_34 : decode cX10_append 34 = .ok (.iload 6, 2) := by decide +kernel
theorem dX10_append_36 : decode cX10_append 36 = .ok (.bipush 20, 2) := by decide +kernel
theorem dX10_append_38 : decode cX10_append 38 = .ok (.if_icmp .ge 93, 3) := by decide +kernel
theorem dX10_append_41 : decode cX10_append 41 = .ok (.iload 6, 2) := by decide +kernel
theorem dX10_append_43 : decode cX10_append 43 = .ok (.iconst 4, 1) := by decide +kernel
theorem dX10_append_44 : decode cX10_append 44 = .ok (.if_icmp .ge 7, 3) := by decide +kernel
theorem dX10_append_47 : decode cX10_append 47 = .ok (.iload_n 1, 1) := by decide +kernel
theorem dX10_append_48 : decode cX10_append 48 = .ok (.goto 39, 3) := by decide +kernel
theorem dX10_append_51 : decode cX10_append 51 = .ok (.iload 6, 2) := by decide +kernel
theorem dX10_append_53 : decode cX10_append 53 = .ok (.bipush 8, 2) := by decide +kernel
theorem dX10_append_55 : decode cX10_append 55 = .ok (.if_icmp .ge 7, 3) := by decide +kernel
theorem dX10_append_58 : decode cX10_append 58 = .ok (.iload_n 2, 1) := by decide +kernel
theorem dX10_append_59 : decode cX10_append 59 = .ok (.goto 28, 3) := by decide +kernel
theorem dX10_append_62 : decode cX10_append 62 = .ok (.iload 6, 2) := by decide +kernel
theorem dX10_append_64 : decode cX10_append 64 = .ok (.bipush 12, 2) := by decide +kernel
theorem dX10_append_66 : decode cX10_append 66 = .ok (.if_icmp .ge 7, 3) := by decide +kernel
theorem dX10_append_69 : decode cX10_append 69 = .ok (.iload_n 3, 1) := by decide +kernel
theorem dX10_append_70 : decode cX10_append 70 = .ok (.goto 17, 3) := by decide +kernel
theorem dX10_append_73 : decode cX10_append 73 = .ok (.iload 6, 2) := by decide +kernel
theorem dX10_append_75 : decode cX10_append 75 = .ok (.bipush 16, 2) := by decide +kernel
theorem dX10_append_77 : decode cX10_append 77 = .ok (.if_icmp .ge 8, 3) := by decide +kernel
theorem dX10_append_80 : decode cX10_append 80 = .ok (.iload 4, 2) := by decide +kernel
theorem dX10_append_82 : decode cX10_append 82 = .ok (.goto 5, 3) := by decide +kernel
theorem dX10_append_85 : decode cX10_append 85 = .ok (.iload 5, 2) := by decide +kernel
theorem dX10_append_87 : decode cX10_append 87 = .ok (.istore 7, 2) := by decide +kernel
theorem dX10_append_89 : decode cX10_append 89 = .ok (.aload_n 0, 1) := by decide +kernel
theorem dX10_append_90 : decode cX10_append 90 = .ok (.getfield 26, 3) := by decide +kernel
theorem dX10_append_93 : decode cX10_append 93 = .ok (.aload_n 0, 1) := by decide +kernel
theorem dX10_append_94 : decode cX10_append 94 = .ok (.getfield 69, 3) := by decide +kernel
theorem dX10_append_97 : decode cX10_append 97 = .ok (.iload 7, 2) := by decide +kernel
theorem dX10_append_99 : decode cX10_append 99 = .ok (.bipush 24, 2) := by decide +kernel
theorem dX10_append_101 : decode cX10_append 101 = .ok (.bipush 8, 2) := by decide +kernel
theorem dX10_append_103 : decode cX10_append 103 = .ok (.iload 6, 2) := by decide +kernel
theorem dX10_append_105 : decode cX10_append 105 = .ok (.iconst 4, 1) := by decide +kernel
theorem dX10_append_106 : decode cX10_append 106 = .ok (.irem, 1) := by decide +kernel
theorem dX10_append_107 : decode cX10_append 107 = .ok (.imul, 1) := by decide +kernel
theorem dX10_append_108 : decode cX10_append 108 = .ok (.isub, 1) := by decide +kernel
theorem dX10_append_109 : decode cX10_append 109 = .ok (.ishr, 1) := by decide +kernel
theorem dX10_append_110 : decode cX10_append 110 = .ok (.sipush 255, 3) := by decide +kernel
theorem dX10_append_113 : decode cX10_append 113 = .ok (.iand, 1) := by decide +kernel
theorem dX10_append_114 : decode cX10_append 114 = .ok (.iastore, 1) := by decide +kernel
theorem dX10_append_115 : decode cX10_append 115 = .ok (.aload_n 0, 1) := by decide +kernel
theorem dX10_append_116 : decode cX10_append 116 = .ok (.dup, 1) := by decide +kernel
theorem dX10_append_117 : decode cX10_append 117 = .ok (.getfield 69, 3) := by decide +kernel
theorem dX10_append_120 : decode cX10_append 120 = .ok (.iconst 1, 1) := by decide +kernel
theorem dX10_append_121 : decode cX10_append 121 = .ok (.iadd, 1) := by decide +kernel
theorem dX10_append_122 : decode cX10_append 122 = .ok (.putfield 69, 3) := by decide +kernel
theorem dX10_append_125 : decode cX10_append 125 = .ok (.iinc 6 1, 3) := by decide +kernel
theorem dX10_append_128 : decode cX10_append 128 = .ok (.goto (-94), 3) := by decide +kernel
theorem dX10_append_131 : decode cX10_append 131 = .ok (.aload_n 0, 1) := by decide +kernel
theorem dX10_append_132 : decode cX10_append 132 = .ok (.getfield 69, 3) := by decide +kernel
theorem dX10_append_135 : decode cX10_append 135 = .ok (.ireturn, 1) := by decide +kernel
theorem dX10_see_0 : decode cX10_see 0 = .ok (.iload_n 1, 1) := by decide +kernel
theorem dX10_see_1 : decode cX10_see 1 = .ok (.aload_n 0, 1) := by decide +kernel
theorem dX10_see_2 : decode cX10_see 2 = .ok (.getfield 72, 3) := by decide +kernel
theorem dX10_see_5 : decode cX10_see 5 = .ok (.if_icmp .ge 12, 3) := by decide +kernel
theorem dX10_see_8 : decode cX10_see 8 = .ok (.aload_n 0, 1) := by decide +kernel
theorem dX10_see_9 : decode cX10_see 9 = .ok (.getfield 26, 3) := by decide +kernel
theorem dX10_see_12 : decode cX10_see 12 = .ok (.iload_n 1, 1) := by decide +kernel
theorem dX10_see_13 : decode cX10_see 13 = .ok (.iaload, 1) := by decide +kernel
theorem dX10_see_14 : decode cX10_see 14 = .ok (.goto 4, 3) := by decide +kernel
theorem dX10_see_17 : decode cX10_see 17 = .ok (.iconst (-1), 1) := by decide +kernel
theorem dX10_see_18 : decode cX10_see 18 = .ok (.ireturn, 1) := by decide +kernel
theorem dX10_wordAt_0 : decode cX10_wordAt 0 = .ok (.iconst 0, 1) := by decide +kernel
theorem dX10_wordAt_1 : decode cX10_wordAt 1 = .ok (.istore_n 1, 1) := by decide +kernel
theorem dX10_wordAt_2 : decode cX10_wordAt 2 = .ok (.iconst 1, 1) := by decide +kernel
theorem dX10_wordAt_3 : decode cX10_wordAt 3 = .ok (.istore_n 2, 1) := by decide +kernel
theorem dX10_wordAt_4 : decode cX10_wordAt 4 = .ok (.iload_n 2, 1) := by decide +kernel
theorem dX10_wordAt_5 : decode cX10_wordAt 5 = .ok (.ldc 75, 2) := by decide +kernel
theorem dX10_wordAt_7 : decode cX10_wordAt 7 = .ok (.invokevirtual 77, 3) := by decide +kernel
theorem dX10_wordAt_10 : decode cX10_wordAt 10 = .ok (.if_icmp .ge 113, 3) := by decide +kernel
theorem dX10_wordAt_13 : decode cX10_wordAt 13 = .ok (.iconst 0, 1) := by decide +kernel
theorem dX10_wordAt_14 : decode cX10_wordAt 14 = .ok (.istore_n 3, 1) := by decide +kernel
theorem dX10_wordAt_15 : decode cX10_wordAt 15 = .ok (.ldc 75, 2) := by decide +kernel
theorem dX10_wordAt_17 : decode cX10_wordAt 17 = .ok (.iload_n 2, 1) := by decide +kernel
theorem dX10_wordAt_18 : decode cX10_wordAt 18 = .ok (.iload_n 3, 1) := by decide +kernel
theorem dX10_wordAt_19 : decode cX10_wordAt 19 = .ok (.iadd, 1) := by decide +kernel
theorem dX10_wordAt_20 : decode cX10_wordAt 20 = .ok (.invokevirtual 83, 3) := by decide +kernel
theorem dX10_wordAt_23 : decode cX10_wordAt 23 = .ok (.bipush 32, 2) := by decide +kernel
theorem dX10_wordAt_25 : decode cX10_wordAt 25 = .ok (.if_icmp .eq 44, 3) := by decide +kernel
theorem dX10_wordAt_28 : decode cX10_wordAt 28 = .ok (.aload_n 0, 1) := by decide +kernel
theorem dX10_wordAt_29 : decode cX10_wordAt 29 = .ok (.getfield 87, 3) := by decide +kernel
theorem dX10_wordAt_32 : decode cX10_wordAt 32 = .ok (.iload_n 3, 1) := by decide +kernel
theorem dX10_wordAt_33 : decode cX10_wordAt 33 = .ok (.iadd, 1) := by decide +kernel
theorem dX10_wordAt_34 : decode cX10_wordAt 34 = .ok (.aload_n 0, 1) := by decide +kernel
theorem dX10_wordAt_35 : decode cX10_wordAt 35 = .ok (.getfield 90, 3) := by decide +kernel
theorem dX10_wordAt_38 : decode cX10_wordAt 38 = .ok (.if_icmp .ge 31, 3) := by decide +kernel
theorem dX10_wordAt_41 : decode cX10_wordAt 41 = .ok (.aload_n 0, 1) := by decide +kernel
theorem dX10_wordAt_42 : decode cX10_wordAt 42 = .ok (.getfield 26, 3) := by decide +kernel
theorem dX10_wordAt_45 : decode cX10_wordAt 45 = .ok (.aload_n 0, 1) := by decide +kernel
theorem dX10_wordAt_46 : decode cX10_wordAt 46 = .ok (.getfield 87, 3) := by decide +kernel
theorem dX10_wordAt_49 : decode cX10_wordAt 49 = .ok (.iload_n 3, 1) := by decide +kernel
theorem dX10_wordAt_50 : decode cX10_wordAt 50 = .ok (.iadd, 1) := by decide +kernel
theorem dX10_wordAt_51 : decode cX10_wordAt 51 = .ok (.iaload, 1) := by decide +kernel
theorem dX10_wordAt_52 : decode cX10_wordAt 52 = .ok (.ldc 75, 2) := by decide +kernel
theorem dX10_wordAt_54 : decode cX10_wordAt 54 = .ok (.iload_n 2, 1) := by decide +kernel
theorem dX10_wordAt_55 : decode cX10_wordAt 55 = .ok (.iload_n 3, 1) := by decide +kernel
theorem dX10_wordAt_56 : decode cX10_wordAt 56 = .ok (.iadd, 1) := by decide +kernel
theorem dX10_wordAt_57 : decode cX10_wordAt 57 = .ok (.invokevirtual 83, 3) := by decide +kernel
theorem dX10_wordAt_60 : decode cX10_wordAt 60 = .ok (.if_icmp .ne 9, 3) := by decide +kernel
theorem dX10_wordAt_63 : decode cX10_wordAt 63 = .ok (.iinc 3 1, 3) := by decide +kernel
theorem dX10_wordAt_66 : decode cX10_wordAt 66 = .ok (.goto (-51), 3) := by decide +kernel
theorem dX10_wordAt_69 : decode cX10_wordAt 69 = .ok (.ldc 75, 2) := by decide +kernel
theorem dX10_wordAt_71 : decode cX10_wordAt 71 = .ok (.iload_n 2, 1) := by decide +kernel
theorem dX10_wordAt_72 : decode cX10_wordAt 72 = .ok (.iload_n 3, 1) := by decide +kernel
theorem dX10_wordAt_73 : decode cX10_wordAt 73 = .ok (.iadd, 1) := by decide +kernel
theorem dX10_wordAt_74 : decode cX10_wordAt 74 = .ok (.invokevirtual 83, 3) := by decide +kernel
theorem dX10_wordAt_77 : decode cX10_wordAt 77 = .ok (.bipush 32, 2) := by decide +kernel
theorem dX10_wordAt_79 : decode cX10_wordAt 79 = .ok (.if_icmp .ne 18, 3) := by decide +kernel
theorem dX10_wordAt_82 : decode cX10_wordAt 82 = .ok (.aload_n 0, 1) := by decide +kernel
theorem dX10_wordAt_83 : decode cX10_wordAt 83 = .ok (.getfield 87, 3) := by decide +kernel
theorem dX10_wordAt_86 : decode cX10_wordAt 86 = .ok (.iload_n 3, 1) := by decide +kernel
theorem dX10_wordAt_87 : decode cX10_wordAt 87 = .ok (.iadd, 1) := by decide +kernel
theorem dX10_wordAt_88 : decode cX10_wordAt 88 = .ok (.aload_n 0, 1) := by decide +kernel
theorem dX10_wordAt_89 : decode cX10_wordAt 89 = .ok (.getfield 90, 3) := by decide +kernel
theorem dX10_wordAt_92 : decode cX10_wordAt 92 = .ok (.if_icmp .ne 5, 3) := by decide +kernel
theorem dX10_wordAt_95 : decode cX10_wordAt 95 = .ok (.iload_n 1, 1) := by decide +kernel
theorem dX10_wordAt_96 : decode cX10_wordAt 96 = .ok (.ireturn, 1) := by decide +kernel
theorem dX10_wordAt_97 : decode cX10_wordAt 97 = .ok (.ldc 75, 2) := by decide +kernel
theorem dX10_wordAt_99 : decode cX10_wordAt 99 = .ok (.iload_n 2, 1) := by decide +kernel
theorem dX10_wordAt_100 : decode cX10_wordAt 100 = .ok (.invokevirtual 83, 3) := by decide +kernel
theorem dX10_wordAt_103 : decode cX10_wordAt 103 = .ok (.bipush 32, 2) := by decide +kernel
theorem dX10_wordAt_105 : decode cX10_wordAt 105 = .ok (.if_icmp .eq 9, 3) := by decide +kernel
theorem dX10_wordAt_108 : decode cX10_wordAt 108 = .ok (.iinc 2 1, 3) := by decide +kernel
theorem dX10_wordAt_111 : decode cX10_wordAt 111 = .ok (.goto (-14), 3) := by decide +kernel
theorem dX10_wordAt_114 : decode cX10_wordAt 114 = .ok (.iinc 2 1, 3) := by decide +kernel
theorem dX10_wordAt_117 : decode cX10_wordAt 117 = .ok (.iinc 1 1, 3) := by decide +kernel
theorem dX10_wordAt_120 : decode cX10_wordAt 120 = .ok (.goto (-116), 3) := by decide +kernel
theorem dX10_wordAt_123 : decode cX10_wordAt 123 = .ok (.iconst 3, 1) := by decide +kernel
theorem dX10_wordAt_124 : decode cX10_wordAt 124 = .ok (.ireturn, 1) := by decide +kernel
theorem dX10_next_0 : decode cX10_next 0 = .ok (.aload_n 0, 1) := by decide +kernel
theorem dX10_next_1 : decode cX10_next 1 = .ok (.aload_n 0, 1) := by decide +kernel
theorem dX10_next_2 : decode cX10_next 2 = .ok (.getfield 90, 3) := by decide +kernel
theorem dX10_next_5 : decode cX10_next 5 = .ok (.putfield 87, 3) := by decide +kernel
theorem dX10_next_8 : decode cX10_next 8 = .ok (.aload_n 0, 1) := by decide +kernel
theorem dX10_next_9 : decode cX10_next 9 = .ok (.aload_n 0, 1) := by decide +kernel
theorem dX10_next_10 : decode cX10_next 10 = .ok (.getfield 87, 3) := by decide +kernel
theorem dX10_next_13 : decode cX10_next 13 = .ok (.invokevirtual 93, 3) := by decide +kernel
theorem dX10_next_16 : decode cX10_next 16 = .ok (.bipush 32, 2) := by decide +kernel
theorem dX10_next_18 : decode cX10_next 18 = .ok (.if_icmp .ne 16, 3) := by decide +kernel
theorem dX10_next_21 : decode cX10_next 21 = .ok (.aload_n 0, 1) := by decide +kernel
theorem dX10_next_22 : decode cX10_next 22 = .ok (.dup, 1) := by decide +kernel
theorem dX10_next_23 : decode cX10_next 23 = .ok (.getfield 87, 3) := by decide +kernel
theorem dX10_next_26 : decode cX10_next 26 = .ok (.iconst 1, 1) := by decide +kernel
theorem dX10_next_27 : decode cX10_next 27 = .ok (.iadd, 1) := by decide +kernel
theorem dX10_next_28 : decode cX10_next 28 = .ok (.putfield 87, 3) := by decide +kernel
theorem dX10_next_31 : decode cX10_next 31 = .ok (.goto (-23), 3) := by decide +kernel
theorem dX10_next_34 : decode cX10_next 34 = .ok (.aload_n 0, 1) := by decide +kernel
theorem dX10_next_35 : decode cX10_next 35 = .ok (.aload_n 0, 1) := by decide +kernel
theorem dX10_next_36 : decode cX10_next 36 = .ok (.getfield 87, 3) := by decide +kernel
theorem dX10_next_39 : decode cX10_next 39 = .ok (.putfield 90, 3) := by decide +kernel
theorem dX10_next_42 : decode cX10_next 42 = .ok (.aload_n 0, 1) := by decide +kernel
theorem dX10_next_43 : decode cX10_next 43 = .ok (.getfield 87, 3) := by decide +kernel
theorem dX10_next_46 : decode cX10_next 46 = .ok (.aload_n 0, 1) := by decide +kernel
theorem dX10_next_47 : decode cX10_next 47 = .ok (.getfield 72, 3) := by decide +kernel
theorem dX10_next_50 : decode cX10_next 50 = .ok (.if_icmp .lt 12, 3) := by decide +kernel
theorem dX10_next_53 : decode cX10_next 53 = .ok (.aload_n 0, 1) := by decide +kernel
theorem dX10_next_54 : decode cX10_next 54 = .ok (.bipush 6, 2) := by decide +kernel
theorem dX10_next_56 : decode cX10_next 56 = .ok (.putfield 97, 3) := by decide +kernel
theorem dX10_next_59 : decode cX10_next 59 = .ok (.goto 207, 3) := by decide +kernel
theorem dX10_next_62 : decode cX10_next 62 = .ok (.aload_n 0, 1) := by decide +kernel
theorem dX10_next_63 : decode cX10_next 63 = .ok (.aload_n 0, 1) := by decide +kernel
theorem dX10_next_64 : decode cX10_next 64 = .ok (.getfield 87, 3) := by decide +kernel
theorem dX10_next_67 : decode cX10_next 67 = .ok (.invokevirtual 93, 3) := by decide +kernel
theorem dX10_next_70 : decode cX10_next 70 = .ok (.i2l, 1) := by decide +kernel
theorem dX10_next_71 : decode cX10_next 71 = .ok (.ldc2_w 100, 3) := by decide +kernel
theorem dX10_next_74 : decode cX10_next 74 = .ok (.ldc2_w 102, 3) := by decide +kernel
theorem dX10_next_77 : decode cX10_next 77 = .ok (.invokestatic 104, 3) := by decide +kernel
theorem dX10_next_80 : decode cX10_next 80 = .ok (.ifCond .eq 48, 3) := by decide +kernel
theorem dX10_next_83 : decode cX10_next 83 = .ok (.aload_n 0, 1) := by decide +kernel
theorem dX10_next_84 : decode cX10_next 84 = .ok (.aload_n 0, 1) := by decide +kernel
theorem dX10_next_85 : decode cX10_next 85 = .ok (.getfield 90, 3) := by decide +kernel
theorem dX10_next_88 : decode cX10_next 88 = .ok (.invokevirtual 93, 3) := by decide +kernel
theorem dX10_next_91 : decode cX10_next 91 = .ok (.i2l, 1) := by decide +kernel
theorem dX10_next_92 : decode cX10_next 92 = .ok (.ldc2_w 100, 3) := by decide +kernel
theorem dX10_next_95 : decode cX10_next 95 = .ok (.ldc2_w 102, 3) := by decide +kernel
theorem dX10_next_98 : decode cX10_next 98 = .ok (.invokestatic 104, 3) := by decide +kernel
theorem dX10_next_101 : decode cX10_next 101 = .ok (.ifCond .eq 16, 3) := by decide +kernel
theorem dX10_next_104 : decode cX10_next 104 = .ok (.aload_n 0, 1) := by decide +kernel
theorem dX10_next_105 : decode cX10_next 105 = .ok (.dup, 1) := by decide +kernel
theorem dX10_next_106 : decode cX10_next 106 = .ok (.getfield 90, 3) := by decide +kernel
theorem dX10_next_109 : decode cX10_next 109 = .ok (.iconst 1, 1) := by decide +kernel
theorem dX10_next_110 : decode cX10_next 110 = .ok (.iadd, 1) := by decide +kernel
theorem dX10_next_111 : decode cX10_next 111 = .ok (.putfield 90, 3) := by decide +kernel
theorem dX10_next_114 : decode cX10_next 114 = .ok (.goto (-31), 3) := by decide +kernel
theorem dX10_next_117 : decode cX10_next 117 = .ok (.aload_n 0, 1) := by decide +kernel
theorem dX10_next_118 : decode cX10_next 118 = .ok (.aload_n 0, 1) := by decide +kernel
theorem dX10_next_119 : decode cX10_next 119 = .ok (.invokevirtual 108, 3) := by decide +kernel
theorem dX10_next_122 : decode cX10_next 122 = .ok (.putfield 97, 3) := by decide +kernel
theorem dX10_next_125 : decode cX10_next 125 = .ok (.goto 141, 3) := by decide +kernel
theorem dX10_next_128 : decode cX10_next 128 = .ok (.aload_n 0, 1) := by decide +kernel
theorem dX10_next_129 : decode cX10_next 129 = .ok (.aload_n 0, 1) := by decide +kernel
theorem dX10_next_130 : decode cX10_next 130 = .ok (.getfield 87, 3) := by decide +kernel
theorem dX10_next_133 : decode cX10_next 133 = .ok (.invokevirtual 93, 3) := by decide +kernel
theorem dX10_next_136 : decode cX10_next 136 = .ok (.i2l, 1) := by decide +kernel
theorem dX10_next_137 : decode cX10_next 137 = .ok (.ldc2_w 111, 3) := by decide +kernel
theorem dX10_next_140 : decode cX10_next 140 = .ok (.ldc2_w 113, 3) := by decide +kernel
theorem dX10_next_143 : decode cX10_next 143 = .ok (.invokestatic 104, 3) := by decide +kernel
theorem dX10_next_146 : decode cX10_next 146 = .ok (.ifCond .eq 87, 3) := by decide +kernel
theorem dX10_next_149 : decode cX10_next 149 = .ok (.aload_n 0, 1) := by decide +kernel
theorem dX10_next_150 : decode cX10_next 150 = .ok (.lconst 0, 1) := by decide +kernel
theorem dX10_next_151 : decode cX10_next 151 = .ok (.putfield 115, 3) := by decide +kernel
theorem dX10_next_154 : decode cX10_next 154 = .ok (.aload_n 0, 1) := by decide +kernel
theorem dX10_next_155 : decode cX10_next 155 = .ok (.aload_n 0, 1) := by decide +kernel
theorem dX10_next_156 : decode cX10_next 156 = .ok (.getfield 90, 3) := by decide +kernel
theorem dX10_next_159 : decode cX10_next 159 = .ok (.invokevirtual 93, 3) := by decide +kernel
theorem dX10_next_162 : decode cX10_next 162 = .ok (.i2l, 1) := by decide +kernel
theorem dX10_next_163 : decode cX10_next 163 = .ok (.ldc2_w 111, 3) := by decide +kernel
theorem dX10_next_166 : decode cX10_next 166 = .ok (.ldc2_w 113, 3) := by decide +kernel
theorem dX10_next_169 : decode cX10_next 169 = .ok (.invokestatic 104, 3) := by decide +kernel
theorem dX10_next_172 : decode cX10_next 172 = .ok (.ifCond .eq 53, 3) := by decide +kernel
theorem dX10_next_175 : decode cX10_next 175 = .ok (.aload_n 0, 1) := by decide +kernel
theorem dX10_next_176 : decode cX10_next 176 = .ok (.getfield 115, 3) := by decide +kernel
theorem dX10_next_179 : decode cX10_next 179 = .ok (.ldc2_w 119, 3) := by decide +kernel
theorem dX10_next_182 : decode cX10_next 182 = .ok (.lcmp, 1) := by decide +kernel
theorem dX10_next_183 : decode cX10_next 183 = .ok (.ifCond .ge 29, 3) := by decide +kernel
theorem dX10_next_186 : decode cX10_next 186 = .ok (.aload_n 0, 1) := by decide +kernel
theorem dX10_next_187 : decode cX10_next 187 = .ok (.ldc2_w 121, 3) := by decide +kernel
theorem dX10_next_190 : decode cX10_next 190 = .ok (.aload_n 0, 1) := by decide +kernel
theorem dX10_next_191 : decode cX10_next 191 = .ok (.getfield 115, 3) := by decide +kernel
theorem dX10_next_194 : decode cX10_next 194 = .ok (.lmul, 1) := by decide +kernel
theorem dX10_next_195 : decode cX10_next 195 = .ok (.aload_n 0, 1) := by decide +kernel
theorem dX10_next_196 : decode cX10_next 196 = .ok (.aload_n 0, 1) := by decide +kernel
theorem dX10_next_197 : decode cX10_next 197 = .ok (.getfield 90, 3) := by decide +kernel
theorem dX10_next_200 : decode cX10_next 200 = .ok (.invokevirtual 93, 3) := by decide +kernel
theorem dX10_next_203 : decode cX10_next 203 = .ok (.i2l, 1) := by decide +kernel
theorem dX10_next_204 : decode cX10_next 204 = .ok (.ladd, 1) := by decide +kernel
theorem dX10_next_205 : decode cX10_next 205 = .ok (.ldc2_w 111, 3) := by decide +kernel
theorem dX10_next_208 : decode cX10_next 208 = .ok (.lsub, 1) := by decide +kernel
theorem dX10_next_209 : decode cX10_next 209 = .ok (.putfield 115, 3) := by decide +kernel
theorem dX10_next_212 : decode cX10_next 212 = .ok (.aload_n 0, 1) := by decide +kernel
theorem dX10_next_213 : decode cX10_next 213 = .ok (.dup, 1) := by decide +kernel
theorem dX10_next_214 : decode cX10_next 214 = .ok (.getfield 90, 3) := by decide +kernel
theorem dX10_next_217 : decode cX10_next 217 = .ok (.iconst 1, 1) := by decide +kernel
theorem dX10_next_218 : decode cX10_next 218 = .ok (.iadd, 1) := by decide +kernel
theorem dX10_next_219 : decode cX10_next 219 = .ok (.putfield 90, 3) := by decide +kernel
theorem dX10_next_222 : decode cX10_next 222 = .ok (.goto (-68), 3) := by decide +kernel
theorem dX10_next_225 : decode cX10_next 225 = .ok (.aload_n 0, 1) := by decide +kernel
theorem dX10_next_226 : decode cX10_next 226 = .ok (.iconst 4, 1) := by decide +kernel
theorem dX10_next_227 : decode cX10_next 227 = .ok (.putfield 97, 3) := by decide +kernel
theorem dX10_next_230 : decode cX10_next 230 = .ok (.goto 36, 3) := by decide +kernel
theorem dX10_next_233 : decode cX10_next 233 = .ok (.aload_n 0, 1) := by decide +kernel
theorem dX10_next_234 : decode cX10_next 234 = .ok (.dup, 1) := by decide +kernel
theorem dX10_next_235 : decode cX10_next 235 = .ok (.getfield 90, 3) := by decide +kernel
theorem dX10_next_238 : decode cX10_next 238 = .ok (.iconst 1, 1) := by decide +kernel
theorem dX10_next_239 : decode cX10_next 239 = .ok (.iadd, 1) := by decide +kernel
theorem dX10_next_240 : decode cX10_next 240 = .ok (.putfield 90, 3) := by decide +kernel
theorem dX10_next_243 : decode cX10_next 243 = .ok (.aload_n 0, 1) := by decide +kernel
theorem dX10_next_244 : decode cX10_next 244 = .ok (.aload_n 0, 1) := by decide +kernel
theorem dX10_next_245 : decode cX10_next 245 = .ok (.aload_n 0, 1) := by decide +kernel
theorem dX10_next_246 : decode cX10_next 246 = .ok (.getfield 87, 3) := by decide +kernel
theorem dX10_next_249 : decode cX10_next 249 = .ok (.invokevirtual 93, 3) := by decide +kernel
theorem dX10_next_252 : decode cX10_next 252 = .ok (.bipush 59, 2) := by decide +kernel
theorem dX10_next_254 : decode cX10_next 254 = .ok (.if_icmp .ne 7, 3) := by decide +kernel
theorem dX10_next_257 : decode cX10_next 257 = .ok (.iconst 5, 1) := by decide +kernel
theorem dX10_next_258 : decode cX10_next 258 = .ok (.goto 5, 3) := by decide +kernel
theorem dX10_next_261 : decode cX10_next 261 = .ok (.bipush 7, 2) := by decide +kernel
theorem dX10_next_263 : decode cX10_next 263 = .ok (.putfield 97, 3) := by decide +kernel
theorem dX10_next_266 : decode cX10_next 266 = .ok (.return_, 1) := by decide +kernel
theorem dX10_fails_0 : decode cX10_fails 0 = .ok (.aload_n 0, 1) := by decide +kernel
theorem dX10_fails_1 : decode cX10_fails 1 = .ok (.getfield 123, 3) := by decide +kernel
theorem dX10_fails_4 : decode cX10_fails 4 = .ok (.ifCond .eq 4, 3) := by decide +kernel
theorem dX10_fails_7 : decode cX10_fails 7 = .ok (.return_, 1) := by decide +kernel
theorem dX10_fails_8 : decode cX10_fails 8 = .ok (.aload_n 0, 1) := by decide +kernel
theorem dX10_fails_9 : decode cX10_fails 9 = .ok (.iload_n 1, 1) := by decide +kernel
theorem dX10_fails_10 : decode cX10_fails 10 = .ok (.putfield 123, 3) := by decide +kernel
theorem dX10_fails_13 : decode cX10_fails 13 = .ok (.aload_n 0, 1) := by decide +kernel
theorem dX10_fails_14 : decode cX10_fails 14 = .ok (.aload_n 0, 1) := by decide +kernel
theorem dX10_fails_15 : decode cX10_fails 15 = .ok (.getfield 87, 3) := by decide +kernel
theorem dX10_fails_18 : decode cX10_fails 18 = .ok (.putfield 126, 3) := by decide +kernel
theorem dX10_fails_21 : decode cX10_fails 21 = .ok (.return_, 1) := by decide +kernel
theorem dX10_is_0 : decode cX10_is 0 = .ok (.aload_n 0, 1) := by decide +kernel
theorem dX10_is_1 : decode cX10_is 1 = .ok (.getfield 123, 3) := by decide +kernel
theorem dX10_is_4 : decode cX10_is 4 = .ok (.ifCond .ne 15, 3) := by decide +kernel
theorem dX10_is_7 : decode cX10_is 7 = .ok (.aload_n 0, 1) := by decide +kernel
theorem dX10_is_8 : decode cX10_is 8 = .ok (.getfield 97, 3) := by decide +kernel
theorem dX10_is_11 : decode cX10_is 11 = .ok (.iload_n 1, 1) := by decide +kernel
theorem dX10_is_12 : decode cX10_is 12 = .ok (.if_icmp .ne 7, 3) := by decide +kernel
theorem dX10_is_15 : decode cX10_is 15 = .ok (.iconst 1, 1) := by decide +kernel
theorem dX10_is_16 : decode cX10_is 16 = .ok (.goto 4, 3) := by decide +kernel
theorem dX10_is_19 : decode cX10_is 19 = .ok (.iconst 0, 1) := by decide +kernel
theorem dX10_is_20 : decode cX10_is 20 = .ok (.ireturn, 1) := by decide +kernel
theorem dX10_must_0 : decode cX10_must 0 = .ok (.aload_n 0, 1) := by decide +kernel
theorem dX10_must_1 : decode cX10_must 1 = .ok (.iload_n 1, 1) := by decide +kernel
theorem dX10_must_2 : decode cX10_must 2 = .ok (.invokevirtual 129, 3) := by decide +kernel
theorem dX10_must_5 : decode cX10_must 5 = .ok (.ifCond .ne 9, 3) := by decide +kernel
theorem dX10_must_8 : decode cX10_must 8 = .ok (.aload_n 0, 1) := by decide +kernel
theorem dX10_must_9 : decode cX10_must 9 = .ok (.bipush (-2), 2) := by decide +kernel
theorem dX10_must_11 : decode cX10_must 11 = .ok (.invokevirtual 133, 3) := by decide +kernel
theorem dX10_must_14 : decode cX10_must 14 = .ok (.aload_n 0, 1) := by decide +kernel
theorem dX10_must_15 : decode cX10_must 15 = .ok (.getfield 123, 3) := by decide +kernel
theorem dX10_must_18 : decode cX10_must 18 = .ok (.ifCond .ne 7, 3) := by decide +kernel
theorem dX10_must_21 : decode cX10_must 21 = .ok (.aload_n 0, 1) := by decide +kernel
theorem dX10_must_22 : decode cX10_must 22 = .ok (.invokevirtual 137, 3) := by decide +kernel
theorem dX10_must_25 : decode cX10_must 25 = .ok (.return_, 1) := by decide +kernel
theorem dX10_takes_0 : decode cX10_takes 0 = .ok (.aload_n 0, 1) := by decide +kernel
theorem dX10_takes_1 : decode cX10_takes 1 = .ok (.iconst 4, 1) := by decide +kernel
theorem dX10_takes_2 : decode cX10_takes 2 = .ok (.invokevirtual 129, 3) := by decide +kernel
theorem dX10_takes_5 : decode cX10_takes 5 = .ok (.ifCond .ne 12, 3) := by decide +kernel
theorem dX10_takes_8 : decode cX10_takes 8 = .ok (.aload_n 0, 1) := by decide +kernel
theorem dX10_takes_9 : decode cX10_takes 9 = .ok (.bipush (-2), 2) := by decide +kernel
theorem dX10_takes_11 : decode cX10_takes 11 = .ok (.invokevirtual 133, 3) := by decide +kernel
theorem dX10_takes_14 : decode cX10_takes 14 = .ok (.goto 23, 3) := by decide +kernel
theorem dX10_takes_17 : decode cX10_takes 17 = .ok (.aload_n 0, 1) := by decide +kernel
theorem dX10_takes_18 : decode cX10_takes 18 = .ok (.getfield 115, 3) := by decide +kernel
theorem dX10_takes_21 : decode cX10_takes 21 = .ok (.iload_n 1, 1) := by decide +kernel
theorem dX10_takes_22 : decode cX10_takes 22 = .ok (.i2l, 1) := by decide +kernel
theorem dX10_takes_23 : decode cX10_takes 23 = .ok (.iload_n 2, 1) := by decide +kernel
theorem dX10_takes_24 : decode cX10_takes 24 = .ok (.i2l, 1) := by decide +kernel
theorem dX10_takes_25 : decode cX10_takes 25 = .ok (.invokestatic 104, 3) := by decide +kernel
theorem dX10_takes_28 : decode cX10_takes 28 = .ok (.ifCond .ne 9, 3) := by decide +kernel
theorem dX10_takes_31 : decode cX10_takes 31 = .ok (.aload_n 0, 1) := by decide +kernel
theorem dX10_takes_32 : decode cX10_takes 32 = .ok (.bipush (-3), 2) := by decide +kernel
theorem dX10_takes_34 : decode cX10_takes 34 = .ok (.invokevirtual 133, 3) := by decide +kernel
theorem dX10_takes_37 : decode cX10_takes 37 = .ok (.aload_n 0, 1) := by decide +kernel
theorem dX10_takes_38 : decode cX10_takes 38 = .ok (.getfield 123, 3) := by decide +kernel
theorem dX10_takes_41 : decode cX10_takes 41 = .ok (.ifCond .ne 11, 3) := by decide +kernel
theorem dX10_takes_44 : decode cX10_takes 44 = .ok (.aload_n 0, 1) := by decide +kernel
theorem dX10_takes_45 : decode cX10_takes 45 = .ok (.getfield 115, 3) := by decide +kernel
theorem dX10_takes_48 : decode cX10_takes 48 = .ok (.l2i, 1) := by decide +kernel
theorem dX10_takes_49 : decode cX10_takes 49 = .ok (.goto 4, 3) := by decide +kernel
theorem dX10_takes_52 : decode cX10_takes 52 = .ok (.iconst 0, 1) := by decide +kernel
theorem dX10_takes_53 : decode cX10_takes 53 = .ok (.istore_n 3, 1) := by decide +kernel
theorem dX10_takes_54 : decode cX10_takes 54 = .ok (.aload_n 0, 1) := by decide +kernel
theorem dX10_takes_55 : decode cX10_takes 55 = .ok (.getfield 123, 3) := by decide +kernel
theorem dX10_takes_58 : decode cX10_takes 58 = .ok (.ifCond .ne 7, 3) := by decide +kernel
theorem dX10_takes_61 : decode cX10_takes 61 = .ok (.aload_n 0, 1) := by decide +kernel
theorem dX10_takes_62 : decode cX10_takes 62 = .ok (.invokevirtual 137, 3) := by decide +kernel
theorem dX10_takes_65 : decode cX10_takes 65 = .ok (.iload_n 3, 1) := by decide +kernel
theorem dX10_takes_66 : decode cX10_takes 66 = .ok (.ireturn, 1) := by decide +kernel
theorem dX10_readsPeriod_0 : decode cX10_readsPeriod 0 = .ok (.aload_n 0, 1) := by decide +kernel
theorem dX10_readsPeriod_1 : decode cX10_readsPeriod 1 = .ok (.iconst 1, 1) := by decide +kernel
theorem dX10_readsPeriod_2 : decode cX10_readsPeriod 2 = .ok (.invokevirtual 129, 3) := by decide +kernel
theorem dX10_readsPeriod_5 : decode cX10_readsPeriod 5 = .ok (.ifCond .eq 19, 3) := by decide +kernel
theorem dX10_readsPeriod_8 : decode cX10_readsPeriod 8 = .ok (.aload_n 0, 1) := by decide +kernel
theorem dX10_readsPeriod_9 : decode cX10_readsPeriod 9 = .ok (.getfield 13, 3) := by decide +kernel
theorem dX10_readsPeriod_12 : decode cX10_readsPeriod 12 = .ok (.iconst 4, 1) := by decide +kernel
theorem dX10_readsPeriod_13 : decode cX10_readsPeriod 13 = .ok (.iaload, 1) := by decide +kernel
theorem dX10_readsPeriod_14 : decode cX10_readsPeriod 14 = .ok (.iconst 4, 1) := by decide +kernel
theorem dX10_readsPeriod_15 : decode cX10_readsPeriod 15 = .ok (.if_icmp .ne 9, 3) := by decide +kernel
theorem dX10_readsPeriod_18 : decode cX10_readsPeriod 18 = .ok (.aload_n 0, 1) := by decide +kernel
theorem dX10_readsPeriod_19 : decode cX10_readsPeriod 19 = .ok (.bipush (-4), 2) := by decide +kernel
theorem dX10_readsPeriod_21 : decode cX10_readsPeriod 21 = .ok (.invokevirtual 133, 3) := by decide +kernel
theorem dX10_readsPeriod_24 : decode cX10_readsPeriod 24 = .ok (.aload_n 0, 1) := by decide +kernel
theorem dX10_readsPeriod_25 : decode cX10_readsPeriod 25 = .ok (.iconst 1, 1) := by decide +kernel
theorem dX10_readsPeriod_26 : decode cX10_readsPeriod 26 = .ok (.invokevirtual 140, 3) := by decide +kernel
theorem dX10_readsPeriod_29 : decode cX10_readsPeriod 29 = .ok (.aload_n 0, 1) := by decide +kernel
theorem dX10_readsPeriod_30 : decode cX10_readsPeriod 30 = .ok (.iconst 0, 1) := by decide +kernel
theorem dX10_readsPeriod_31 : decode cX10_readsPeriod 31 = .ok (.sipush 200, 3) := by decide +kernel
theorem dX10_readsPeriod_34 : decode cX10_readsPeriod 34 = .ok (.invokevirtual 143, 3) := by decide +kernel
theorem dX10_readsPeriod_37 : decode cX10_readsPeriod 37 = .ok (.istore_n 1, 1) := by decide +kernel
theorem dX10_readsPeriod_38 : decode cX10_readsPeriod 38 = .ok (.aload_n 0, 1) := by decide +kernel
theorem dX10_readsPeriod_39 : decode cX10_readsPeriod 39 = .ok (.iconst 5, 1) := by decide +kernel
theorem dX10_readsPeriod_40 : decode cX10_readsPeriod 40 = .ok (.invokevirtual 140, 3) := by decide +kernel
theorem dX10_readsPeriod_43 : decode cX10_readsPeriod 43 = .ok (.aload_n 0, 1) := by decide +kernel
theorem dX10_readsPeriod_44 : decode cX10_readsPeriod 44 = .ok (.getfield 123, 3) := by decide +kernel
theorem dX10_readsPeriod_47 : decode cX10_readsPeriod 47 = .ok (.ifCond .eq 4, 3) := by decide +kernel
theorem dX10_readsPeriod_50 : decode cX10_readsPeriod 50 = .ok (.return_, 1) := by decide +kernel
theorem dX10_readsPeriod_51 : decode cX10_readsPeriod 51 = .ok (.aload_n 0, 1) := by decide +kernel
theorem dX10_readsPeriod_52 : decode cX10_readsPeriod 52 = .ok (.getfield 13, 3) := by decide +kernel
theorem dX10_readsPeriod_55 : decode cX10_readsPeriod 55 = .ok (.bipush 32, 2) := by decide +kernel
theorem dX10_readsPeriod_57 : decode cX10_readsPeriod 57 = .ok (.aload_n 0, 1) := by decide +kernel
theorem dX10_readsPeriod_58 : decode cX10_readsPeriod 58 = .ok (.getfield 13, 3) := by decide +kernel
theorem dX10_readsPeriod_61 : decode cX10_readsPeriod 61 = .ok (.iconst 4, 1) := by decide +kernel
theorem dX10_readsPeriod_62 : decode cX10_readsPeriod 62 = .ok (.iaload, 1) := by decide +kernel
theorem dX10_readsPeriod_63 : decode cX10_readsPeriod 63 = .ok (.iadd, 1) := by decide +kernel
theorem dX10_readsPeriod_64 : decode cX10_readsPeriod 64 = .ok (.iload_n 1, 1) := by decide +kernel
theorem dX10_readsPeriod_65 : decode cX10_readsPeriod 65 = .ok (.iastore, 1) := by decide +kernel
theorem dX10_readsPeriod_66 : decode cX10_readsPeriod 66 = .ok (.aload_n 0, 1) := by decide +kernel
theorem dX10_readsPeriod_67 : decode cX10_readsPeriod 67 = .ok (.getfield 13, 3) := by decide +kernel
theorem dX10_readsPeriod_70 : decode cX10_readsPeriod 70 = .ok (.iconst 4, 1) := by decide +kernel
theorem dX10_readsPeriod_71 : decode cX10_readsPeriod 71 = .ok (.dup2, 1) := by decide +kernel
theorem dX10_readsPeriod_72 : decode cX10_readsPeriod 72 = .ok (.iaload, 1) := by decide +kernel
theorem dX10_readsPeriod_73 : decode cX10_readsPeriod 73 = .ok (.iconst 1, 1) := by decide +kernel
theorem dX10_readsPeriod_74 : decode cX10_readsPeriod 74 = .ok (.iadd, 1) := by decide +kernel
theorem dX10_readsPeriod_75 : decode cX10_readsPeriod 75 = .ok (.iastore, 1) := by decide +kernel
theorem dX10_readsPeriod_76 : decode cX10_readsPeriod 76 = .ok (.return_, 1) := by decide +kernel
theorem dX10_readsHours_0 : decode cX10_readsHours 0 = .ok (.aload_n 0, 1) := by decide +kernel
theorem dX10_readsHours_1 : decode cX10_readsHours 1 = .ok (.iconst 2, 1) := by decide +kernel
theorem dX10_readsHours_2 : decode cX10_readsHours 2 = .ok (.invokevirtual 140, 3) := by decide +kernel
theorem dX10_readsHours_5 : decode cX10_readsHours 5 = .ok (.aload_n 0, 1) := by decide +kernel
theorem dX10_readsHours_6 : decode cX10_readsHours 6 = .ok (.iconst 0, 1) := by decide +kernel
theorem dX10_readsHours_7 : decode cX10_readsHours 7 = .ok (.bipush 23, 2) := by decide +kernel
theorem dX10_readsHours_9 : decode cX10_readsHours 9 = .ok (.invokevirtual 143, 3) := by decide +kernel
theorem dX10_readsHours_12 : decode cX10_readsHours 12 = .ok (.istore_n 1, 1) := by decide +kernel
theorem dX10_readsHours_13 : decode cX10_readsHours 13 = .ok (.aload_n 0, 1) := by decide +kernel
theorem dX10_readsHours_14 : decode cX10_readsHours 14 = .ok (.iload_n 1, 1) := by decide +kernel
theorem dX10_readsHours_15 : decode cX10_readsHours 15 = .ok (.iconst 1, 1) := by decide +kernel
theorem dX10_readsHours_16 : decode cX10_readsHours 16 = .ok (.iadd, 1) := by decide +kernel
theorem dX10_readsHours_17 : decode cX10_readsHours 17 = .ok (.bipush 24, 2) := by decide +kernel
theorem dX10_readsHours_19 : decode cX10_readsHours 19 = .ok (.invokevirtual 143, 3) := by decide +kernel
theorem dX10_readsHours_22 : decode cX10_readsHours 22 = .ok (.istore_n 2, 1) := by decide +kernel
theorem dX10_readsHours_23 : decode cX10_readsHours 23 = .ok (.aload_n 0, 1) := by decide +kernel
theorem dX10_readsHours_24 : decode cX10_readsHours 24 = .ok (.iconst 0, 1) := by decide +kernel
theorem dX10_readsHours_25 : decode cX10_readsHours 25 = .ok (.aload_n 0, 1) := by decide +kernel
theorem dX10_readsHours_26 : decode cX10_readsHours 26 = .ok (.getfield 13, 3) := by decide +kernel
theorem dX10_readsHours_29 : decode cX10_readsHours 29 = .ok (.iconst 4, 1) := by decide +kernel
theorem dX10_readsHours_30 : decode cX10_readsHours 30 = .ok (.iaload, 1) := by decide +kernel
theorem dX10_readsHours_31 : decode cX10_readsHours 31 = .ok (.iconst 1, 1) := by decide +kernel
theorem dX10_readsHours_32 : decode cX10_readsHours 32 = .ok (.isub, 1) := by decide +kernel
theorem dX10_readsHours_33 : decode cX10_readsHours 33 = .ok (.invokevirtual 143, 3) := by decide +kernel
theorem dX10_readsHours_36 : decode cX10_readsHours 36 = .ok (.istore_n 3, 1) := by decide +kernel
theorem dX10_readsHours_37 : decode cX10_readsHours 37 = .ok (.aload_n 0, 1) := by decide +kernel
theorem dX10_readsHours_38 : decode cX10_readsHours 38 = .ok (.iconst 5, 1) := by decide +kernel
theorem dX10_readsHours_39 : decode cX10_readsHours 39 = .ok (.invokevirtual 140, 3) := by decide +kernel
theorem dX10_readsHours_42 : decode cX10_readsHours 42 = .ok (.iload_n 1, 1) := by decide +kernel
theorem dX10_readsHours_43 : decode cX10_readsHours 43 = .ok (.istore 4, 2) := by decide +kernel
theorem dX10_readsHours_45 : decode cX10_readsHours 45 = .ok (.iload 4, 2) := by decide +kernel
theorem dX10_readsHours_47 : decode cX10_readsHours 47 = .ok (.iload_n 2, 1) := by decide +kernel
theorem dX10_readsHours_48 : decode cX10_readsHours 48 = .ok (.if_icmp .ge 27, 3) := by decide +kernel
theorem dX10_readsHours_51 : decode cX10_readsHours 51 = .ok (.aload_n 0, 1) := by decide +kernel
theorem dX10_readsHours_52 : decode cX10_readsHours 52 = .ok (.getfield 123, 3) := by decide +kernel
theorem dX10_readsHours_55 : decode cX10_readsHours 55 = .ok (.ifCond .ne 20, 3) := by decide +kernel
theorem dX10_readsHours_58 : decode cX10_readsHours 58 = .ok (.aload_n 0, 1) := by decide +kernel
theorem dX10_readsHours_59 : decode cX10_readsHours 59 = .ok (.getfield 13, 3) := by decide +kernel
theorem dX10_readsHours_62 : decode cX10_readsHours 62 = .ok (.bipush 8, 2) := by decide +kernel
theorem dX10_readsHours_64 : decode cX10_readsHours 64 = .ok (.iload 4, 2) := by decide +kernel
theorem dX10_readsHours_66 : decode cX10_readsHours 66 = .ok (.iadd, 1) := by decide +kernel
theorem dX10_readsHours_67 : decode cX10_readsHours 67 = .ok (.iload_n 3, 1) := by decide +kernel
theorem dX10_readsHours_68 : decode cX10_readsHours 68 = .ok (.iastore, 1) := by decide +kernel
theorem dX10_readsHours_69 : decode cX10_readsHours 69 = .ok (.iinc 4 1, 3) := by decide +kernel
theorem dX10_readsHours_72 : decode cX10_readsHours 72 = .ok (.goto (-27), 3) := by decide +kernel
theorem dX10_readsHours_75 : decode cX10_readsHours 75 = .ok (.return_, 1) := by decide +kernel
theorem dX10_readsAll_0 : decode cX10_readsAll 0 = .ok (.aload_n 0, 1) := by decide +kernel
theorem dX10_readsAll_1 : decode cX10_readsAll 1 = .ok (.iconst 0, 1) := by decide +kernel
theorem dX10_readsAll_2 : decode cX10_readsAll 2 = .ok (.invokevirtual 140, 3) := by decide +kernel
theorem dX10_readsAll_5 : decode cX10_readsAll 5 = .ok (.aload_n 0, 1) := by decide +kernel
theorem dX10_readsAll_6 : decode cX10_readsAll 6 = .ok (.iconst 1, 1) := by decide +kernel
theorem dX10_readsAll_7 : decode cX10_readsAll 7 = .ok (.ldc 147, 2) := by decide +kernel
theorem dX10_readsAll_9 : decode cX10_readsAll 9 = .ok (.invokevirtual 143, 3) := by decide +kernel
theorem dX10_readsAll_12 : decode cX10_readsAll 12 = .ok (.istore_n 1, 1) := by decide +kernel
theorem dX10_readsAll_13 : decode cX10_readsAll 13 = .ok (.aload_n 0, 1) := by decide +kernel
theorem dX10_readsAll_14 : decode cX10_readsAll 14 = .ok (.iconst 1, 1) := by decide +kernel
theorem dX10_readsAll_15 : decode cX10_readsAll 15 = .ok (.bipush 24, 2) := by decide +kernel
theorem dX10_readsAll_17 : decode cX10_readsAll 17 = .ok (.invokevirtual 143, 3) := by decide +kernel
theorem dX10_readsAll_20 : decode cX10_readsAll 20 = .ok (.istore_n 2, 1) := by decide +kernel
theorem dX10_readsAll_21 : decode cX10_readsAll 21 = .ok (.aload_n 0, 1) := by decide +kernel
theorem dX10_readsAll_22 : decode cX10_readsAll 22 = .ok (.iconst 0, 1) := by decide +kernel
theorem dX10_readsAll_23 : decode cX10_readsAll 23 = .ok (.bipush 100, 2) := by decide +kernel
theorem dX10_readsAll_25 : decode cX10_readsAll 25 = .ok (.invokevirtual 143, 3) := by decide +kernel
theorem dX10_readsAll_28 : decode cX10_readsAll 28 = .ok (.istore_n 3, 1) := by decide +kernel
theorem dX10_readsAll_29 : decode cX10_readsAll 29 = .ok (.aload_n 0, 1) := by decide +kernel
theorem dX10_readsAll_30 : decode cX10_readsAll 30 = .ok (.getfield 13, 3) := by decide +kernel
theorem dX10_readsAll_33 : decode cX10_readsAll 33 = .ok (.iload_n 1, 1) := by decide +kernel
theorem dX10_readsAll_34 : decode cX10_readsAll 34 = .ok (.iload_n 2, 1) := by decide +kernel
theorem dX10_readsAll_35 : decode cX10_readsAll 35 = .ok (.iload_n 3, 1) := by decide +kernel
theorem dX10_readsAll_36 : decode cX10_readsAll 36 = .ok (.aload_n 0, 1) := by decide +kernel
theorem dX10_readsAll_37 : decode cX10_readsAll 37 = .ok (.iconst 1, 1) := by decide +kernel
theorem dX10_readsAll_38 : decode cX10_readsAll 38 = .ok (.bipush 100, 2) := by decide +kernel
theorem dX10_readsAll_40 : decode cX10_readsAll 40 = .ok (.invokevirtual 143, 3) := by decide +kernel
theorem dX10_readsAll_43 : decode cX10_readsAll 43 = .ok (.invokestatic 59, 3) := by decide +kernel
theorem dX10_readsAll_46 : decode cX10_readsAll 46 = .ok (.aload_n 0, 1) := by decide +kernel
theorem dX10_readsAll_47 : decode cX10_readsAll 47 = .ok (.iconst 5, 1) := by decide +kernel
theorem dX10_readsAll_48 : decode cX10_readsAll 48 = .ok (.invokevirtual 140, 3) := by decide +kernel
theorem dX10_readsAll_51 : decode cX10_readsAll 51 = .ok (.aload_n 0, 1) := by decide +kernel
theorem dX10_readsAll_52 : decode cX10_readsAll 52 = .ok (.invokevirtual 148, 3) := by decide +kernel
theorem dX10_readsAll_55 : decode cX10_readsAll 55 = .ok (.aload_n 0, 1) := by decide +kernel
theorem dX10_readsAll_56 : decode cX10_readsAll 56 = .ok (.iconst 1, 1) := by decide +kernel
theorem dX10_readsAll_57 : decode cX10_readsAll 57 = .ok (.invokevirtual 129, 3) := by decide +kernel
theorem dX10_readsAll_60 : decode cX10_readsAll 60 = .ok (.ifCond .eq 10, 3) := by decide +kernel
theorem dX10_readsAll_63 : decode cX10_readsAll 63 = .ok (.aload_n 0, 1) := by decide +kernel
theorem dX10_readsAll_64 : decode cX10_readsAll 64 = .ok (.invokevirtual 148, 3) := by decide +kernel
theorem dX10_readsAll_67 : decode cX10_readsAll 67 = .ok (.goto (-12), 3) := by decide +kernel
theorem dX10_readsAll_70 : decode cX10_readsAll 70 = .ok (.aload_n 0, 1) := by decide +kernel
theorem dX10_readsAll_71 : decode cX10_readsAll 71 = .ok (.iconst 2, 1) := by decide +kernel
theorem dX10_readsAll_72 : decode cX10_readsAll 72 = .ok (.invokevirtual 129, 3) := by decide +kernel
theorem dX10_readsAll_75 : decode cX10_readsAll 75 = .ok (.ifCond .eq 10, 3) := by decide +kernel
theorem dX10_readsAll_78 : decode cX10_readsAll 78 = .ok (.aload_n 0, 1) := by decide +kernel
theorem dX10_readsAll_79 : decode cX10_readsAll 79 = .ok (.invokevirtual 151, 3) := by decide +kernel
theorem dX10_readsAll_82 : decode cX10_readsAll 82 = .ok (.goto (-12), 3) := by decide +kernel
theorem dX10_readsAll_85 : decode cX10_readsAll 85 = .ok (.aload_n 0, 1) := by decide +kernel
theorem dX10_readsAll_86 : decode cX10_readsAll 86 = .ok (.getfield 123, 3) := by decide +kernel
theorem dX10_readsAll_89 : decode cX10_readsAll 89 = .ok (.ifCond .ne 18, 3) := by decide +kernel
theorem dX10_readsAll_92 : decode cX10_readsAll 92 = .ok (.aload_n 0, 1) := by decide +kernel
theorem dX10_readsAll_93 : decode cX10_readsAll 93 = .ok (.getfield 97, 3) := by decide +kernel
theorem dX10_readsAll_96 : decode cX10_readsAll 96 = .ok (.bipush 6, 2) := by decide +kernel
theorem dX10_readsAll_98 : decode cX10_readsAll 98 = .ok (.if_icmp .eq 9, 3) := by decide +kernel
theorem dX10_readsAll_101 : decode cX10_readsAll 101 = .ok (.aload_n 0, 1) := by decide +kernel
theorem dX10_readsAll_102 : decode cX10_readsAll 102 = .ok (.bipush (-2), 2) := by decide +kernel
theorem dX10_readsAll_104 : decode cX10_readsAll 104 = .ok (.invokevirtual 133, 3) := by decide +kernel
theorem dX10_readsAll_107 : decode cX10_readsAll 107 = .ok (.return_, 1) := by decide +kernel
theorem dX10_load_0 : decode cX10_load 0 = .ok (.aload_n 0, 1) := by decide +kernel
theorem dX10_load_1 : decode cX10_load 1 = .ok (.iload_n 1, 1) := by decide +kernel
theorem dX10_load_2 : decode cX10_load 2 = .ok (.i2l, 1) := by decide +kernel
theorem dX10_load_3 : decode cX10_load 3 = .ok (.lconst 0, 1) := by decide +kernel
theorem dX10_load_4 : decode cX10_load 4 = .ok (.aload_n 0, 1) := by decide +kernel
theorem dX10_load_5 : decode cX10_load 5 = .ok (.getfield 69, 3) := by decide +kernel
theorem dX10_load_8 : decode cX10_load 8 = .ok (.i2l, 1) := by decide +kernel
theorem dX10_load_9 : decode cX10_load 9 = .ok (.invokestatic 104, 3) := by decide +kernel
theorem dX10_load_12 : decode cX10_load 12 = .ok (.ifCond .eq 7, 3) := by decide +kernel
theorem dX10_load_15 : decode cX10_load 15 = .ok (.iconst 0, 1) := by decide +kernel
theorem dX10_load_16 : decode cX10_load 16 = .ok (.goto 4, 3) := by decide +kernel
theorem dX10_load_19 : decode cX10_load 19 = .ok (.iconst 1, 1) := by decide +kernel
theorem dX10_load_20 : decode cX10_load 20 = .ok (.putfield 63, 3) := by decide +kernel
theorem dX10_load_23 : decode cX10_load 23 = .ok (.aload_n 0, 1) := by decide +kernel
theorem dX10_load_24 : decode cX10_load 24 = .ok (.getfield 63, 3) := by decide +kernel
theorem dX10_load_27 : decode cX10_load 27 = .ok (.ifCond .le 5, 3) := by decide +kernel
theorem dX10_load_30 : decode cX10_load 30 = .ok (.iconst 0, 1) := by decide +kernel
theorem dX10_load_31 : decode cX10_load 31 = .ok (.ireturn, 1) := by decide +kernel
theorem dX10_load_32 : decode cX10_load 32 = .ok (.aload_n 0, 1) := by decide +kernel
theorem dX10_load_33 : decode cX10_load 33 = .ok (.iload_n 1, 1) := by decide +kernel
theorem dX10_load_34 : decode cX10_load 34 = .ok (.putfield 72, 3) := by decide +kernel
theorem dX10_load_37 : decode cX10_load 37 = .ok (.aload_n 0, 1) := by decide +kernel
theorem dX10_load_38 : decode cX10_load 38 = .ok (.iconst 0, 1) := by decide +kernel
theorem dX10_load_39 : decode cX10_load 39 = .ok (.putfield 69, 3) := by decide +kernel
theorem dX10_load_42 : decode cX10_load 42 = .ok (.aload_n 0, 1) := by decide +kernel
theorem dX10_load_43 : decode cX10_load 43 = .ok (.iconst 0, 1) := by decide +kernel
theorem dX10_load_44 : decode cX10_load 44 = .ok (.putfield 90, 3) := by decide +kernel
theorem dX10_load_47 : decode cX10_load 47 = .ok (.aload_n 0, 1) := by decide +kernel
theorem dX10_load_48 : decode cX10_load 48 = .ok (.iconst 0, 1) := by decide +kernel
theorem dX10_load_49 : decode cX10_load 49 = .ok (.putfield 123, 3) := by decide +kernel
theorem dX10_load_52 : decode cX10_load 52 = .ok (.aload_n 0, 1) := by decide +kernel
theorem dX10_load_53 : decode cX10_load 53 = .ok (.invokevirtual 137, 3) := by decide +kernel
theorem dX10_load_56 : decode cX10_load 56 = .ok (.aload_n 0, 1) := by decide +kernel
theorem dX10_load_57 : decode cX10_load 57 = .ok (.invokevirtual 154, 3) := by decide +kernel
theorem dX10_load_60 : decode cX10_load 60 = .ok (.aload_n 0, 1) := by decide +kernel
theorem dX10_load_61 : decode cX10_load 61 = .ok (.aload_n 0, 1) := by decide +kernel
theorem dX10_load_62 : decode cX10_load 62 = .ok (.getfield 123, 3) := by decide +kernel
theorem dX10_load_65 : decode cX10_load 65 = .ok (.ifCond .ne 7, 3) := by decide +kernel
theorem dX10_load_68 : decode cX10_load 68 = .ok (.iconst (-1), 1) := by decide +kernel
theorem dX10_load_69 : decode cX10_load 69 = .ok (.goto 7, 3) := by decide +kernel
theorem dX10_load_72 : decode cX10_load 72 = .ok (.aload_n 0, 1) := by decide +kernel
theorem dX10_load_73 : decode cX10_load 73 = .ok (.getfield 126, 3) := by decide +kernel
theorem dX10_load_76 : decode cX10_load 76 = .ok (.putfield 29, 3) := by decide +kernel
theorem dX10_load_79 : decode cX10_load 79 = .ok (.aload_n 0, 1) := by decide +kernel
theorem dX10_load_80 : decode cX10_load 80 = .ok (.getfield 123, 3) := by decide +kernel
theorem dX10_load_83 : decode cX10_load 83 = .ok (.ifCond .eq 8, 3) := by decide +kernel
theorem dX10_load_86 : decode cX10_load 86 = .ok (.aload_n 0, 1) := by decide +kernel
theorem dX10_load_87 : decode cX10_load 87 = .ok (.getfield 123, 3) := by decide +kernel
theorem dX10_load_90 : decode cX10_load 90 = .ok (.ireturn, 1) := by decide +kernel
theorem dX10_load_91 : decode cX10_load 91 = .ok (.aload_n 0, 1) := by decide +kernel
theorem dX10_load_92 : decode cX10_load 92 = .ok (.invokevirtual 157, 3) := by decide +kernel
theorem dX10_load_95 : decode cX10_load 95 = .ok (.iconst 0, 1) := by decide +kernel
theorem dX10_load_96 : decode cX10_load 96 = .ok (.istore_n 2, 1) := by decide +kernel
theorem dX10_load_97 : decode cX10_load 97 = .ok (.iload_n 2, 1) := by decide +kernel
theorem dX10_load_98 : decode cX10_load 98 = .ok (.sipush 1588, 3) := by decide +kernel
theorem dX10_load_101 : decode cX10_load 101 = .ok (.if_icmp .ge 21, 3) := by decide +kernel
theorem dX10_load_104 : decode cX10_load 104 = .ok (.aload_n 0, 1) := by decide +kernel
theorem dX10_load_105 : decode cX10_load 105 = .ok (.getfield 7, 3) := by decide +kernel
theorem dX10_load_108 : decode cX10_load 108 = .ok (.iload_n 2, 1) := by decide +kernel
theorem dX10_load_109 : decode cX10_load 109 = .ok (.aload_n 0, 1) := by decide +kernel
theorem dX10_load_110 : decode cX10_load 110 = .ok (.getfield 13, 3) := by decide +kernel
theorem dX10_load_113 : decode cX10_load 113 = .ok (.iload_n 2, 1) := by decide +kernel
theorem dX10_load_114 : decode cX10_load 114 = .ok (.iaload, 1) := by decide +kernel
theorem dX10_load_115 : decode cX10_load 115 = .ok (.iastore, 1) := by decide +kernel
theorem dX10_load_116 : decode cX10_load 116 = .ok (.iinc 2 1, 3) := by decide +kernel
theorem dX10_load_119 : decode cX10_load 119 = .ok (.goto (-22), 3) := by decide +kernel
theorem dX10_load_122 : decode cX10_load 122 = .ok (.iconst 0, 1) := by decide +kernel
theorem dX10_load_123 : decode cX10_load 123 = .ok (.istore_n 2, 1) := by decide +kernel
theorem dX10_load_124 : decode cX10_load 124 = .ok (.iload_n 2, 1) := by decide +kernel
theorem dX10_load_125 : decode cX10_load 125 = .ok (.sipush 1058, 3) := by decide +kernel
theorem dX10_load_128 : decode cX10_load 128 = .ok (.if_icmp .ge 16, 3) := by decide +kernel
theorem dX10_load_131 : decode cX10_load 131 = .ok (.aload_n 0, 1) := by decide +kernel
theorem dX10_load_132 : decode cX10_load 132 = .ok (.getfield 19, 3) := by decide +kernel
theorem dX10_load_135 : decode cX10_load 135 = .ok (.iload_n 2, 1) := by decide +kernel
theorem dX10_load_136 : decode cX10_load 136 = .ok (.lconst 0, 1) := by decide +kernel
theorem dX10_load_137 : decode cX10_load 137 = .ok (.lastore, 1) := by decide +kernel
theorem dX10_load_138 : decode cX10_load 138 = .ok (.iinc 2 1, 3) := by decide +kernel
theorem dX10_load_141 : decode cX10_load 141 = .ok (.goto (-17), 3) := by decide +kernel
theorem dX10_load_144 : decode cX10_load 144 = .ok (.aload_n 0, 1) := by decide +kernel
theorem dX10_load_145 : decode cX10_load 145 = .ok (.getfield 7, 3) := by decide +kernel
theorem dX10_load_148 : decode cX10_load 148 = .ok (.iconst 4, 1) := by decide +kernel
theorem dX10_load_149 : decode cX10_load 149 = .ok (.iaload, 1) := by decide +kernel
theorem dX10_load_150 : decode cX10_load 150 = .ok (.ireturn, 1) := by decide +kernel
theorem dX10_errorPosition_0 : decode cX10_errorPosition 0 = .ok (.aload_n 0, 1) := by decide +kernel
theorem dX10_errorPosition_1 : decode cX10_errorPosition 1 = .ok (.iconst 0, 1) := by decide +kernel
theorem dX10_errorPosition_2 : decode cX10_errorPosition 2 = .ok (.putfield 63, 3) := by decide +kernel
theorem dX10_errorPosition_5 : decode cX10_errorPosition 5 = .ok (.aload_n 0, 1) := by decide +kernel
theorem dX10_errorPosition_6 : decode cX10_errorPosition 6 = .ok (.getfield 29, 3) := by decide +kernel
theorem dX10_errorPosition_9 : decode cX10_errorPosition 9 = .ok (.ireturn, 1) := by decide +kernel
theorem dX10_mostShares_0 : decode cX10_mostShares 0 = .ok (.aload_n 0, 1) := by decide +kernel
theorem dX10_mostShares_1 : decode cX10_mostShares 1 = .ok (.getfield 7, 3) := by decide +kernel
theorem dX10_mostShares_4 : decode cX10_mostShares 4 = .ok (.iconst 0, 1) := by decide +kernel
theorem dX10_mostShares_5 : decode cX10_mostShares 5 = .ok (.iaload, 1) := by decide +kernel
theorem dX10_mostShares_6 : decode cX10_mostShares 6 = .ok (.i2l, 1) := by decide +kernel
theorem dX10_mostShares_7 : decode cX10_mostShares 7 = .ok (.aload_n 0, 1) := by decide +kernel
theorem dX10_mostShares_8 : decode cX10_mostShares 8 = .ok (.getfield 7, 3) := by decide +kernel
theorem dX10_mostShares_11 : decode cX10_mostShares 11 = .ok (.iconst 3, 1) := by decide +kernel
theorem dX10_mostShares_12 : decode cX10_mostShares 12 = .ok (.iaload, 1) := by decide +kernel
theorem dX10_mostShares_13 : decode cX10_mostShares 13 = .ok (.i2l, 1) := by decide +kernel
theorem dX10_mostShares_14 : decode cX10_mostShares 14 = .ok (.lmul, 1) := by decide +kernel
theorem dX10_mostShares_15 : decode cX10_mostShares 15 = .ok (.ldc2_w 160, 3) := by decide +kernel
theorem dX10_mostShares_18 : decode cX10_mostShares 18 = .ok (.ldiv, 1) := by decide +kernel
theorem dX10_mostShares_19 : decode cX10_mostShares 19 = .ok (.l2i, 1) := by decide +kernel
theorem dX10_mostShares_20 : decode cX10_mostShares 20 = .ok (.istore_n 1, 1) := by decide +kernel
theorem dX10_mostShares_21 : decode cX10_mostShares 21 = .ok (.iload_n 1, 1) := by decide +kernel
theorem dX10_mostShares_22 : decode cX10_mostShares 22 = .ok (.iconst 1, 1) := by decide +kernel
theorem dX10_mostShares_23 : decode cX10_mostShares 23 = .ok (.if_icmp .ge 7, 3) := by decide +kernel
theorem dX10_mostShares_26 : decode cX10_mostShares 26 = .ok (.iconst 1, 1) := by decide +kernel
theorem dX10_mostShares_27 : decode cX10_mostShares 27 = .ok (.goto 4, 3) := by decide +kernel
theorem dX10_mostShares_30 : decode cX10_mostShares 30 = .ok (.iload_n 1, 1) := by decide +kernel
theorem dX10_mostShares_31 : decode cX10_mostShares 31 = .ok (.ireturn, 1) := by decide +kernel
theorem dX10_setting_0 : decode cX10_setting 0 = .ok (.aload_n 0, 1) := by decide +kernel
theorem dX10_setting_1 : decode cX10_setting 1 = .ok (.iload_n 1, 1) := by decide +kernel
theorem dX10_setting_2 : decode cX10_setting 2 = .ok (.i2l, 1) := by decide +kernel
theorem dX10_setting_3 : decode cX10_setting 3 = .ok (.lconst 0, 1) := by decide +kernel
theorem dX10_setting_4 : decode cX10_setting 4 = .ok (.ldc2_w 162, 3) := by decide +kernel
theorem dX10_setting_7 : decode cX10_setting 7 = .ok (.invokestatic 104, 3) := by decide +kernel
theorem dX10_setting_10 : decode cX10_setting 10 = .ok (.ifCond .eq 7, 3) := by decide +kernel
theorem dX10_setting_13 : decode cX10_setting 13 = .ok (.iconst 0, 1) := by decide +kernel
theorem dX10_setting_14 : decode cX10_setting 14 = .ok (.goto 4, 3) := by decide +kernel
theorem dX10_setting_17 : decode cX10_setting 17 = .ok (.iconst 1, 1) := by decide +kernel
theorem dX10_setting_18 : decode cX10_setting 18 = .ok (.putfield 63, 3) := by decide +kernel
theorem dX10_setting_21 : decode cX10_setting 21 = .ok (.aload_n 0, 1) := by decide +kernel
theorem dX10_setting_22 : decode cX10_setting 22 = .ok (.getfield 63, 3) := by decide +kernel
theorem dX10_setting_25 : decode cX10_setting 25 = .ok (.ifCond .le 7, 3) := by decide +kernel
theorem dX10_setting_28 : decode cX10_setting 28 = .ok (.iconst 0, 1) := by decide +kernel
theorem dX10_setting_29 : decode cX10_setting 29 = .ok (.goto 21, 3) := by decide +kernel
theorem dX10_setting_32 : decode cX10_setting 32 = .ok (.iload_n 1, 1) := by decide +kernel
theorem dX10_setting_33 : decode cX10_setting 33 = .ok (.iconst 5, 1) := by decide +kernel
theorem dX10_setting_34 : decode cX10_setting 34 = .ok (.if_icmp .ne 10, 3) := by decide +kernel
theorem dX10_setting_37 : decode cX10_setting 37 = .ok (.aload_n 0, 1) := by decide +kernel
theorem dX10_setting_38 : decode cX10_setting 38 = .ok (.invokevirtual 164, 3) := by decide +kernel
theorem dX10_setting_41 : decode cX10_setting 41 = .ok (.goto 9, 3) := by decide +kernel
theorem dX10_setting_44 : decode cX10_setting 44 = .ok (.aload_n 0, 1) := by decide +kernel
theorem dX10_setting_45 : decode cX10_setting 45 = .ok (.getfield 7, 3) := by decide +kernel
theorem dX10_setting_48 : decode cX10_setting 48 = .ok (.iload_n 1, 1) := by decide +kernel
theorem dX10_setting_49 : decode cX10_setting 49 = .ok (.iaload, 1) := by decide +kernel
theorem dX10_setting_50 : decode cX10_setting 50 = .ok (.ireturn, 1) := by decide +kernel
theorem dX10_periodOf_0 : decode cX10_periodOf 0 = .ok (.aload_n 0, 1) := by decide +kernel
theorem dX10_periodOf_1 : decode cX10_periodOf 1 = .ok (.iload_n 1, 1) := by decide +kernel
theorem dX10_periodOf_2 : decode cX10_periodOf 2 = .ok (.i2l, 1) := by decide +kernel
theorem dX10_periodOf_3 : decode cX10_periodOf 3 = .ok (.lconst 0, 1) := by decide +kernel
theorem dX10_periodOf_4 : decode cX10_periodOf 4 = .ok (.ldc2_w 167, 3) := by decide +kernel
theorem dX10_periodOf_7 : decode cX10_periodOf 7 = .ok (.invokestatic 104, 3) := by decide +kernel
theorem dX10_periodOf_10 : decode cX10_periodOf 10 = .ok (.ifCond .eq 7, 3) := by decide +kernel
theorem dX10_periodOf_13 : decode cX10_periodOf 13 = .ok (.iconst 0, 1) := by decide +kernel
theorem dX10_periodOf_14 : decode cX10_periodOf 14 = .ok (.goto 4, 3) := by decide +kernel
theorem dX10_periodOf_17 : decode cX10_periodOf 17 = .ok (.iconst 1, 1) := by decide +kernel
theorem dX10_periodOf_18 : decode cX10_periodOf 18 = .ok (.putfield 63, 3) := by decide +kernel
theorem dX10_periodOf_21 : decode cX10_periodOf 21 = .ok (.aload_n 0, 1) := by decide +kernel
theorem dX10_periodOf_22 : decode cX10_periodOf 22 = .ok (.getfield 63, 3) := by decide +kernel
theorem dX10_periodOf_25 : decode cX10_periodOf 25 = .ok (.ifCond .le 7, 3) := by decide +kernel
theorem dX10_periodOf_28 : decode cX10_periodOf 28 = .ok (.iconst 0, 1) := by decide +kernel
theorem dX10_periodOf_29 : decode cX10_periodOf 29 = .ok (.goto 12, 3) := by decide +kernel
theorem dX10_periodOf_32 : decode cX10_periodOf 32 = .ok (.aload_n 0, 1) := by decide +kernel
theorem dX10_periodOf_33 : decode cX10_periodOf 33 = .ok (.getfield 7, 3) := by decide +kernel
theorem dX10_periodOf_36 : decode cX10_periodOf 36 = .ok (.bipush 8, 2) := by decide +kernel
theorem dX10_periodOf_38 : decode cX10_periodOf 38 = .ok (.iload_n 1, 1) := by decide +kernel
theorem dX10_periodOf_39 : decode cX10_periodOf 39 = .ok (.iadd, 1) := by decide +kernel
theorem dX10_periodOf_40 : decode cX10_periodOf 40 = .ok (.iaload, 1) := by decide +kernel
theorem dX10_periodOf_41 : decode cX10_periodOf 41 = .ok (.ireturn, 1) := by decide +kernel
theorem dX10_ofMember_0 : decode cX10_ofMember 0 = .ok (.aload_n 0, 1) := by decide +kernel
theorem dX10_ofMember_1 : decode cX10_ofMember 1 = .ok (.getfield 7, 3) := by decide +kernel
theorem dX10_ofMember_4 : decode cX10_ofMember 4 = .ok (.bipush 36, 2) := by decide +kernel
theorem dX10_ofMember_6 : decode cX10_ofMember 6 = .ok (.bipush 7, 2) := by decide +kernel
theorem dX10_ofMember_8 : decode cX10_ofMember 8 = .ok (.iload_n 1, 1) := by decide +kernel
theorem dX10_ofMember_9 : decode cX10_ofMember 9 = .ok (.imul, 1) := by decide +kernel
theorem dX10_ofMember_10 : decode cX10_ofMember 10 = .ok (.iadd, 1) := by decide +kernel
theorem dX10_ofMember_11 : decode cX10_ofMember 11 = .ok (.iload_n 2, 1) := by decide +kernel
theorem dX10_ofMember_12 : decode cX10_ofMember 12 = .ok (.iadd, 1) := by decide +kernel
theorem dX10_ofMember_13 : decode cX10_ofMember 13 = .ok (.iaload, 1) := by decide +kernel
theorem dX10_ofMember_14 : decode cX10_ofMember 14 = .ok (.ireturn, 1) := by decide +kernel
theorem dX10_setMember_0 : decode cX10_setMember 0 = .ok (.aload_n 0, 1) := by decide +kernel
theorem dX10_setMember_1 : decode cX10_setMember 1 = .ok (.getfield 7, 3) := by decide +kernel
theorem dX10_setMember_4 : decode cX10_setMember 4 = .ok (.bipush 36, 2) := by decide +kernel
theorem dX10_setMember_6 : decode cX10_setMember 6 = .ok (.bipush 7, 2) := by decide +kernel
theorem dX10_setMember_8 : decode cX10_setMember 8 = .ok (.iload_n 1, 1) := by decide +kernel
theorem dX10_setMember_9 : decode cX10_setMember 9 = .ok (.imul, 1) := by decide +kernel
theorem dX10_setMember_10 : decode cX10_setMember 10 = .ok (.iadd, 1) := by decide +kernel
theorem dX10_setMember_11 : decode cX10_setMember 11 = .ok (.iload_n 2, 1) := by decide +kernel
theorem dX10_setMember_12 : decode cX10_setMember 12 = .ok (.iadd, 1) := by decide +kernel
theorem dX10_setMember_13 : decode cX10_setMember 13 = .ok (.iload_n 3, 1) := by decide +kernel
theorem dX10_setMember_14 : decode cX10_setMember 14 = .ok (.iastore, 1) := by decide +kernel
theorem dX10_setMember_15 : decode cX10_setMember 15 = .ok (.return_, 1) := by decide +kernel
theorem dX10_isMember_0 : decode cX10_isMember 0 = .ok (.iload_n 1, 1) := by decide +kernel
theorem dX10_isMember_1 : decode cX10_isMember 1 = .ok (.i2l, 1) := by decide +kernel
theorem dX10_isMember_2 : decode cX10_isMember 2 = .ok (.lconst 0, 1) := by decide +kernel
theorem dX10_isMember_3 : decode cX10_isMember 3 = .ok (.aload_n 0, 1) := by decide +kernel
theorem dX10_isMember_4 : decode cX10_isMember 4 = .ok (.getfield 7, 3) := by decide +kernel
theorem dX10_isMember_7 : decode cX10_isMember 7 = .ok (.bipush 7, 2) := by decide +kernel
theorem dX10_isMember_9 : decode cX10_isMember 9 = .ok (.iaload, 1) := by decide +kernel
theorem dX10_isMember_10 : decode cX10_isMember 10 = .ok (.iconst 1, 1) := by decide +kernel
theorem dX10_isMember_11 : decode cX10_isMember 11 = .ok (.isub, 1) := by decide +kernel
theorem dX10_isMember_12 : decode cX10_isMember 12 = .ok (.i2l, 1) := by decide +kernel
theorem dX10_isMember_13 : decode cX10_isMember 13 = .ok (.invokestatic 104, 3) := by decide +kernel
theorem dX10_isMember_16 : decode cX10_isMember 16 = .ok (.ireturn, 1) := by decide +kernel
theorem dX10_isActive_0 : decode cX10_isActive 0 = .ok (.aload_n 0, 1) := by decide +kernel
theorem dX10_isActive_1 : decode cX10_isActive 1 = .ok (.iload_n 1, 1) := by decide +kernel
theorem dX10_isActive_2 : decode cX10_isActive 2 = .ok (.iconst 3, 1) := by decide +kernel
theorem dX10_isActive_3 : decode cX10_isActive 3 = .ok (.invokevirtual 169, 3) := by decide +kernel
theorem dX10_isActive_6 : decode cX10_isActive 6 = .ok (.iconst 1, 1) := by decide +kernel
theorem dX10_isActive_7 : decode cX10_isActive 7 = .ok (.if_icmp .ne 7, 3) := by decide +kernel
theorem dX10_isActive_10 : decode cX10_isActive 10 = .ok (.iconst 1, 1) := by decide +kernel
theorem dX10_isActive_11 : decode cX10_isActive 11 = .ok (.goto 4, 3) := by decide +kernel
theorem dX10_isActive_14 : decode cX10_isActive 14 = .ok (.iconst 0, 1) := by decide +kernel
theorem dX10_isActive_15 : decode cX10_isActive 15 = .ok (.ireturn, 1) := by decide +kernel
theorem dX10_free_0 : decode cX10_free 0 = .ok (.aload_n 0, 1) := by decide +kernel
theorem dX10_free_1 : decode cX10_free 1 = .ok (.getfield 7, 3) := by decide +kernel
theorem dX10_free_4 : decode cX10_free 4 = .ok (.iconst 0, 1) := by decide +kernel
theorem dX10_free_5 : decode cX10_free 5 = .ok (.iaload, 1) := by decide +kernel
theorem dX10_free_6 : decode cX10_free 6 = .ok (.istore_n 1, 1) := by decide +kernel
theorem dX10_free_7 : decode cX10_free 7 = .ok (.iconst 0, 1) := by decide +kernel
theorem dX10_free_8 : decode cX10_free 8 = .ok (.istore_n 2, 1) := by decide +kernel
theorem dX10_free_9 : decode cX10_free 9 = .ok (.iload_n 2, 1) := by decide +kernel
theorem dX10_free_10 : decode cX10_free 10 = .ok (.aload_n 0, 1) := by decide +kernel
theorem dX10_free_11 : decode cX10_free 11 = .ok (.getfield 7, 3) := by decide +kernel
theorem dX10_free_14 : decode cX10_free 14 = .ok (.bipush 7, 2) := by decide +kernel
theorem dX10_free_16 : decode cX10_free 16 = .ok (.iaload, 1) := by decide +kernel
theorem dX10_free_17 : decode cX10_free 17 = .ok (.if_icmp .ge 18, 3) := by decide +kernel
theorem dX10_free_20 : decode cX10_free 20 = .ok (.iload_n 1, 1) := by decide +kernel
theorem dX10_free_21 : decode cX10_free 21 = .ok (.aload_n 0, 1) := by decide +kernel
theorem dX10_free_22 : decode cX10_free 22 = .ok (.iload_n 2, 1) := by decide +kernel
theorem dX10_free_23 : decode cX10_free 23 = .ok (.iconst 4, 1) := by decide +kernel
theorem dX10_free_24 : decode cX10_free 24 = .ok (.invokevirtual 169, 3) := by decide +kernel
theorem dX10_free_27 : decode cX10_free 27 = .ok (.isub, 1) := by decide +kernel
theorem dX10_free_28 : decode cX10_free 28 = .ok (.istore_n 1, 1) := by decide +kernel
theorem dX10_free_29 : decode cX10_free 29 = .ok (.iinc 2 1, 3) := by decide +kernel
theorem dX10_free_32 : decode cX10_free 32 = .ok (.goto (-23), 3) := by decide +kernel
theorem dX10_free_35 : decode cX10_free 35 = .ok (.iload_n 1, 1) := by decide +kernel
theorem dX10_free_36 : decode cX10_free 36 = .ok (.ireturn, 1) := by decide +kernel
theorem dX10_placeOf_0 : decode cX10_placeOf 0 = .ok (.iconst 0, 1) := by decide +kernel
theorem dX10_placeOf_1 : decode cX10_placeOf 1 = .ok (.istore_n 2, 1) := by decide +kernel
theorem dX10_placeOf_2 : decode cX10_placeOf 2 = .ok (.iconst 0, 1) := by decide +kernel
theorem dX10_placeOf_3 : decode cX10_placeOf 3 = .ok (.istore_n 3, 1) := by decide +kernel
theorem dX10_placeOf_4 : decode cX10_placeOf 4 = .ok (.iload_n 3, 1) := by decide +kernel
theorem dX10_placeOf_5 : decode cX10_placeOf 5 = .ok (.aload_n 0, 1) := by decide +kernel
theorem dX10_placeOf_6 : decode cX10_placeOf 6 = .ok (.getfield 7, 3) := by decide +kernel
theorem dX10_placeOf_9 : decode cX10_placeOf 9 = .ok (.bipush 7, 2) := by decide +kernel
theorem dX10_placeOf_11 : decode cX10_placeOf 11 = .ok (.iaload, 1) := by decide +kernel
theorem dX10_placeOf_12 : decode cX10_placeOf 12 = .ok (.if_icmp .ge 64, 3) := by decide +kernel
theorem dX10_placeOf_15 : decode cX10_placeOf 15 = .ok (.iload_n 3, 1) := by decide +kernel
theorem dX10_placeOf_16 : decode cX10_placeOf 16 = .ok (.iload_n 1, 1) := by decide +kernel
theorem dX10_placeOf_17 : decode cX10_placeOf 17 = .ok (.if_icmp .eq 53, 3) := by decide +kernel
theorem dX10_placeOf_20 : decode cX10_placeOf 20 = .ok (.aload_n 0, 1) := by decide +kernel
theorem dX10_placeOf_21 : decode cX10_placeOf 21 = .ok (.iload_n 3, 1) := by decide +kernel
theorem dX10_placeOf_22 : decode cX10_placeOf 22 = .ok (.iconst 3, 1) := by decide +kernel
theorem dX10_placeOf_23 : decode cX10_placeOf 23 = .ok (.invokevirtual 169, 3) := by decide +kernel
theorem dX10_placeOf_26 : decode cX10_placeOf 26 = .ok (.ifCond .eq 6, 3) := by decide +kernel
theorem dX10_placeOf_29 : decode cX10_placeOf 29 = .ok (.goto 41, 3) := by decide +kernel
theorem dX10_placeOf_32 : decode cX10_placeOf 32 = .ok (.aload_n 0, 1) := by decide +kernel
theorem dX10_placeOf_33 : decode cX10_placeOf 33 = .ok (.iload_n 3, 1) := by decide +kernel
theorem dX10_placeOf_34 : decode cX10_placeOf 34 = .ok (.iconst 2, 1) := by decide +kernel
theorem dX10_placeOf_35 : decode cX10_placeOf 35 = .ok (.invokevirtual 169, 3) := by decide +kernel
theorem dX10_placeOf_38 : decode cX10_placeOf 38 = .ok (.aload_n 0, 1) := by decide +kernel
theorem dX10_placeOf_39 : decode cX10_placeOf 39 = .ok (.iload_n 1, 1) := by decide +kernel
theorem dX10_placeOf_40 : decode cX10_placeOf 40 = .ok (.iconst 2, 1) := by decide +kernel
theorem dX10_placeOf_41 : decode cX10_placeOf 41 = .ok (.invokevirtual 169, 3) := by decide +kernel
theorem dX10_placeOf_44 : decode cX10_placeOf 44 = .ok (.isub, 1) := by decide +kernel
theorem dX10_placeOf_45 : decode cX10_placeOf 45 = .ok (.istore 4, 2) := by decide +kernel
theorem dX10_placeOf_47 : decode cX10_placeOf 47 = .ok (.iload_n 2, 1) := by decide +kernel
theorem dX10_placeOf_48 : decode cX10_placeOf 48 = .ok (.iload 4, 2) := by decide +kernel
theorem dX10_placeOf_50 : decode cX10_placeOf 50 = .ok (.ifCond .gt 13, 3) := by decide +kernel
theorem dX10_placeOf_53 : decode cX10_placeOf 53 = .ok (.iload 4, 2) := by decide +kernel
theorem dX10_placeOf_55 : decode cX10_placeOf 55 = .ok (.ifCond .ne 12, 3) := by decide +kernel
theorem dX10_placeOf_58 : decode cX10_placeOf 58 = .ok (.iload_n 3, 1) := by decide +kernel
theorem dX10_placeOf_59 : decode cX10_placeOf 59 = .ok (.iload_n 1, 1) := by decide +kernel
theorem dX10_placeOf_60 : decode cX10_placeOf 60 = .ok (.if_icmp .ge 7, 3) := by decide +kernel
theorem dX10_placeOf_63 : decode cX10_placeOf 63 = .ok (.iconst 1, 1) := by decide +kernel
theorem dX10_placeOf_64 : decode cX10_placeOf 64 = .ok (.goto 4, 3) := by decide +kernel
theorem dX10_placeOf_67 : decode cX10_placeOf 67 = .ok (.iconst 0, 1) := by decide +kernel
theorem dX10_placeOf_68 : decode cX10_placeOf 68 = .ok (.iadd, 1) := by decide +kernel
theorem dX10_placeOf_69 : decode cX10_placeOf 69 = .ok (.istore_n 2, 1) := by decide +kernel
theorem dX10_placeOf_70 : decode cX10_placeOf 70 = .ok (.iinc 3 1, 3) := by decide +kernel
theorem dX10_placeOf_73 : decode cX10_placeOf 73 = .ok (.goto (-69), 3) := by decide +kernel
theorem dX10_placeOf_76 : decode cX10_placeOf 76 = .ok (.iload_n 2, 1) := by decide +kernel
theorem dX10_placeOf_77 : decode cX10_placeOf 77 = .ok (.ireturn, 1) := by decide +kernel
theorem dX10_goesThrough_0 : decode cX10_goesThrough 0 = .ok (.bipush 9, 2) := by decide +kernel
theorem dX10_goesThrough_2 : decode cX10_goesThrough 2 = .ok (.istore_n 1, 1) := by decide +kernel
theorem dX10_goesThrough_3 : decode cX10_goesThrough 3 = .ok (.iload_n 1, 1) := by decide +kernel
theorem dX10_goesThrough_4 : decode cX10_goesThrough 4 = .ok (.ifCond .lt 120, 3) := by decide +kernel
theorem dX10_goesThrough_7 : decode cX10_goesThrough 7 = .ok (.iconst 0, 1) := by decide +kernel
theorem dX10_goesThrough_8 : decode cX10_goesThrough 8 = .ok (.istore_n 2, 1) := by decide +kernel
theorem dX10_goesThrough_9 : decode cX10_goesThrough 9 = .ok (.iload_n 2, 1) := by decide +kernel
theorem dX10_goesThrough_10 : decode cX10_goesThrough 10 = .ok (.aload_n 0, 1) := by decide +kernel
theorem dX10_goesThrough_11 : decode cX10_goesThrough 11 = .ok (.getfield 7, 3) := by decide +kernel
theorem dX10_goesThrough_14 : decode cX10_goesThrough 14 = .ok (.bipush 7, 2) := by decide +kernel
theorem dX10_goesThrough_16 : decode cX10_goesThrough 16 = .ok (.iaload, 1) := by decide +kernel
theorem dX10_goesThrough_17 : decode cX10_goesThrough 17 = .ok (.if_icmp .ge 101, 3) := by decide +kernel
theorem dX10_goesThrough_20 : decode cX10_goesThrough 20 = .ok (.aload_n 0, 1) := by decide +kernel
theorem dX10_goesThrough_21 : decode cX10_goesThrough 21 = .ok (.iload_n 2, 1) := by decide +kernel
theorem dX10_goesThrough_22 : decode cX10_goesThrough 22 = .ok (.iconst 3, 1) := by decide +kernel
theorem dX10_goesThrough_23 : decode cX10_goesThrough 23 = .ok (.invokevirtual 169, 3) := by decide +kernel
theorem dX10_goesThrough_26 : decode cX10_goesThrough 26 = .ok (.ifCond .ne 86, 3) := by decide +kernel
theorem dX10_goesThrough_29 : decode cX10_goesThrough 29 = .ok (.aload_n 0, 1) := by decide +kernel
theorem dX10_goesThrough_30 : decode cX10_goesThrough 30 = .ok (.iload_n 2, 1) := by decide +kernel
theorem dX10_goesThrough_31 : decode cX10_goesThrough 31 = .ok (.iconst 2, 1) := by decide +kernel
theorem dX10_goesThrough_32 : decode cX10_goesThrough 32 = .ok (.invokevirtual 169, 3) := by decide +kernel
theorem dX10_goesThrough_35 : decode cX10_goesThrough 35 = .ok (.iload_n 1, 1) := by decide +kernel
theorem dX10_goesThrough_36 : decode cX10_goesThrough 36 = .ok (.if_icmp .eq 6, 3) := by decide +kernel
theorem dX10_goesThrough_39 : decode cX10_goesThrough 39 = .ok (.goto 73, 3) := by decide +kernel
theorem dX10_goesThrough_42 : decode cX10_goesThrough 42 = .ok (.aload_n 0, 1) := by decide +kernel
theorem dX10_goesThrough_43 : decode cX10_goesThrough 43 = .ok (.iload_n 2, 1) := by decide +kernel
theorem dX10_goesThrough_44 : decode cX10_goesThrough 44 = .ok (.iconst 0, 1) := by decide +kernel
theorem dX10_goesThrough_45 : decode cX10_goesThrough 45 = .ok (.invokevirtual 169, 3) := by decide +kernel
theorem dX10_goesThrough_48 : decode cX10_goesThrough 48 = .ok (.istore_n 3, 1) := by decide +kernel
theorem dX10_goesThrough_49 : decode cX10_goesThrough 49 = .ok (.aload_n 0, 1) := by decide +kernel
theorem dX10_goesThrough_50 : decode cX10_goesThrough 50 = .ok (.invokevirtual 172, 3) := by decide +kernel
theorem dX10_goesThrough_53 : decode cX10_goesThrough 53 = .ok (.istore 4, 2) := by decide +kernel
theorem dX10_goesThrough_55 : decode cX10_goesThrough 55 = .ok (.iload 4, 2) := by decide +kernel
theorem dX10_goesThrough_57 : decode cX10_goesThrough 57 = .ok (.iload_n 3, 1) := by decide +kernel
theorem dX10_goesThrough_58 : decode cX10_goesThrough 58 = .ok (.if_icmp .ge 8, 3) := by decide +kernel
theorem dX10_goesThrough_61 : decode cX10_goesThrough 61 = .ok (.iload 4, 2) := by decide +kernel
theorem dX10_goesThrough_63 : decode cX10_goesThrough 63 = .ok (.goto 4, 3) := by decide +kernel
theorem dX10_goesThrough_66 : decode cX10_goesThrough 66 = .ok (.iload_n 3, 1) := by decide +kernel
theorem dX10_goesThrough_67 : decode cX10_goesThrough 67 = .ok (.istore_n 3, 1) := by decide +kernel
theorem dX10_goesThrough_68 : decode cX10_goesThrough 68 = .ok (.aload_n 0, 1) := by decide +kernel
theorem dX10_goesThrough_69 : decode cX10_goesThrough 69 = .ok (.invokevirtual 164, 3) := by decide +kernel
theorem dX10_goesThrough_72 : decode cX10_goesThrough 72 = .ok (.iload_n 3, 1) := by decide +kernel
theorem dX10_goesThrough_73 : decode cX10_goesThrough 73 = .ok (.if_icmp .ge 10, 3) := by decide +kernel
theorem dX10_goesThrough_76 : decode cX10_goesThrough 76 = .ok (.aload_n 0, 1) := by decide +kernel
theorem dX10_goesThrough_77 : decode cX10_goesThrough 77 = .ok (.invokevirtual 164, 3) := by decide +kernel
theorem dX10_goesThrough_80 : decode cX10_goesThrough 80 = .ok (.goto 4, 3) := by decide +kernel
theorem dX10_goesThrough_83 : decode cX10_goesThrough 83 = .ok (.iload_n 3, 1) := by decide +kernel
theorem dX10_goesThrough_84 : decode cX10_goesThrough 84 = .ok (.istore_n 3, 1) := by decide +kernel
theorem dX10_goesThrough_85 : decode cX10_goesThrough 85 = .ok (.iload_n 3, 1) := by decide +kernel
theorem dX10_goesThrough_86 : decode cX10_goesThrough 86 = .ok (.aload_n 0, 1) := by decide +kernel
theorem dX10_goesThrough_87 : decode cX10_goesThrough 87 = .ok (.iload_n 2, 1) := by decide +kernel
theorem dX10_goesThrough_88 : decode cX10_goesThrough 88 = .ok (.iconst 1, 1) := by decide +kernel
theorem dX10_goesThrough_89 : decode cX10_goesThrough 89 = .ok (.invokevirtual 169, 3) := by decide +kernel
theorem dX10_goesThrough_92 : decode cX10_goesThrough 92 = .ok (.if_icmp .ge 6, 3) := by decide +kernel
theorem dX10_goesThrough_95 : decode cX10_goesThrough 95 = .ok (.goto 17, 3) := by decide +kernel
theorem dX10_goesThrough_98 : decode cX10_goesThrough 98 = .ok (.aload_n 0, 1) := by decide +kernel
theorem dX10_goesThrough_99 : decode cX10_goesThrough 99 = .ok (.iload_n 2, 1) := by decide +kernel
theorem dX10_goesThrough_100 : decode cX10_goesThrough 100 = .ok (.iconst 3, 1) := by decide +kernel
theorem dX10_goesThrough_101 : decode cX10_goesThrough 101 = .ok (.iconst 1, 1) := by decide +kernel
theorem dX10_goesThrough_102 : decode cX10_goesThrough 102 = .ok (.invokevirtual 175, 3) := by decide +kernel
theorem dX10_goesThrough_105 : decode cX10_goesThrough 105 = .ok (.aload_n 0, 1) := by decide +kernel
theorem dX10_goesThrough_106 : decode cX10_goesThrough 106 = .ok (.iload_n 2, 1) := by decide +kernel
theorem dX10_goesThrough_107 : decode cX10_goesThrough 107 = .ok (.iconst 4, 1) := by decide +kernel
theorem dX10_goesThrough_108 : decode cX10_goesThrough 108 = .ok (.iload_n 3, 1) := by decide +kernel
theorem dX10_goesThrough_109 : decode cX10_goesThrough 109 = .ok (.invokevirtual 175, 3) := by decide +kernel
theorem dX10_goesThrough_112 : decode cX10_goesThrough 112 = .ok (.iinc 2 1, 3) := by decide +kernel
theorem dX10_goesThrough_115 : decode cX10_goesThrough 115 = .ok (.goto (-106), 3) := by decide +kernel
theorem dX10_goesThrough_118 : decode cX10_goesThrough 118 = .ok (.iinc 1 (-1), 3) := by decide +kernel
theorem dX10_goesThrough_121 : decode cX10_goesThrough 121 = .ok (.goto (-118), 3) := by decide +kernel
theorem dX10_goesThrough_124 : decode cX10_goesThrough 124 = .ok (.return_, 1) := by decide +kernel
theorem dX10_join_0 : decode cX10_join 0 = .ok (.aload_n 0, 1) := by decide +kernel
theorem dX10_join_1 : decode cX10_join 1 = .ok (.iload_n 1, 1) := by decide +kernel
theorem dX10_join_2 : decode cX10_join 2 = .ok (.i2l, 1) := by decide +kernel
theorem dX10_join_3 : decode cX10_join 3 = .ok (.lconst 1, 1) := by decide +kernel
theorem dX10_join_4 : decode cX10_join 4 = .ok (.aload_n 0, 1) := by decide +kernel
theorem dX10_join_5 : decode cX10_join 5 = .ok (.getfield 7, 3) := by decide +kernel
theorem dX10_join_8 : decode cX10_join 8 = .ok (.iconst 0, 1) := by decide +kernel
theorem dX10_join_9 : decode cX10_join 9 = .ok (.iaload, 1) := by decide +kernel
theorem dX10_join_10 : decode cX10_join 10 = .ok (.i2l, 1) := by decide +kernel
theorem dX10_join_11 : decode cX10_join 11 = .ok (.invokestatic 104, 3) := by decide +kernel
theorem dX10_join_14 : decode cX10_join 14 = .ok (.ifCond .eq 26, 3) := by decide +kernel
theorem dX10_join_17 : decode cX10_join 17 = .ok (.iload_n 2, 1) := by decide +kernel
theorem dX10_join_18 : decode cX10_join 18 = .ok (.i2l, 1) := by decide +kernel
theorem dX10_join_19 : decode cX10_join 19 = .ok (.lconst 1, 1) := by decide +kernel
theorem dX10_join_20 : decode cX10_join 20 = .ok (.iload_n 1, 1) := by decide +kernel
theorem dX10_join_21 : decode cX10_join 21 = .ok (.i2l, 1) := by decide +kernel
theorem dX10_join_22 : decode cX10_join 22 = .ok (.invokestatic 104, 3) := by decide +kernel
theorem dX10_join_25 : decode cX10_join 25 = .ok (.ifCond .eq 15, 3) := by decide +kernel
theorem dX10_join_28 : decode cX10_join 28 = .ok (.iload_n 3, 1) := by decide +kernel
theorem dX10_join_29 : decode cX10_join 29 = .ok (.i2l, 1) := by decide +kernel
theorem dX10_join_30 : decode cX10_join 30 = .ok (.lconst 0, 1) := by decide +kernel
theorem dX10_join_31 : decode cX10_join 31 = .ok (.ldc2_w 179, 3) := by decide +kernel
theorem dX10_join_34 : decode cX10_join 34 = .ok (.invokestatic 104, 3) := by decide +kernel
theorem dX10_join_37 : decode cX10_join 37 = .ok (.ifCond .ne 7, 3) := by decide +kernel
theorem dX10_join_40 : decode cX10_join 40 = .ok (.iconst 1, 1) := by decide +kernel
theorem dX10_join_41 : decode cX10_join 41 = .ok (.goto 20, 3) := by decide +kernel
theorem dX10_join_44 : decode cX10_join 44 = .ok (.aload_n 0, 1) := by decide +kernel
theorem dX10_join_45 : decode cX10_join 45 = .ok (.getfield 7, 3) := by decide +kernel
theorem dX10_join_48 : decode cX10_join 48 = .ok (.bipush 7, 2) := by decide +kernel
theorem dX10_join_50 : decode cX10_join 50 = .ok (.iaload, 1) := by decide +kernel
theorem dX10_join_51 : decode cX10_join 51 = .ok (.bipush 16, 2) := by decide +kernel
theorem dX10_join_53 : decode cX10_join 53 = .ok (.if_icmp .ne 7, 3) := by decide +kernel
theorem dX10_join_56 : decode cX10_join 56 = .ok (.iconst 2, 1) := by decide +kernel
theorem dX10_join_57 : decode cX10_join 57 = .ok (.goto 4, 3) := by decide +kernel
theorem dX10_join_60 : decode cX10_join 60 = .ok (.iconst 0, 1) := by decide +kernel
theorem dX10_join_61 : decode cX10_join 61 = .ok (.putfield 63, 3) := by decide +kernel
theorem dX10_join_64 : decode cX10_join 64 = .ok (.aload_n 0, 1) := by decide +kernel
theorem dX10_join_65 : decode cX10_join 65 = .ok (.getfield 63, 3) := by decide +kernel
theorem dX10_join_68 : decode cX10_join 68 = .ok (.ifCond .le 5, 3) := by decide +kernel
theorem dX10_join_71 : decode cX10_join 71 = .ok (.iconst 0, 1) := by decide +kernel
theorem dX10_join_72 : decode cX10_join 72 = .ok (.ireturn, 1) := by decide +kernel
theorem dX10_join_73 : decode cX10_join 73 = .ok (.aload_n 0, 1) := by decide +kernel
theorem dX10_join_74 : decode cX10_join 74 = .ok (.invokevirtual 157, 3) := by decide +kernel
theorem dX10_join_77 : decode cX10_join 77 = .ok (.aload_n 0, 1) := by decide +kernel
theorem dX10_join_78 : decode cX10_join 78 = .ok (.getfield 7, 3) := by decide +kernel
theorem dX10_join_81 : decode cX10_join 81 = .ok (.bipush 7, 2) := by decide +kernel
theorem dX10_join_83 : decode cX10_join 83 = .ok (.iaload, 1) := by decide +kernel
theorem dX10_join_84 : decode cX10_join 84 = .ok (.istore 4, 2) := by decide +kernel
theorem dX10_join_86 : decode cX10_join 86 = .ok (.aload_n 0, 1) := by decide +kernel
theorem dX10_join_87 : decode cX10_join 87 = .ok (.iload 4, 2) := by decide +kernel
theorem dX10_join_89 : decode cX10_join 89 = .ok (.iconst 0, 1) := by decide +kernel
theorem dX10_join_90 : decode cX10_join 90 = .ok (.iload_n 1, 1) := by decide +kernel
theorem dX10_join_91 : decode cX10_join 91 = .ok (.invokevirtual 175, 3) := by decide +kernel
theorem dX10_join_94 : decode cX10_join 94 = .ok (.aload_n 0, 1) := by decide +kernel
theorem dX10_join_95 : decode cX10_join 95 = .ok (.iload 4, 2) := by decide +kernel
theorem dX10_join_97 : decode cX10_join 97 = .ok (.iconst 1, 1) := by decide +kernel
theorem dX10_join_98 : decode cX10_join 98 = .ok (.iload_n 2, 1) := by decide +kernel
theorem dX10_join_99 : decode cX10_join 99 = .ok (.invokevirtual 175, 3) := by decide +kernel
theorem dX10_join_102 : decode cX10_join 102 = .ok (.aload_n 0, 1) := by decide +kernel
theorem dX10_join_103 : decode cX10_join 103 = .ok (.iload 4, 2) := by decide +kernel
theorem dX10_join_105 : decode cX10_join 105 = .ok (.iconst 2, 1) := by decide +kernel
theorem dX10_join_106 : decode cX10_join 106 = .ok (.iload_n 3, 1) := by decide +kernel
theorem dX10_join_107 : decode cX10_join 107 = .ok (.invokevirtual 175, 3) := by decide +kernel
theorem dX10_join_110 : decode cX10_join 110 = .ok (.aload_n 0, 1) := by decide +kernel
theorem dX10_join_111 : decode cX10_join 111 = .ok (.iload 4, 2) := by decide +kernel
theorem dX10_join_113 : decode cX10_join 113 = .ok (.iconst 3, 1) := by decide +kernel
theorem dX10_join_114 : decode cX10_join 114 = .ok (.iconst 0, 1) := by decide +kernel
theorem dX10_join_115 : decode cX10_join 115 = .ok (.invokevirtual 175, 3) := by decide +kernel
theorem dX10_join_118 : decode cX10_join 118 = .ok (.aload_n 0, 1) := by decide +kernel
theorem dX10_join_119 : decode cX10_join 119 = .ok (.iload 4, 2) := by decide +kernel
theorem dX10_join_121 : decode cX10_join 121 = .ok (.iconst 5, 1) := by decide +kernel
theorem dX10_join_122 : decode cX10_join 122 = .ok (.iconst (-1), 1) := by decide +kernel
theorem dX10_join_123 : decode cX10_join 123 = .ok (.invokevirtual 175, 3) := by decide +kernel
theorem dX10_join_126 : decode cX10_join 126 = .ok (.aload_n 0, 1) := by decide +kernel
theorem dX10_join_127 : decode cX10_join 127 = .ok (.getfield 7, 3) := by decide +kernel
theorem dX10_join_130 : decode cX10_join 130 = .ok (.bipush 7, 2) := by decide +kernel
theorem dX10_join_132 : decode cX10_join 132 = .ok (.dup2, 1) := by decide +kernel
theorem dX10_join_133 : decode cX10_join 133 = .ok (.iaload, 1) := by decide +kernel
theorem dX10_join_134 : decode cX10_join 134 = .ok (.iconst 1, 1) := by decide +kernel
theorem dX10_join_135 : decode cX10_join 135 = .ok (.iadd, 1) := by decide +kernel
theorem dX10_join_136 : decode cX10_join 136 = .ok (.iastore, 1) := by decide +kernel
theorem dX10_join_137 : decode cX10_join 137 = .ok (.aload_n 0, 1) := by decide +kernel
theorem dX10_join_138 : decode cX10_join 138 = .ok (.invokevirtual 181, 3) := by decide +kernel
theorem dX10_join_141 : decode cX10_join 141 = .ok (.iload 4, 2) := by decide +kernel
theorem dX10_join_143 : decode cX10_join 143 = .ok (.ireturn, 1) := by decide +kernel
theorem dX10_more_0 : decode cX10_more 0 = .ok (.aload_n 0, 1) := by decide +kernel
theorem dX10_more_1 : decode cX10_more 1 = .ok (.aload_n 0, 1) := by decide +kernel
theorem dX10_more_2 : decode cX10_more 2 = .ok (.iload_n 1, 1) := by decide +kernel
theorem dX10_more_3 : decode cX10_more 3 = .ok (.invokevirtual 184, 3) := by decide +kernel
theorem dX10_more_6 : decode cX10_more 6 = .ok (.ifCond .ne 7, 3) := by decide +kernel
theorem dX10_more_9 : decode cX10_more 9 = .ok (.iconst 1, 1) := by decide +kernel
theorem dX10_more_10 : decode cX10_more 10 = .ok (.goto 13, 3) := by decide +kernel
theorem dX10_more_13 : decode cX10_more 13 = .ok (.iload_n 2, 1) := by decide +kernel
theorem dX10_more_14 : decode cX10_more 14 = .ok (.iconst 1, 1) := by decide +kernel
theorem dX10_more_15 : decode cX10_more 15 = .ok (.if_icmp .ge 7, 3) := by decide +kernel
theorem dX10_more_18 : decode cX10_more 18 = .ok (.iconst 2, 1) := by decide +kernel
theorem dX10_more_19 : decode cX10_more 19 = .ok (.goto 4, 3) := by decide +kernel
theorem dX10_more_22 : decode cX10_more 22 = .ok (.iconst 0, 1) := by decide +kernel
theorem dX10_more_23 : decode cX10_more 23 = .ok (.putfield 63, 3) := by decide +kernel
theorem dX10_more_26 : decode cX10_more 26 = .ok (.aload_n 0, 1) := by decide +kernel
theorem dX10_more_27 : decode cX10_more 27 = .ok (.getfield 63, 3) := by decide +kernel
theorem dX10_more_30 : decode cX10_more 30 = .ok (.ifCond .le 5, 3) := by decide +kernel
theorem dX10_more_33 : decode cX10_more 33 = .ok (.iconst 0, 1) := by decide +kernel
theorem dX10_more_34 : decode cX10_more 34 = .ok (.ireturn, 1) := by decide +kernel
theorem dX10_more_35 : decode cX10_more 35 = .ok (.aload_n 0, 1) := by decide +kernel
theorem dX10_more_36 : decode cX10_more 36 = .ok (.iload_n 1, 1) := by decide +kernel
theorem dX10_more_37 : decode cX10_more 37 = .ok (.iconst 4, 1) := by decide +kernel
theorem dX10_more_38 : decode cX10_more 38 = .ok (.invokevirtual 169, 3) := by decide +kernel
theorem dX10_more_41 : decode cX10_more 41 = .ok (.i2l, 1) := by decide +kernel
theorem dX10_more_42 : decode cX10_more 42 = .ok (.iload_n 2, 1) := by decide +kernel
theorem dX10_more_43 : decode cX10_more 43 = .ok (.i2l, 1) := by decide +kernel
theorem dX10_more_44 : decode cX10_more 44 = .ok (.ladd, 1) := by decide +kernel
theorem dX10_more_45 : decode cX10_more 45 = .ok (.lstore_n 3, 1) := by decide +kernel
theorem dX10_more_46 : decode cX10_more 46 = .ok (.aload_n 0, 1) := by decide +kernel
theorem dX10_more_47 : decode cX10_more 47 = .ok (.aload_n 0, 1) := by decide +kernel
theorem dX10_more_48 : decode cX10_more 48 = .ok (.iload_n 1, 1) := by decide +kernel
theorem dX10_more_49 : decode cX10_more 49 = .ok (.invokevirtual 187, 3) := by decide +kernel
theorem dX10_more_52 : decode cX10_more 52 = .ok (.ifCond .eq 21, 3) := by decide +kernel
theorem dX10_more_55 : decode cX10_more 55 = .ok (.aload_n 0, 1) := by decide +kernel
theorem dX10_more_56 : decode cX10_more 56 = .ok (.invokevirtual 172, 3) := by decide +kernel
theorem dX10_more_59 : decode cX10_more 59 = .ok (.iload_n 2, 1) := by decide +kernel
theorem dX10_more_60 : decode cX10_more 60 = .ok (.if_icmp .lt 13, 3) := by decide +kernel
theorem dX10_more_63 : decode cX10_more 63 = .ok (.lload_n 3, 1) := by decide +kernel
theorem dX10_more_64 : decode cX10_more 64 = .ok (.aload_n 0, 1) := by decide +kernel
theorem dX10_more_65 : decode cX10_more 65 = .ok (.invokevirtual 164, 3) := by decide +kernel
theorem dX10_more_68 : decode cX10_more 68 = .ok (.i2l, 1) := by decide +kernel
theorem dX10_more_69 : decode cX10_more 69 = .ok (.lcmp, 1) := by decide +kernel
theorem dX10_more_70 : decode cX10_more 70 = .ok (.ifCond .le 7, 3) := by decide +kernel
theorem dX10_more_73 : decode cX10_more 73 = .ok (.iconst 3, 1) := by decide +kernel
theorem dX10_more_74 : decode cX10_more 74 = .ok (.goto 4, 3) := by decide +kernel
theorem dX10_more_77 : decode cX10_more 77 = .ok (.iconst 0, 1) := by decide +kernel
theorem dX10_more_78 : decode cX10_more 78 = .ok (.putfield 63, 3) := by decide +kernel
theorem dX10_more_81 : decode cX10_more 81 = .ok (.aload_n 0, 1) := by decide +kernel
theorem dX10_more_82 : decode cX10_more 82 = .ok (.getfield 63, 3) := by decide +kernel
theorem dX10_more_85 : decode cX10_more 85 = .ok (.ifCond .le 5, 3) := by decide +kernel
theorem dX10_more_88 : decode cX10_more 88 = .ok (.iconst 0, 1) := by decide +kernel
theorem dX10_more_89 : decode cX10_more 89 = .ok (.ireturn, 1) := by decide +kernel
theorem dX10_more_90 : decode cX10_more 90 = .ok (.aload_n 0, 1) := by decide +kernel
theorem dX10_more_91 : decode cX10_more 91 = .ok (.invokevirtual 157, 3) := by decide +kernel
theorem dX10_more_94 : decode cX10_more 94 = .ok (.aload_n 0, 1) := by decide +kernel
theorem dX10_more_95 : decode cX10_more 95 = .ok (.iload_n 1, 1) := by decide +kernel
theorem dX10_more_96 : decode cX10_more 96 = .ok (.iconst 4, 1) := by decide +kernel
theorem dX10_more_97 : decode cX10_more 97 = .ok (.lload_n 3, 1) := by decide +kernel
theorem dX10_more_98 : decode cX10_more 98 = .ok (.l2i, 1) := by decide +kernel
theorem dX10_more_99 : decode cX10_more 99 = .ok (.invokevirtual 175, 3) := by decide +kernel
theorem dX10_more_102 : decode cX10_more 102 = .ok (.lload_n 3, 1) := by decide +kernel
theorem dX10_more_103 : decode cX10_more 103 = .ok (.l2i, 1) := by decide +kernel
theorem dX10_more_104 : decode cX10_more 104 = .ok (.ireturn, 1) := by decide +kernel
theorem dX10_reduce_0 : decode cX10_reduce 0 = .ok (.aload_n 0, 1) := by decide +kernel
theorem dX10_reduce_1 : decode cX10_reduce 1 = .ok (.aload_n 0, 1) := by decide +kernel
theorem dX10_reduce_2 : decode cX10_reduce 2 = .ok (.iload_n 1, 1) := by decide +kernel
theorem dX10_reduce_3 : decode cX10_reduce 3 = .ok (.invokevirtual 184, 3) := by decide +kernel
theorem dX10_reduce_6 : decode cX10_reduce 6 = .ok (.ifCond .ne 7, 3) := by decide +kernel
theorem dX10_reduce_9 : decode cX10_reduce 9 = .ok (.iconst 1, 1) := by decide +kernel
theorem dX10_reduce_10 : decode cX10_reduce 10 = .ok (.goto 35, 3) := by decide +kernel
theorem dX10_reduce_13 : decode cX10_reduce 13 = .ok (.iload_n 2, 1) := by decide +kernel
theorem dX10_reduce_14 : decode cX10_reduce 14 = .ok (.iconst 1, 1) := by decide +kernel
theorem dX10_reduce_15 : decode cX10_reduce 15 = .ok (.if_icmp .ge 7, 3) := by decide +kernel
theorem dX10_reduce_18 : decode cX10_reduce 18 = .ok (.iconst 2, 1) := by decide +kernel
theorem dX10_reduce_19 : decode cX10_reduce 19 = .ok (.goto 26, 3) := by decide +kernel
theorem dX10_reduce_22 : decode cX10_reduce 22 = .ok (.aload_n 0, 1) := by decide +kernel
theorem dX10_reduce_23 : decode cX10_reduce 23 = .ok (.iload_n 1, 1) := by decide +kernel
theorem dX10_reduce_24 : decode cX10_reduce 24 = .ok (.invokevirtual 187, 3) := by decide +kernel
theorem dX10_reduce_27 : decode cX10_reduce 27 = .ok (.ifCond .eq 13, 3) := by decide +kernel
theorem dX10_reduce_30 : decode cX10_reduce 30 = .ok (.aload_n 0, 1) := by decide +kernel
theorem dX10_reduce_31 : decode cX10_reduce 31 = .ok (.iload_n 1, 1) := by decide +kernel
theorem dX10_reduce_32 : decode cX10_reduce 32 = .ok (.iconst 4, 1) := by decide +kernel
theorem dX10_reduce_33 : decode cX10_reduce 33 = .ok (.invokevirtual 169, 3) := by decide +kernel
theorem dX10_reduce_36 : decode cX10_reduce 36 = .ok (.iload_n 2, 1) := by decide +kernel
theorem dX10_reduce_37 : decode cX10_reduce 37 = .ok (.if_icmp .gt 7, 3) := by decide +kernel
theorem dX10_reduce_40 : decode cX10_reduce 40 = .ok (.iconst 3, 1) := by decide +kernel
theorem dX10_reduce_41 : decode cX10_reduce 41 = .ok (.goto 4, 3) := by decide +kernel
theorem dX10_reduce_44 : decode cX10_reduce 44 = .ok (.iconst 0, 1) := by decide +kernel
theorem dX10_reduce_45 : decode cX10_reduce 45 = .ok (.putfield 63, 3) := by decide +kernel
theorem dX10_reduce_48 : decode cX10_reduce 48 = .ok (.aload_n 0, 1) := by decide +kernel
theorem dX10_reduce_49 : decode cX10_reduce 49 = .ok (.getfield 63, 3) := by decide +kernel
theorem dX10_reduce_52 : decode cX10_reduce 52 = .ok (.ifCond .le 5, 3) := by decide +kernel
theorem dX10_reduce_55 : decode cX10_reduce 55 = .ok (.iconst 0, 1) := by decide +kernel
theorem dX10_reduce_56 : decode cX10_reduce 56 = .ok (.ireturn, 1) := by decide +kernel
theorem dX10_reduce_57 : decode cX10_reduce 57 = .ok (.aload_n 0, 1) := by decide +kernel
theorem dX10_reduce_58 : decode cX10_reduce 58 = .ok (.invokevirtual 157, 3) := by decide +kernel
theorem dX10_reduce_61 : decode cX10_reduce 61 = .ok (.aload_n 0, 1) := by decide +kernel
theorem dX10_reduce_62 : decode cX10_reduce 62 = .ok (.iload_n 1, 1) := by decide +kernel
theorem dX10_reduce_63 : decode cX10_reduce 63 = .ok (.iconst 4, 1) := by decide +kernel
theorem dX10_reduce_64 : decode cX10_reduce 64 = .ok (.aload_n 0, 1) := by decide +kernel
theorem dX10_reduce_65 : decode cX10_reduce 65 = .ok (.iload_n 1, 1) := by decide +kernel
theorem dX10_reduce_66 : decode cX10_reduce 66 = .ok (.iconst 4, 1) := by decide +kernel
theorem dX10_reduce_67 : decode cX10_reduce 67 = .ok (.invokevirtual 169, 3) := by decide +kernel
theorem dX10_reduce_70 : decode cX10_reduce 70 = .ok (.iload_n 2, 1) := by decide +kernel
theorem dX10_reduce_71 : decode cX10_reduce 71 = .ok (.isub, 1) := by decide +kernel
theorem dX10_reduce_72 : decode cX10_reduce 72 = .ok (.invokevirtual 175, 3) := by decide +kernel
theorem dX10_reduce_75 : decode cX10_reduce 75 = .ok (.aload_n 0, 1) := by decide +kernel
theorem dX10_reduce_76 : decode cX10_reduce 76 = .ok (.invokevirtual 181, 3) := by decide +kernel
theorem dX10_reduce_79 : decode cX10_reduce 79 = .ok (.aload_n 0, 1) := by decide +kernel
theorem dX10_reduce_80 : decode cX10_reduce 80 = .ok (.invokevirtual 172, 3) := by decide +kernel
theorem dX10_reduce_83 : decode cX10_reduce 83 = .ok (.ireturn, 1) := by decide +kernel
theorem dX10_transfer_0 : decode cX10_transfer 0 = .ok (.aload_n 0, 1) := by decide +kernel
theorem dX10_transfer_1 : decode cX10_transfer 1 = .ok (.aload_n 0, 1) := by decide +kernel
theorem dX10_transfer_2 : decode cX10_transfer 2 = .ok (.iload_n 1, 1) := by decide +kernel
theorem dX10_transfer_3 : decode cX10_transfer 3 = .ok (.invokevirtual 184, 3) := by decide +kernel
theorem dX10_transfer_6 : decode cX10_transfer 6 = .ok (.ifCond .eq 11, 3) := by decide +kernel
theorem dX10_transfer_9 : decode cX10_transfer 9 = .ok (.aload_n 0, 1) := by decide +kernel
theorem dX10_transfer_10 : decode cX10_transfer 10 = .ok (.iload_n 2, 1) := by decide +kernel
theorem dX10_transfer_11 : decode cX10_transfer 11 = .ok (.invokevirtual 184, 3) := by decide +kernel
theorem dX10_transfer_14 : decode cX10_transfer 14 = .ok (.ifCond .ne 7, 3) := by decide +kernel
theorem dX10_transfer_17 : decode cX10_transfer 17 = .ok (.iconst 1, 1) := by decide +kernel
theorem dX10_transfer_18 : decode cX10_transfer 18 = .ok (.goto 18, 3) := by decide +kernel
theorem dX10_transfer_21 : decode cX10_transfer 21 = .ok (.iload_n 1, 1) := by decide +kernel
theorem dX10_transfer_22 : decode cX10_transfer 22 = .ok (.iload_n 2, 1) := by decide +kernel
theorem dX10_transfer_23 : decode cX10_transfer 23 = .ok (.if_icmp .eq 8, 3) := by decide +kernel
theorem dX10_transfer_26 : decode cX10_transfer 26 = .ok (.iload_n 3, 1) := by decide +kernel
theorem dX10_transfer_27 : decode cX10_transfer 27 = .ok (.iconst 1, 1) := by decide +kernel
theorem dX10_transfer_28 : decode cX10_transfer 28 = .ok (.if_icmp .ge 7, 3) := by decide +kernel
theorem dX10_transfer_31 : decode cX10_transfer 31 = .ok (.iconst 2, 1) := by decide +kernel
theorem dX10_transfer_32 : decode cX10_transfer 32 = .ok (.goto 4, 3) := by decide +kernel
theorem dX10_transfer_35 : decode cX10_transfer 35 = .ok (.iconst 0, 1) := by decide +kernel
theorem dX10_transfer_36 : decode cX10_transfer 36 = .ok (.putfield 63, 3) := by decide +kernel
theorem dX10_transfer_39 : decode cX10_transfer 39 = .ok (.aload_n 0, 1) := by decide +kernel
theorem dX10_transfer_40 : decode cX10_transfer 40 = .ok (.getfield 63, 3) := by decide +kernel
theorem dX10_transfer_43 : decode cX10_transfer 43 = .ok (.ifCond .le 5, 3) := by decide +kernel
theorem dX10_transfer_46 : decode cX10_transfer 46 = .ok (.iconst 0, 1) := by decide +kernel
theorem dX10_transfer_47 : decode cX10_transfer 47 = .ok (.ireturn, 1) := by decide +kernel
theorem dX10_transfer_48 : decode cX10_transfer 48 = .ok (.aload_n 0, 1) := by decide +kernel
theorem dX10_transfer_49 : decode cX10_transfer 49 = .ok (.iload_n 2, 1) := by decide +kernel
theorem dX10_transfer_50 : decode cX10_transfer 50 = .ok (.iconst 4, 1) := by decide +kernel
theorem dX10_transfer_51 : decode cX10_transfer 51 = .ok (.invokevirtual 169, 3) := by decide +kernel
theorem dX10_transfer_54 : decode cX10_transfer 54 = .ok (.i2l, 1) := by decide +kernel
theorem dX10_transfer_55 : decode cX10_transfer 55 = .ok (.iload_n 3, 1) := by decide +kernel
theorem dX10_transfer_56 : decode cX10_transfer 56 = .ok (.i2l, 1) := by decide +kernel
theorem dX10_transfer_57 : decode cX10_transfer 57 = .ok (.ladd, 1) := by decide +kernel
theorem dX10_transfer_58 : decode cX10_transfer 58 = .ok (.lstore 4, 2) := by decide +kernel
theorem dX10_transfer_60 : decode cX10_transfer 60 = .ok (.aload_n 0, 1) := by decide +kernel
theorem dX10_transfer_61 : decode cX10_transfer 61 = .ok (.aload_n 0, 1) := by decide +kernel
theorem dX10_transfer_62 : decode cX10_transfer 62 = .ok (.iload_n 1, 1) := by decide +kernel
theorem dX10_transfer_63 : decode cX10_transfer 63 = .ok (.invokevirtual 187, 3) := by decide +kernel
theorem dX10_transfer_66 : decode cX10_transfer 66 = .ok (.ifCond .eq 32, 3) := by decide +kernel
theorem dX10_transfer_69 : decode cX10_transfer 69 = .ok (.aload_n 0, 1) := by decide +kernel
theorem dX10_transfer_70 : decode cX10_transfer 70 = .ok (.iload_n 2, 1) := by decide +kernel
theorem dX10_transfer_71 : decode cX10_transfer 71 = .ok (.invokevirtual 187, 3) := by decide +kernel
theorem dX10_transfer_74 : decode cX10_transfer 74 = .ok (.ifCond .eq 24, 3) := by decide +kernel
theorem dX10_transfer_77 : decode cX10_transfer 77 = .ok (.aload_n 0, 1) := by decide +kernel
theorem dX10_transfer_78 : decode cX10_transfer 78 = .ok (.iload_n 1, 1) := by decide +kernel
theorem dX10_transfer_79 : decode cX10_transfer 79 = .ok (.iconst 4, 1) := by decide +kernel
theorem dX10_transfer_80 : decode cX10_transfer 80 = .ok (.invokevirtual 169, 3) := by decide +kernel
theorem dX10_transfer_83 : decode cX10_transfer 83 = .ok (.iload_n 3, 1) := by decide +kernel
theorem dX10_transfer_84 : decode cX10_transfer 84 = .ok (.if_icmp .le 14, 3) := by decide +kernel
theorem dX10_transfer_87 : decode cX10_transfer 87 = .ok (.lload 4, 2) := by decide +kernel
theorem dX10_transfer_89 : decode cX10_transfer 89 = .ok (.aload_n 0, 1) := by decide +kernel
theorem dX10_transfer_90 : decode cX10_transfer 90 = .ok (.invokevirtual 164, 3) := by decide +kernel
theorem dX10_transfer_93 : decode cX10_transfer 93 = .ok (.i2l, 1) := by decide +kernel
theorem dX10_transfer_94 : decode cX10_transfer 94 = .ok (.lcmp, 1) := by decide +kernel
theorem dX10_transfer_95 : decode cX10_transfer 95 = .ok (.ifCond .le 7, 3) := by decide +kernel
theorem dX10_transfer_98 : decode cX10_transfer 98 = .ok (.iconst 3, 1) := by decide +kernel
theorem dX10_transfer_99 : decode cX10_transfer 99 = .ok (.goto 4, 3) := by decide +kernel
theorem dX10_transfer_102 : decode cX10_transfer 102 = .ok (.iconst 0, 1) := by decide +kernel
theorem dX10_transfer_103 : decode cX10_transfer 103 = .ok (.putfield 63, 3) := by decide +kernel
theorem dX10_transfer_106 : decode cX10_transfer 106 = .ok (.aload_n 0, 1) := by decide +kernel
theorem dX10_transfer_107 : decode cX10_transfer 107 = .ok (.getfield 63, 3) := by decide +kernel
theorem dX10_transfer_110 : decode cX10_transfer 110 = .ok (.ifCond .le 5, 3) := by decide +kernel
theorem dX10_transfer_113 : decode cX10_transfer 113 = .ok (.iconst 0, 1) := by decide +kernel
theorem dX10_transfer_114 : decode cX10_transfer 114 = .ok (.ireturn, 1) := by decide +kernel
theorem dX10_transfer_115 : decode cX10_transfer 115 = .ok (.aload_n 0, 1) := by decide +kernel
theorem dX10_transfer_116 : decode cX10_transfer 116 = .ok (.invokevirtual 157, 3) := by decide +kernel
theorem dX10_transfer_119 : decode cX10_transfer 119 = .ok (.aload_n 0, 1) := by decide +kernel
theorem dX10_transfer_120 : decode cX10_transfer 120 = .ok (.iload_n 1, 1) := by decide +kernel
theorem dX10_transfer_121 : decode cX10_transfer 121 = .ok (.iconst 4, 1) := by decide +kernel
theorem dX10_transfer_122 : decode cX10_transfer 122 = .ok (.aload_n 0, 1) := by decide +kernel
theorem dX10_transfer_123 : decode cX10_transfer 123 = .ok (.iload_n 1, 1) := by decide +kernel
theorem dX10_transfer_124 : decode cX10_transfer 124 = .ok (.iconst 4, 1) := by decide +kernel
theorem dX10_transfer_125 : decode cX10_transfer 125 = .ok (.invokevirtual 169, 3) := by decide +kernel
theorem dX10_transfer_128 : decode cX10_transfer 128 = .ok (.iload_n 3, 1) := by decide +kernel
theorem dX10_transfer_129 : decode cX10_transfer 129 = .ok (.isub, 1) := by decide +kernel
theorem dX10_transfer_130 : decode cX10_transfer 130 = .ok (.invokevirtual 175, 3) := by decide +kernel
theorem dX10_transfer_133 : decode cX10_transfer 133 = .ok (.aload_n 0, 1) := by decide +kernel
theorem dX10_transfer_134 : decode cX10_transfer 134 = .ok (.iload_n 2, 1) := by decide +kernel
theorem dX10_transfer_135 : decode cX10_transfer 135 = .ok (.iconst 4, 1) := by decide +kernel
theorem dX10_transfer_136 : decode cX10_transfer 136 = .ok (.lload 4, 2) := by decide +kernel
theorem dX10_transfer_138 : decode cX10_transfer 138 = .ok (.l2i, 1) := by decide +kernel
theorem dX10_transfer_139 : decode cX10_transfer 139 = .ok (.invokevirtual 175, 3) := by decide +kernel
theorem dX10_transfer_142 : decode cX10_transfer 142 = .ok (.lload 4, 2) := by decide +kernel
theorem dX10_transfer_144 : decode cX10_transfer 144 = .ok (.l2i, 1) := by decide +kernel
theorem dX10_transfer_145 : decode cX10_transfer 145 = .ok (.ireturn, 1) := by decide +kernel
theorem dX10_comesTo_0 : decode cX10_comesTo 0 = .ok (.iload_n 1, 1) := by decide +kernel
theorem dX10_comesTo_1 : decode cX10_comesTo 1 = .ok (.istore_n 3, 1) := by decide +kernel
theorem dX10_comesTo_2 : decode cX10_comesTo 2 = .ok (.iconst 0, 1) := by decide +kernel
theorem dX10_comesTo_3 : decode cX10_comesTo 3 = .ok (.istore 4, 2) := by decide +kernel
theorem dX10_comesTo_5 : decode cX10_comesTo 5 = .ok (.iload 4, 2) := by decide +kernel
theorem dX10_comesTo_7 : decode cX10_comesTo 7 = .ok (.bipush 16, 2) := by decide +kernel
theorem dX10_comesTo_9 : decode cX10_comesTo 9 = .ok (.if_icmp .ge 26, 3) := by decide +kernel
theorem dX10_comesTo_12 : decode cX10_comesTo 12 = .ok (.iload_n 3, 1) := by decide +kernel
theorem dX10_comesTo_13 : decode cX10_comesTo 13 = .ok (.iload_n 2, 1) := by decide +kernel
theorem dX10_comesTo_14 : decode cX10_comesTo 14 = .ok (.if_icmp .eq 21, 3) := by decide +kernel
theorem dX10_comesTo_17 : decode cX10_comesTo 17 = .ok (.iload_n 3, 1) := by decide +kernel
theorem dX10_comesTo_18 : decode cX10_comesTo 18 = .ok (.iconst (-1), 1) := by decide +kernel
theorem dX10_comesTo_19 : decode cX10_comesTo 19 = .ok (.if_icmp .eq 16, 3) := by decide +kernel
theorem dX10_comesTo_22 : decode cX10_comesTo 22 = .ok (.aload_n 0, 1) := by decide +kernel
theorem dX10_comesTo_23 : decode cX10_comesTo 23 = .ok (.iload_n 3, 1) := by decide +kernel
theorem dX10_comesTo_24 : decode cX10_comesTo 24 = .ok (.iconst 5, 1) := by decide +kernel
theorem dX10_comesTo_25 : decode cX10_comesTo 25 = .ok (.invokevirtual 169, 3) := by decide +kernel
theorem dX10_comesTo_28 : decode cX10_comesTo 28 = .ok (.istore_n 3, 1) := by decide +kernel
theorem dX10_comesTo_29 : decode cX10_comesTo 29 = .ok (.iinc 4 1, 3) := by decide +kernel
theorem dX10_comesTo_32 : decode cX10_comesTo 32 = .ok (.goto (-27), 3) := by decide +kernel
theorem dX10_comesTo_35 : decode cX10_comesTo 35 = .ok (.iload_n 3, 1) := by decide +kernel
theorem dX10_comesTo_36 : decode cX10_comesTo 36 = .ok (.iload_n 2, 1) := by decide +kernel
theorem dX10_comesTo_37 : decode cX10_comesTo 37 = .ok (.if_icmp .ne 7, 3) := by decide +kernel
theorem dX10_comesTo_40 : decode cX10_comesTo 40 = .ok (.iconst 1, 1) := by decide +kernel
theorem dX10_comesTo_41 : decode cX10_comesTo 41 = .ok (.goto 4, 3) := by decide +kernel
theorem dX10_comesTo_44 : decode cX10_comesTo 44 = .ok (.iconst 0, 1) := by decide +kernel
theorem dX10_comesTo_45 : decode cX10_comesTo 45 = .ok (.ireturn, 1) := by decide +kernel
theorem dX10_assign_0 : decode cX10_assign 0 = .ok (.aload_n 0, 1) := by decide +kernel
theorem dX10_assign_1 : decode cX10_assign 1 = .ok (.aload_n 0, 1) := by decide +kernel
theorem dX10_assign_2 : decode cX10_assign 2 = .ok (.iload_n 1, 1) := by decide +kernel
theorem dX10_assign_3 : decode cX10_assign 3 = .ok (.invokevirtual 184, 3) := by decide +kernel
theorem dX10_assign_6 : decode cX10_assign 6 = .ok (.ifCond .eq 11, 3) := by decide +kernel
theorem dX10_assign_9 : decode cX10_assign 9 = .ok (.aload_n 0, 1) := by decide +kernel
theorem dX10_assign_10 : decode cX10_assign 10 = .ok (.iload_n 2, 1) := by decide +kernel
theorem dX10_assign_11 : decode cX10_assign 11 = .ok (.invokevirtual 184, 3) := by decide +kernel
theorem dX10_assign_14 : decode cX10_assign 14 = .ok (.ifCond .ne 7, 3) := by decide +kernel
theorem dX10_assign_17 : decode cX10_assign 17 = .ok (.iconst 1, 1) := by decide +kernel
theorem dX10_assign_18 : decode cX10_assign 18 = .ok (.goto 4, 3) := by decide +kernel
theorem dX10_assign_21 : decode cX10_assign 21 = .ok (.iconst 0, 1) := by decide +kernel
theorem dX10_assign_22 : decode cX10_assign 22 = .ok (.putfield 63, 3) := by decide +kernel
theorem dX10_assign_25 : decode cX10_assign 25 = .ok (.aload_n 0, 1) := by decide +kernel
theorem dX10_assign_26 : decode cX10_assign 26 = .ok (.getfield 63, 3) := by decide +kernel
theorem dX10_assign_29 : decode cX10_assign 29 = .ok (.ifCond .le 4, 3) := by decide +kernel
theorem dX10_assign_32 : decode cX10_assign 32 = .ok (.return_, 1) := by decide +kernel
theorem dX10_assign_33 : decode cX10_assign 33 = .ok (.iload_n 1, 1) := by decide +kernel
theorem dX10_assign_34 : decode cX10_assign 34 = .ok (.iload_n 2, 1) := by decide +kernel
theorem dX10_assign_35 : decode cX10_assign 35 = .ok (.if_icmp .eq 28, 3) := by decide +kernel
theorem dX10_assign_38 : decode cX10_assign 38 = .ok (.iload_n 3, 1) := by decide +kernel
theorem dX10_assign_39 : decode cX10_assign 39 = .ok (.i2l, 1) := by decide +kernel
theorem dX10_assign_40 : decode cX10_assign 40 = .ok (.lconst 0, 1) := by decide +kernel
theorem dX10_assign_41 : decode cX10_assign 41 = .ok (.ldc2_w 160, 3) := by decide +kernel
theorem dX10_assign_44 : decode cX10_assign 44 = .ok (.invokestatic 104, 3) := by decide +kernel
theorem dX10_assign_47 : decode cX10_assign 47 = .ok (.ifCond .eq 16, 3) := by decide +kernel
theorem dX10_assign_50 : decode cX10_assign 50 = .ok (.iload_n 3, 1) := by decide +kernel
theorem dX10_assign_51 : decode cX10_assign 51 = .ok (.ifCond .le 20, 3) := by decide +kernel
theorem dX10_assign_54 : decode cX10_assign 54 = .ok (.aload_n 0, 1) := by decide +kernel
theorem dX10_assign_55 : decode cX10_assign 55 = .ok (.iload_n 2, 1) := by decide +kernel
theorem dX10_assign_56 : decode cX10_assign 56 = .ok (.iload_n 1, 1) := by decide +kernel
theorem dX10_assign_57 : decode cX10_assign 57 = .ok (.invokevirtual 190, 3) := by decide +kernel
theorem dX10_assign_60 : decode cX10_assign 60 = .ok (.ifCond .eq 11, 3) := by decide +kernel
theorem dX10_assign_63 : decode cX10_assign 63 = .ok (.aload_n 0, 1) := by decide +kernel
theorem dX10_assign_64 : decode cX10_assign 64 = .ok (.iconst 2, 1) := by decide +kernel
theorem dX10_assign_65 : decode cX10_assign 65 = .ok (.putfield 63, 3) := by decide +kernel
theorem dX10_assign_68 : decode cX10_assign 68 = .ok (.goto 24, 3) := by decide +kernel
theorem dX10_assign_71 : decode cX10_assign 71 = .ok (.aload_n 0, 1) := by decide +kernel
theorem dX10_assign_72 : decode cX10_assign 72 = .ok (.iload_n 1, 1) := by decide +kernel
theorem dX10_assign_73 : decode cX10_assign 73 = .ok (.invokevirtual 187, 3) := by decide +kernel
theorem dX10_assign_76 : decode cX10_assign 76 = .ok (.ifCond .eq 11, 3) := by decide +kernel
theorem dX10_assign_79 : decode cX10_assign 79 = .ok (.aload_n 0, 1) := by decide +kernel
theorem dX10_assign_80 : decode cX10_assign 80 = .ok (.iload_n 2, 1) := by decide +kernel
theorem dX10_assign_81 : decode cX10_assign 81 = .ok (.invokevirtual 187, 3) := by decide +kernel
theorem dX10_assign_84 : decode cX10_assign 84 = .ok (.ifCond .ne 8, 3) := by decide +kernel
theorem dX10_assign_87 : decode cX10_assign 87 = .ok (.aload_n 0, 1) := by decide +kernel
theorem dX10_assign_88 : decode cX10_assign 88 = .ok (.iconst 3, 1) := by decide +kernel
theorem dX10_assign_89 : decode cX10_assign 89 = .ok (.putfield 63, 3) := by decide +kernel
theorem dX10_assign_92 : decode cX10_assign 92 = .ok (.aload_n 0, 1) := by decide +kernel
theorem dX10_assign_93 : decode cX10_assign 93 = .ok (.getfield 63, 3) := by decide +kernel
theorem dX10_assign_96 : decode cX10_assign 96 = .ok (.ifCond .le 4, 3) := by decide +kernel
theorem dX10_assign_99 : decode cX10_assign 99 = .ok (.return_, 1) := by decide +kernel
theorem dX10_assign_100 : decode cX10_assign 100 = .ok (.aload_n 0, 1) := by decide +kernel
theorem dX10_assign_101 : decode cX10_assign 101 = .ok (.invokevirtual 157, 3) := by decide +kernel
theorem dX10_assign_104 : decode cX10_assign 104 = .ok (.aload_n 0, 1) := by decide +kernel
theorem dX10_assign_105 : decode cX10_assign 105 = .ok (.iload_n 1, 1) := by decide +kernel
theorem dX10_assign_106 : decode cX10_assign 106 = .ok (.iconst 5, 1) := by decide +kernel
theorem dX10_assign_107 : decode cX10_assign 107 = .ok (.iload_n 3, 1) := by decide +kernel
theorem dX10_assign_108 : decode cX10_assign 108 = .ok (.ifCond .le 7, 3) := by decide +kernel
theorem dX10_assign_111 : decode cX10_assign 111 = .ok (.iload_n 2, 1) := by decide +kernel
theorem dX10_assign_112 : decode cX10_assign 112 = .ok (.goto 4, 3) := by decide +kernel
theorem dX10_assign_115 : decode cX10_assign 115 = .ok (.iconst (-1), 1) := by decide +kernel
theorem dX10_assign_116 : decode cX10_assign 116 = .ok (.invokevirtual 175, 3) := by decide +kernel
theorem dX10_assign_119 : decode cX10_assign 119 = .ok (.aload_n 0, 1) := by decide +kernel
theorem dX10_assign_120 : decode cX10_assign 120 = .ok (.iload_n 1, 1) := by decide +kernel
theorem dX10_assign_121 : decode cX10_assign 121 = .ok (.bipush 6, 2) := by decide +kernel
theorem dX10_assign_123 : decode cX10_assign 123 = .ok (.iload_n 3, 1) := by decide +kernel
theorem dX10_assign_124 : decode cX10_assign 124 = .ok (.invokevirtual 175, 3) := by decide +kernel
theorem dX10_assign_127 : decode cX10_assign 127 = .ok (.return_, 1) := by decide +kernel
theorem dX10_accountAt_0 : decode cX10_accountAt 0 = .ok (.iconst 2, 1) := by decide +kernel
theorem dX10_accountAt_1 : decode cX10_accountAt 1 = .ok (.bipush 6, 2) := by decide +kernel
theorem dX10_accountAt_3 : decode cX10_accountAt 3 = .ok (.iload_n 1, 1) := by decide +kernel
theorem dX10_accountAt_4 : decode cX10_accountAt 4 = .ok (.imul, 1) := by decide +kernel
theorem dX10_accountAt_5 : decode cX10_accountAt 5 = .ok (.iadd, 1) := by decide +kernel
theorem dX10_accountAt_6 : decode cX10_accountAt 6 = .ok (.iload_n 2, 1) := by decide +kernel
theorem dX10_accountAt_7 : decode cX10_accountAt 7 = .ok (.iadd, 1) := by decide +kernel
theorem dX10_accountAt_8 : decode cX10_accountAt 8 = .ok (.ireturn, 1) := by decide +kernel
theorem dX10_lotAt_0 : decode cX10_lotAt 0 = .ok (.bipush 98, 2) := by decide +kernel
theorem dX10_lotAt_2 : decode cX10_lotAt 2 = .ok (.bipush 60, 2) := by decide +kernel
theorem dX10_lotAt_4 : decode cX10_lotAt 4 = .ok (.iload_n 1, 1) := by decide +kernel
theorem dX10_lotAt_5 : decode cX10_lotAt 5 = .ok (.imul, 1) := by decide +kernel
theorem dX10_lotAt_6 : decode cX10_lotAt 6 = .ok (.iadd, 1) := by decide +kernel
theorem dX10_lotAt_7 : decode cX10_lotAt 7 = .ok (.iload_n 2, 1) := by decide +kernel
theorem dX10_lotAt_8 : decode cX10_lotAt 8 = .ok (.iadd, 1) := by decide +kernel
theorem dX10_lotAt_9 : decode cX10_lotAt 9 = .ok (.ireturn, 1) := by decide +kernel
theorem dX10_balanceOf_0 : decode cX10_balanceOf 0 = .ok (.lconst 0, 1) := by decide +kernel
theorem dX10_balanceOf_1 : decode cX10_balanceOf 1 = .ok (.lstore_n 2, 1) := by decide +kernel
theorem dX10_balanceOf_2 : decode cX10_balanceOf 2 = .ok (.iconst 0, 1) := by decide +kernel
theorem dX10_balanceOf_3 : decode cX10_balanceOf 3 = .ok (.istore 4, 2) := by decide +kernel
theorem dX10_balanceOf_5 : decode cX10_balanceOf 5 = .ok (.iload 4, 2) := by decide +kernel
theorem dX10_balanceOf_7 : decode cX10_balanceOf 7 = .ok (.bipush 60, 2) := by decide +kernel
theorem dX10_balanceOf_9 : decode cX10_balanceOf 9 = .ok (.if_icmp .ge 24, 3) := by decide +kernel
theorem dX10_balanceOf_12 : decode cX10_balanceOf 12 = .ok (.lload_n 2, 1) := by decide +kernel
theorem dX10_balanceOf_13 : decode cX10_balanceOf 13 = .ok (.aload_n 0, 1) := by decide +kernel
theorem dX10_balanceOf_14 : decode cX10_balanceOf 14 = .ok (.getfield 19, 3) := by decide +kernel
theorem dX10_balanceOf_17 : decode cX10_balanceOf 17 = .ok (.aload_n 0, 1) := by decide +kernel
theorem dX10_balanceOf_18 : decode cX10_balanceOf 18 = .ok (.iload_n 1, 1) := by decide +kernel
theorem dX10_balanceOf_19 : decode cX10_balanceOf 19 = .ok (.iload 4, 2) := by decide +kernel
theorem dX10_balanceOf_21 : decode cX10_balanceOf 21 = .ok (.invokevirtual 194, 3) := by decide +kernel
theorem dX10_balanceOf_24 : decode cX10_balanceOf 24 = .ok (.laload, 1) := by decide +kernel
theorem dX10_balanceOf_25 : decode cX10_balanceOf 25 = .ok (.ladd, 1) := by decide +kernel
theorem dX10_balanceOf_26 : decode cX10_balanceOf 26 = .ok (.lstore_n 2, 1) := by decide +kernel
theorem dX10_balanceOf_27 : decode cX10_balanceOf 27 = .ok (.iinc 4 1, 3) := by decide +kernel
theorem dX10_balanceOf_30 : decode cX10_balanceOf 30 = .ok (.goto (-25), 3) := by decide +kernel
theorem dX10_balanceOf_33 : decode cX10_balanceOf 33 = .ok (.lload_n 2, 1) := by decide +kernel
theorem dX10_balanceOf_34 : decode cX10_balanceOf 34 = .ok (.lreturn, 1) := by decide +kernel
theorem dX10_takesLots_0 : decode cX10_takesLots 0 = .ok (.lload_n 2, 1) := by decide +kernel
theorem dX10_takesLots_1 : decode cX10_takesLots 1 = .ok (.lstore 5, 2) := by decide +kernel
theorem dX10_takesLots_3 : decode cX10_takesLots 3 = .ok (.iconst 0, 1) := by decide +kernel
theorem dX10_takesLots_4 : decode cX10_takesLots 4 = .ok (.istore 7, 2) := by decide +kernel
theorem dX10_takesLots_6 : decode cX10_takesLots 6 = .ok (.iload 7, 2) := by decide +kernel
theorem dX10_takesLots_8 : decode cX10_takesLots 8 = .ok (.bipush 60, 2) := by decide +kernel
theorem dX10_takesLots_10 : decode cX10_takesLots 10 = .ok (.if_icmp .ge 77, 3) := by decide +kernel
theorem dX10_takesLots_13 : decode cX10_takesLots 13 = .ok (.aload_n 0, 1) := by decide +kernel
theorem dX10_takesLots_14 : decode cX10_takesLots 14 = .ok (.iload_n 1, 1) := by decide +kernel
theorem dX10_takesLots_15 : decode cX10_takesLots 15 = .ok (.iload 4, 2) := by decide +kernel
theorem dX10_takesLots_17 : decode cX10_takesLots 17 = .ok (.ifCond .eq 11, 3) := by decide +kernel
theorem dX10_takesLots_20 : decode cX10_takesLots 20 = .ok (.bipush 59, 2) := by decide +kernel
theorem dX10_takesLots_22 : decode cX10_takesLots 22 = .ok (.iload 7, 2) := by decide +kernel
theorem dX10_takesLots_24 : decode cX10_takesLots 24 = .ok (.isub, 1) := by decide +kernel
theorem dX10_takesLots_25 : decode cX10_takesLots 25 = .ok (.goto 5, 3) := by decide +kernel
theorem dX10_takesLots_28 : decode cX10_takesLots 28 = .ok (.iload 7, 2) := by decide +kernel
theorem dX10_takesLots_30 : decode cX10_takesLots 30 = .ok (.invokevirtual 194, 3) := by decide +kernel
theorem dX10_takesLots_33 : decode cX10_takesLots 33 = .ok (.istore 8, 2) := by decide +kernel
theorem dX10_takesLots_35 : decode cX10_takesLots 35 = .ok (.aload_n 0, 1) := by decide +kernel
theorem dX10_takesLots_36 : decode cX10_takesLots 36 = .ok (.getfield 19, 3) := by decide +kernel
theorem dX10_takesLots_39 : decode cX10_takesLots 39 = .ok (.iload 8, 2) := by decide +kernel
theorem dX10_takesLots_41 : decode cX10_takesLots 41 = .ok (.laload, 1) := by decide +kernel
theorem dX10_takesLots_42 : decode cX10_takesLots 42 = .ok (.lload 5, 2) := by decide +kernel
theorem dX10_takesLots_44 : decode cX10_takesLots 44 = .ok (.lcmp, 1) := by decide +kernel
theorem dX10_takesLots_45 : decode cX10_takesLots 45 = .ok (.ifCond .ge 13, 3) := by decide +kernel
theorem dX10_takesLots_48 : decode cX10_takesLots 48 = .ok (.aload_n 0, 1) := by decide +kernel
theorem dX10_takesLots_49 : decode cX10_takesLots 49 = .ok (.getfield 19, 3) := by decide +kernel
theorem dX10_takesLots_52 : decode cX10_takesLots 52 = .ok (.iload 8, 2) := by decide +kernel
theorem dX10_takesLots_54 : decode cX10_takesLots 54 = .ok (.laload, 1) := by decide +kernel
theorem dX10_takesLots_55 : decode cX10_takesLots 55 = .ok (.goto 5, 3) := by decide +kernel
theorem dX10_takesLots_58 : decode cX10_takesLots 58 = .ok (.lload 5, 2) := by decide +kernel
theorem dX10_takesLots_60 : decode cX10_takesLots 60 = .ok (.lstore 9, 2) := by decide +kernel
theorem dX10_takesLots_62 : decode cX10_takesLots 62 = .ok (.aload_n 0, 1) := by decide +kernel
theorem dX10_takesLots_63 : decode cX10_takesLots 63 = .ok (.getfield 19, 3) := by decide +kernel
theorem dX10_takesLots_66 : decode cX10_takesLots 66 = .ok (.iload 8, 2) := by decide +kernel
theorem dX10_takesLots_68 : decode cX10_takesLots 68 = .ok (.dup2, 1) := by decide +kernel
theorem dX10_takesLots_69 : decode cX10_takesLots 69 = .ok (.laload, 1) := by decide +kernel
theorem dX10_takesLots_70 : decode cX10_takesLots 70 = .ok (.lload 9, 2) := by decide +kernel
theorem dX10_takesLots_72 : decode cX10_takesLots 72 = .ok (.lsub, 1) := by decide +kernel
theorem dX10_takesLots_73 : decode cX10_takesLots 73 = .ok (.lastore, 1) := by decide +kernel
theorem dX10_takesLots_74 : decode cX10_takesLots 74 = .ok (.lload 5, 2) := by decide +kernel
theorem dX10_takesLots_76 : decode cX10_takesLots 76 = .ok (.lload 9, 2) := by decide +kernel
theorem dX10_takesLots_78 : decode cX10_takesLots 78 = .ok (.lsub, 1) := by decide +kernel
theorem dX10_takesLots_79 : decode cX10_takesLots 79 = .ok (.lstore 5, 2) := by decide +kernel
theorem dX10_takesLots_81 : decode cX10_takesLots 81 = .ok (.iinc 7 1, 3) := by decide +kernel
theorem dX10_takesLots_84 : decode cX10_takesLots 84 = .ok (.goto (-78), 3) := by decide +kernel
theorem dX10_takesLots_87 : decode cX10_takesLots 87 = .ok (.lload 5, 2) := by decide +kernel
theorem dX10_takesLots_89 : decode cX10_takesLots 89 = .ok (.lreturn, 1) := by decide +kernel
theorem dX10_credits_0 : decode cX10_credits 0 = .ok (.aload_n 0, 1) := by decide +kernel
theorem dX10_credits_1 : decode cX10_credits 1 = .ok (.iload_n 1, 1) := by decide +kernel
theorem dX10_credits_2 : decode cX10_credits 2 = .ok (.iconst 0, 1) := by decide +kernel
theorem dX10_credits_3 : decode cX10_credits 3 = .ok (.invokevirtual 197, 3) := by decide +kernel
theorem dX10_credits_6 : decode cX10_credits 6 = .ok (.istore 4, 2) := by decide +kernel
theorem dX10_credits_8 : decode cX10_credits 8 = .ok (.aload_n 0, 1) := by decide +kernel
theorem dX10_credits_9 : decode cX10_credits 9 = .ok (.getfield 19, 3) := by decide +kernel
theorem dX10_credits_12 : decode cX10_credits 12 = .ok (.iload 4, 2) := by decide +kernel
theorem dX10_credits_14 : decode cX10_credits 14 = .ok (.laload, 1) := by decide +kernel
theorem dX10_credits_15 : decode cX10_credits 15 = .ok (.lload_n 2, 1) := by decide +kernel
theorem dX10_credits_16 : decode cX10_credits 16 = .ok (.lcmp, 1) := by decide +kernel
theorem dX10_credits_17 : decode cX10_credits 17 = .ok (.ifCond .ge 13, 3) := by decide +kernel
theorem dX10_credits_20 : decode cX10_credits 20 = .ok (.aload_n 0, 1) := by decide +kernel
theorem dX10_credits_21 : decode cX10_credits 21 = .ok (.getfield 19, 3) := by decide +kernel
theorem dX10_credits_24 : decode cX10_credits 24 = .ok (.iload 4, 2) := by decide +kernel
theorem dX10_credits_26 : decode cX10_credits 26 = .ok (.laload, 1) := by decide +kernel
theorem dX10_credits_27 : decode cX10_credits 27 = .ok (.goto 4, 3) := by decide +kernel
theorem dX10_credits_30 : decode cX10_credits 30 = .ok (.lload_n 2, 1) := by decide +kernel
theorem dX10_credits_31 : decode cX10_credits 31 = .ok (.lstore 5, 2) := by decide +kernel
theorem dX10_credits_33 : decode cX10_credits 33 = .ok (.aload_n 0, 1) := by decide +kernel
theorem dX10_credits_34 : decode cX10_credits 34 = .ok (.getfield 19, 3) := by decide +kernel
theorem dX10_credits_37 : decode cX10_credits 37 = .ok (.iload 4, 2) := by decide +kernel
theorem dX10_credits_39 : decode cX10_credits 39 = .ok (.dup2, 1) := by decide +kernel
theorem dX10_credits_40 : decode cX10_credits 40 = .ok (.laload, 1) := by decide +kernel
theorem dX10_credits_41 : decode cX10_credits 41 = .ok (.lload 5, 2) := by decide +kernel
theorem dX10_credits_43 : decode cX10_credits 43 = .ok (.lsub, 1) := by decide +kernel
theorem dX10_credits_44 : decode cX10_credits 44 = .ok (.lastore, 1) := by decide +kernel
theorem dX10_credits_45 : decode cX10_credits 45 = .ok (.aload_n 0, 1) := by decide +kernel
theorem dX10_credits_46 : decode cX10_credits 46 = .ok (.getfield 19, 3) := by decide +kernel
theorem dX10_credits_49 : decode cX10_credits 49 = .ok (.aload_n 0, 1) := by decide +kernel
theorem dX10_credits_50 : decode cX10_credits 50 = .ok (.iload_n 1, 1) := by decide +kernel
theorem dX10_credits_51 : decode cX10_credits 51 = .ok (.aload_n 0, 1) := by decide +kernel
theorem dX10_credits_52 : decode cX10_credits 52 = .ok (.getfield 7, 3) := by decide +kernel
theorem dX10_credits_55 : decode cX10_credits 55 = .ok (.iconst 5, 1) := by decide +kernel
theorem dX10_credits_56 : decode cX10_credits 56 = .ok (.iaload, 1) := by decide +kernel
theorem dX10_credits_57 : decode cX10_credits 57 = .ok (.invokevirtual 194, 3) := by decide +kernel
theorem dX10_credits_60 : decode cX10_credits 60 = .ok (.dup2, 1) := by decide +kernel
theorem dX10_credits_61 : decode cX10_credits 61 = .ok (.laload, 1) := by decide +kernel
theorem dX10_credits_62 : decode cX10_credits 62 = .ok (.lload_n 2, 1) := by decide +kernel
theorem dX10_credits_63 : decode cX10_credits 63 = .ok (.lload 5, 2) := by decide +kernel
theorem dX10_credits_65 : decode cX10_credits 65 = .ok (.lsub, 1) := by decide +kernel
theorem dX10_credits_66 : decode cX10_credits 66 = .ok (.ladd, 1) := by decide +kernel
theorem dX10_credits_67 : decode cX10_credits 67 = .ok (.lastore, 1) := by decide +kernel
theorem dX10_credits_68 : decode cX10_credits 68 = .ok (.return_, 1) := by decide +kernel
theorem dX10_leave_0 : decode cX10_leave 0 = .ok (.aload_n 0, 1) := by decide +kernel
theorem dX10_leave_1 : decode cX10_leave 1 = .ok (.aload_n 0, 1) := by decide +kernel
theorem dX10_leave_2 : decode cX10_leave 2 = .ok (.iload_n 1, 1) := by decide +kernel
theorem dX10_leave_3 : decode cX10_leave 3 = .ok (.invokevirtual 184, 3) := by decide +kernel
theorem dX10_leave_6 : decode cX10_leave 6 = .ok (.ifCond .ne 7, 3) := by decide +kernel
theorem dX10_leave_9 : decode cX10_leave 9 = .ok (.iconst 1, 1) := by decide +kernel
theorem dX10_leave_10 : decode cX10_leave 10 = .ok (.goto 18, 3) := by decide +kernel
theorem dX10_leave_13 : decode cX10_leave 13 = .ok (.aload_n 0, 1) := by decide +kernel
theorem dX10_leave_14 : decode cX10_leave 14 = .ok (.iload_n 1, 1) := by decide +kernel
theorem dX10_leave_15 : decode cX10_leave 15 = .ok (.iconst 3, 1) := by decide +kernel
theorem dX10_leave_16 : decode cX10_leave 16 = .ok (.invokevirtual 169, 3) := by decide +kernel
theorem dX10_leave_19 : decode cX10_leave 19 = .ok (.iconst 2, 1) := by decide +kernel
theorem dX10_leave_20 : decode cX10_leave 20 = .ok (.if_icmp .ne 7, 3) := by decide +kernel
theorem dX10_leave_23 : decode cX10_leave 23 = .ok (.iconst 2, 1) := by decide +kernel
theorem dX10_leave_24 : decode cX10_leave 24 = .ok (.goto 4, 3) := by decide +kernel
theorem dX10_leave_27 : decode cX10_leave 27 = .ok (.iconst 0, 1) := by decide +kernel
theorem dX10_leave_28 : decode cX10_leave 28 = .ok (.putfield 63, 3) := by decide +kernel
theorem dX10_leave_31 : decode cX10_leave 31 = .ok (.aload_n 0, 1) := by decide +kernel
theorem dX10_leave_32 : decode cX10_leave 32 = .ok (.getfield 63, 3) := by decide +kernel
theorem dX10_leave_35 : decode cX10_leave 35 = .ok (.ifCond .le 5, 3) := by decide +kernel
theorem dX10_leave_38 : decode cX10_leave 38 = .ok (.lconst 0, 1) := by decide +kernel
theorem dX10_leave_39 : decode cX10_leave 39 = .ok (.lreturn, 1) := by decide +kernel
theorem dX10_leave_40 : decode cX10_leave 40 = .ok (.aload_n 0, 1) := by decide +kernel
theorem dX10_leave_41 : decode cX10_leave 41 = .ok (.invokevirtual 157, 3) := by decide +kernel
theorem dX10_leave_44 : decode cX10_leave 44 = .ok (.aload_n 0, 1) := by decide +kernel
theorem dX10_leave_45 : decode cX10_leave 45 = .ok (.iload_n 1, 1) := by decide +kernel
theorem dX10_leave_46 : decode cX10_leave 46 = .ok (.invokevirtual 187, 3) := by decide +kernel
theorem dX10_leave_49 : decode cX10_leave 49 = .ok (.istore_n 2, 1) := by decide +kernel
theorem dX10_leave_50 : decode cX10_leave 50 = .ok (.aload_n 0, 1) := by decide +kernel
theorem dX10_leave_51 : decode cX10_leave 51 = .ok (.iload_n 1, 1) := by decide +kernel
theorem dX10_leave_52 : decode cX10_leave 52 = .ok (.iconst 3, 1) := by decide +kernel
theorem dX10_leave_53 : decode cX10_leave 53 = .ok (.iconst 2, 1) := by decide +kernel
theorem dX10_leave_54 : decode cX10_leave 54 = .ok (.invokevirtual 175, 3) := by decide +kernel
theorem dX10_leave_57 : decode cX10_leave 57 = .ok (.iload_n 2, 1) := by decide +kernel
theorem dX10_leave_58 : decode cX10_leave 58 = .ok (.ifCond .ne 5, 3) := by decide +kernel
theorem dX10_leave_61 : decode cX10_leave 61 = .ok (.lconst 0, 1) := by decide +kernel
theorem dX10_leave_62 : decode cX10_leave 62 = .ok (.lreturn, 1) := by decide +kernel
theorem dX10_leave_63 : decode cX10_leave 63 = .ok (.aload_n 0, 1) := by decide +kernel
theorem dX10_leave_64 : decode cX10_leave 64 = .ok (.getfield 19, 3) := by decide +kernel
theorem dX10_leave_67 : decode cX10_leave 67 = .ok (.iconst 0, 1) := by decide +kernel
theorem dX10_leave_68 : decode cX10_leave 68 = .ok (.dup2, 1) := by decide +kernel
theorem dX10_leave_69 : decode cX10_leave 69 = .ok (.laload, 1) := by decide +kernel
theorem dX10_leave_70 : decode cX10_leave 70 = .ok (.aload_n 0, 1) := by decide +kernel
theorem dX10_leave_71 : decode cX10_leave 71 = .ok (.iload_n 1, 1) := by decide +kernel
theorem dX10_leave_72 : decode cX10_leave 72 = .ok (.aload_n 0, 1) := by decide +kernel
theorem dX10_leave_73 : decode cX10_leave 73 = .ok (.getfield 19, 3) := by decide +kernel
theorem dX10_leave_76 : decode cX10_leave 76 = .ok (.aload_n 0, 1) := by decide +kernel
theorem dX10_leave_77 : decode cX10_leave 77 = .ok (.iload_n 1, 1) := by decide +kernel
theorem dX10_leave_78 : decode cX10_leave 78 = .ok (.iconst 0, 1) := by decide +kernel
theorem dX10_leave_79 : decode cX10_leave 79 = .ok (.invokevirtual 197, 3) := by decide +kernel
theorem dX10_leave_82 : decode cX10_leave 82 = .ok (.laload, 1) := by decide +kernel
theorem dX10_leave_83 : decode cX10_leave 83 = .ok (.iconst 0, 1) := by decide +kernel
theorem dX10_leave_84 : decode cX10_leave 84 = .ok (.invokevirtual 200, 3) := by decide +kernel
theorem dX10_leave_87 : decode cX10_leave 87 = .ok (.lsub, 1) := by decide +kernel
theorem dX10_leave_88 : decode cX10_leave 88 = .ok (.lastore, 1) := by decide +kernel
theorem dX10_leave_89 : decode cX10_leave 89 = .ok (.aload_n 0, 1) := by decide +kernel
theorem dX10_leave_90 : decode cX10_leave 90 = .ok (.getfield 19, 3) := by decide +kernel
theorem dX10_leave_93 : decode cX10_leave 93 = .ok (.aload_n 0, 1) := by decide +kernel
theorem dX10_leave_94 : decode cX10_leave 94 = .ok (.iload_n 1, 1) := by decide +kernel
theorem dX10_leave_95 : decode cX10_leave 95 = .ok (.iconst 0, 1) := by decide +kernel
theorem dX10_leave_96 : decode cX10_leave 96 = .ok (.invokevirtual 197, 3) := by decide +kernel
theorem dX10_leave_99 : decode cX10_leave 99 = .ok (.lconst 0, 1) := by decide +kernel
theorem dX10_leave_100 : decode cX10_leave 100 = .ok (.lastore, 1) := by decide +kernel
theorem dX10_leave_101 : decode cX10_leave 101 = .ok (.aload_n 0, 1) := by decide +kernel
theorem dX10_leave_102 : decode cX10_leave 102 = .ok (.iload_n 1, 1) := by decide +kernel
theorem dX10_leave_103 : decode cX10_leave 103 = .ok (.invokevirtual 204, 3) := by decide +kernel
theorem dX10_leave_106 : decode cX10_leave 106 = .ok (.lstore_n 3, 1) := by decide +kernel
theorem dX10_leave_107 : decode cX10_leave 107 = .ok (.lload_n 3, 1) := by decide +kernel
theorem dX10_leave_108 : decode cX10_leave 108 = .ok (.aload_n 0, 1) := by decide +kernel
theorem dX10_leave_109 : decode cX10_leave 109 = .ok (.getfield 7, 3) := by decide +kernel
theorem dX10_leave_112 : decode cX10_leave 112 = .ok (.iconst 2, 1) := by decide +kernel
theorem dX10_leave_113 : decode cX10_leave 113 = .ok (.iaload, 1) := by decide +kernel
theorem dX10_leave_114 : decode cX10_leave 114 = .ok (.i2l, 1) := by decide +kernel
theorem dX10_leave_115 : decode cX10_leave 115 = .ok (.lmul, 1) := by decide +kernel
theorem dX10_leave_116 : decode cX10_leave 116 = .ok (.ldc2_w 160, 3) := by decide +kernel
theorem dX10_leave_119 : decode cX10_leave 119 = .ok (.ldiv, 1) := by decide +kernel
theorem dX10_leave_120 : decode cX10_leave 120 = .ok (.lstore 5, 2) := by decide +kernel
theorem dX10_leave_122 : decode cX10_leave 122 = .ok (.aload_n 0, 1) := by decide +kernel
theorem dX10_leave_123 : decode cX10_leave 123 = .ok (.getfield 19, 3) := by decide +kernel
theorem dX10_leave_126 : decode cX10_leave 126 = .ok (.iconst 0, 1) := by decide +kernel
theorem dX10_leave_127 : decode cX10_leave 127 = .ok (.dup2, 1) := by decide +kernel
theorem dX10_leave_128 : decode cX10_leave 128 = .ok (.laload, 1) := by decide +kernel
theorem dX10_leave_129 : decode cX10_leave 129 = .ok (.lload_n 3, 1) := by decide +kernel
theorem dX10_leave_130 : decode cX10_leave 130 = .ok (.lload 5, 2) := by decide +kernel
theorem dX10_leave_132 : decode cX10_leave 132 = .ok (.lsub, 1) := by decide +kernel
theorem dX10_leave_133 : decode cX10_leave 133 = .ok (.ladd, 1) := by decide +kernel
theorem dX10_leave_134 : decode cX10_leave 134 = .ok (.lastore, 1) := by decide +kernel
theorem dX10_leave_135 : decode cX10_leave 135 = .ok (.iconst 0, 1) := by decide +kernel
theorem dX10_leave_136 : decode cX10_leave 136 = .ok (.istore 7, 2) := by decide +kernel
theorem dX10_leave_138 : decode cX10_leave 138 = .ok (.iload 7, 2) := by decide +kernel
theorem dX10_leave_140 : decode cX10_leave 140 = .ok (.bipush 60, 2) := by decide +kernel
theorem dX10_leave_142 : decode cX10_leave 142 = .ok (.if_icmp .ge 22, 3) := by decide +kernel
theorem dX10_leave_145 : decode cX10_leave 145 = .ok (.aload_n 0, 1) := by decide +kernel
theorem dX10_leave_146 : decode cX10_leave 146 = .ok (.getfield 19, 3) := by decide +kernel
theorem dX10_leave_149 : decode cX10_leave 149 = .ok (.aload_n 0, 1) := by decide +kernel
theorem dX10_leave_150 : decode cX10_leave 150 = .ok (.iload_n 1, 1) := by decide +kernel
theorem dX10_leave_151 : decode cX10_leave 151 = .ok (.iload 7, 2) := by decide +kernel
theorem dX10_leave_153 : decode cX10_leave 153 = .ok (.invokevirtual 194, 3) := by decide +kernel
theorem dX10_leave_156 : decode cX10_leave 156 = .ok (.lconst 0, 1) := by decide +kernel
theorem dX10_leave_157 : decode cX10_leave 157 = .ok (.lastore, 1) := by decide +kernel
theorem dX10_leave_158 : decode cX10_leave 158 = .ok (.iinc 7 1, 3) := by decide +kernel
theorem dX10_leave_161 : decode cX10_leave 161 = .ok (.goto (-23), 3) := by decide +kernel
theorem dX10_leave_164 : decode cX10_leave 164 = .ok (.aload_n 0, 1) := by decide +kernel
theorem dX10_leave_165 : decode cX10_leave 165 = .ok (.getfield 19, 3) := by decide +kernel
theorem dX10_leave_168 : decode cX10_leave 168 = .ok (.aload_n 0, 1) := by decide +kernel
theorem dX10_leave_169 : decode cX10_leave 169 = .ok (.iload_n 1, 1) := by decide +kernel
theorem dX10_leave_170 : decode cX10_leave 170 = .ok (.iconst 3, 1) := by decide +kernel
theorem dX10_leave_171 : decode cX10_leave 171 = .ok (.invokevirtual 197, 3) := by decide +kernel
theorem dX10_leave_174 : decode cX10_leave 174 = .ok (.lload 5, 2) := by decide +kernel
theorem dX10_leave_176 : decode cX10_leave 176 = .ok (.lastore, 1) := by decide +kernel
theorem dX10_leave_177 : decode cX10_leave 177 = .ok (.aload_n 0, 1) := by decide +kernel
theorem dX10_leave_178 : decode cX10_leave 178 = .ok (.getfield 19, 3) := by decide +kernel
theorem dX10_leave_181 : decode cX10_leave 181 = .ok (.aload_n 0, 1) := by decide +kernel
theorem dX10_leave_182 : decode cX10_leave 182 = .ok (.iload_n 1, 1) := by decide +kernel
theorem dX10_leave_183 : decode cX10_leave 183 = .ok (.iconst 2, 1) := by decide +kernel
theorem dX10_leave_184 : decode cX10_leave 184 = .ok (.invokevirtual 197, 3) := by decide +kernel
theorem dX10_leave_187 : decode cX10_leave 187 = .ok (.dup2, 1) := by decide +kernel
theorem dX10_leave_188 : decode cX10_leave 188 = .ok (.laload, 1) := by decide +kernel
theorem dX10_leave_189 : decode cX10_leave 189 = .ok (.aload_n 0, 1) := by decide +kernel
theorem dX10_leave_190 : decode cX10_leave 190 = .ok (.getfield 19, 3) := by decide +kernel
theorem dX10_leave_193 : decode cX10_leave 193 = .ok (.aload_n 0, 1) := by decide +kernel
theorem dX10_leave_194 : decode cX10_leave 194 = .ok (.iload_n 1, 1) := by decide +kernel
theorem dX10_leave_195 : decode cX10_leave 195 = .ok (.iconst 1, 1) := by decide +kernel
theorem dX10_leave_196 : decode cX10_leave 196 = .ok (.invokevirtual 197, 3) := by decide +kernel
theorem dX10_leave_199 : decode cX10_leave 199 = .ok (.laload, 1) := by decide +kernel
theorem dX10_leave_200 : decode cX10_leave 200 = .ok (.ladd, 1) := by decide +kernel
theorem dX10_leave_201 : decode cX10_leave 201 = .ok (.lastore, 1) := by decide +kernel
theorem dX10_leave_202 : decode cX10_leave 202 = .ok (.aload_n 0, 1) := by decide +kernel
theorem dX10_leave_203 : decode cX10_leave 203 = .ok (.getfield 19, 3) := by decide +kernel
theorem dX10_leave_206 : decode cX10_leave 206 = .ok (.aload_n 0, 1) := by decide +kernel
theorem dX10_leave_207 : decode cX10_leave 207 = .ok (.iload_n 1, 1) := by decide +kernel
theorem dX10_leave_208 : decode cX10_leave 208 = .ok (.iconst 1, 1) := by decide +kernel
theorem dX10_leave_209 : decode cX10_leave 209 = .ok (.invokevirtual 197, 3) := by decide +kernel
theorem dX10_leave_212 : decode cX10_leave 212 = .ok (.lconst 0, 1) := by decide +kernel
theorem dX10_leave_213 : decode cX10_leave 213 = .ok (.lastore, 1) := by decide +kernel
theorem dX10_leave_214 : decode cX10_leave 214 = .ok (.aload_n 0, 1) := by decide +kernel
theorem dX10_leave_215 : decode cX10_leave 215 = .ok (.iload_n 1, 1) := by decide +kernel
theorem dX10_leave_216 : decode cX10_leave 216 = .ok (.iconst 4, 1) := by decide +kernel
theorem dX10_leave_217 : decode cX10_leave 217 = .ok (.iconst 0, 1) := by decide +kernel
theorem dX10_leave_218 : decode cX10_leave 218 = .ok (.invokevirtual 175, 3) := by decide +kernel
theorem dX10_leave_221 : decode cX10_leave 221 = .ok (.aload_n 0, 1) := by decide +kernel
theorem dX10_leave_222 : decode cX10_leave 222 = .ok (.iload_n 1, 1) := by decide +kernel
theorem dX10_leave_223 : decode cX10_leave 223 = .ok (.iconst 5, 1) := by decide +kernel
theorem dX10_leave_224 : decode cX10_leave 224 = .ok (.iconst (-1), 1) := by decide +kernel
theorem dX10_leave_225 : decode cX10_leave 225 = .ok (.invokevirtual 175, 3) := by decide +kernel
theorem dX10_leave_228 : decode cX10_leave 228 = .ok (.iconst 0, 1) := by decide +kernel
theorem dX10_leave_229 : decode cX10_leave 229 = .ok (.istore 7, 2) := by decide +kernel
theorem dX10_leave_231 : decode cX10_leave 231 = .ok (.iload 7, 2) := by decide +kernel
theorem dX10_leave_233 : decode cX10_leave 233 = .ok (.aload_n 0, 1) := by decide +kernel
theorem dX10_leave_234 : decode cX10_leave 234 = .ok (.getfield 7, 3) := by decide +kernel
theorem dX10_leave_237 : decode cX10_leave 237 = .ok (.bipush 7, 2) := by decide +kernel
theorem dX10_leave_239 : decode cX10_leave 239 = .ok (.iaload, 1) := by decide +kernel
theorem dX10_leave_240 : decode cX10_leave 240 = .ok (.if_icmp .ge 28, 3) := by decide +kernel
theorem dX10_leave_243 : decode cX10_leave 243 = .ok (.aload_n 0, 1) := by decide +kernel
theorem dX10_leave_244 : decode cX10_leave 244 = .ok (.iload 7, 2) := by decide +kernel
theorem dX10_leave_246 : decode cX10_leave 246 = .ok (.iconst 5, 1) := by decide +kernel
theorem dX10_leave_247 : decode cX10_leave 247 = .ok (.invokevirtual 169, 3) := by decide +kernel
theorem dX10_leave_250 : decode cX10_leave 250 = .ok (.iload_n 1, 1) := by decide +kernel
theorem dX10_leave_251 : decode cX10_leave 251 = .ok (.if_icmp .ne 11, 3) := by decide +kernel
theorem dX10_leave_254 : decode cX10_leave 254 = .ok (.aload_n 0, 1) := by decide +kernel
theorem dX10_leave_255 : decode cX10_leave 255 = .ok (.iload 7, 2) := by decide +kernel
theorem dX10_leave_257 : decode cX10_leave 257 = .ok (.iconst 5, 1) := by decide +kernel
theorem dX10_leave_258 : decode cX10_leave 258 = .ok (.iconst (-1), 1) := by decide +kernel
theorem dX10_leave_259 : decode cX10_leave 259 = .ok (.invokevirtual 175, 3) := by decide +kernel
theorem dX10_leave_262 : decode cX10_leave 262 = .ok (.iinc 7 1, 3) := by decide +kernel
theorem dX10_leave_265 : decode cX10_leave 265 = .ok (.goto (-34), 3) := by decide +kernel
theorem dX10_leave_268 : decode cX10_leave 268 = .ok (.aload_n 0, 1) := by decide +kernel
theorem dX10_leave_269 : decode cX10_leave 269 = .ok (.invokevirtual 181, 3) := by decide +kernel
theorem dX10_leave_272 : decode cX10_leave 272 = .ok (.lload 5, 2) := by decide +kernel
theorem dX10_leave_274 : decode cX10_leave 274 = .ok (.lreturn, 1) := by decide +kernel
theorem dX10_subscriberCount_0 : decode cX10_subscriberCount 0 = .ok (.aload_n 0, 1) := by decide +kernel
theorem dX10_subscriberCount_1 : decode cX10_subscriberCount 1 = .ok (.iconst 0, 1) := by decide +kernel
theorem dX10_subscriberCount_2 : decode cX10_subscriberCount 2 = .ok (.putfield 63, 3) := by decide +kernel
theorem dX10_subscriberCount_5 : decode cX10_subscriberCount 5 = .ok (.aload_n 0, 1) := by decide +kernel
theorem dX10_subscriberCount_6 : decode cX10_subscriberCount 6 = .ok (.getfield 7, 3) := by decide +kernel
theorem dX10_subscriberCount_9 : decode cX10_subscriberCount 9 = .ok (.bipush 7, 2) := by decide +kernel
theorem dX10_subscriberCount_11 : decode cX10_subscriberCount 11 = .ok (.iaload, 1) := by decide +kernel
theorem dX10_subscriberCount_12 : decode cX10_subscriberCount 12 = .ok (.ireturn, 1) := by decide +kernel
theorem dX10_lacks_0 : decode cX10_lacks 0 = .ok (.aload_n 0, 1) := by decide +kernel
theorem dX10_lacks_1 : decode cX10_lacks 1 = .ok (.aload_n 0, 1) := by decide +kernel
theorem dX10_lacks_2 : decode cX10_lacks 2 = .ok (.iload_n 1, 1) := by decide +kernel
theorem dX10_lacks_3 : decode cX10_lacks 3 = .ok (.invokevirtual 184, 3) := by decide +kernel
theorem dX10_lacks_6 : decode cX10_lacks 6 = .ok (.ifCond .eq 7, 3) := by decide +kernel
theorem dX10_lacks_9 : decode cX10_lacks 9 = .ok (.iconst 0, 1) := by decide +kernel
theorem dX10_lacks_10 : decode cX10_lacks 10 = .ok (.goto 4, 3) := by decide +kernel
theorem dX10_lacks_13 : decode cX10_lacks 13 = .ok (.iconst 1, 1) := by decide +kernel
theorem dX10_lacks_14 : decode cX10_lacks 14 = .ok (.putfield 63, 3) := by decide +kernel
theorem dX10_lacks_17 : decode cX10_lacks 17 = .ok (.aload_n 0, 1) := by decide +kernel
theorem dX10_lacks_18 : decode cX10_lacks 18 = .ok (.getfield 63, 3) := by decide +kernel
theorem dX10_lacks_21 : decode cX10_lacks 21 = .ok (.ifCond .le 7, 3) := by decide +kernel
theorem dX10_lacks_24 : decode cX10_lacks 24 = .ok (.iconst 1, 1) := by decide +kernel
theorem dX10_lacks_25 : decode cX10_lacks 25 = .ok (.goto 4, 3) := by decide +kernel
theorem dX10_lacks_28 : decode cX10_lacks 28 = .ok (.iconst 0, 1) := by decide +kernel
theorem dX10_lacks_29 : decode cX10_lacks 29 = .ok (.ireturn, 1) := by decide +kernel
theorem dX10_state_0 : decode cX10_state 0 = .ok (.aload_n 0, 1) := by decide +kernel
theorem dX10_state_1 : decode cX10_state 1 = .ok (.iload_n 1, 1) := by decide +kernel
theorem dX10_state_2 : decode cX10_state 2 = .ok (.invokevirtual 208, 3) := by decide +kernel
theorem dX10_state_5 : decode cX10_state 5 = .ok (.ifCond .eq 7, 3) := by decide +kernel
theorem dX10_state_8 : decode cX10_state 8 = .ok (.iconst 0, 1) := by decide +kernel
theorem dX10_state_9 : decode cX10_state 9 = .ok (.goto 9, 3) := by decide +kernel
theorem dX10_state_12 : decode cX10_state 12 = .ok (.aload_n 0, 1) := by decide +kernel
theorem dX10_state_13 : decode cX10_state 13 = .ok (.iload_n 1, 1) := by decide +kernel
theorem dX10_state_14 : decode cX10_state 14 = .ok (.iconst 3, 1) := by decide +kernel
theorem dX10_state_15 : decode cX10_state 15 = .ok (.invokevirtual 169, 3) := by decide +kernel
theorem dX10_state_18 : decode cX10_state 18 = .ok (.ireturn, 1) := by decide +kernel
theorem dX10_shares_0 : decode cX10_shares 0 = .ok (.aload_n 0, 1) := by decide +kernel
theorem dX10_shares_1 : decode cX10_shares 1 = .ok (.iload_n 1, 1) := by decide +kernel
theorem dX10_shares_2 : decode cX10_shares 2 = .ok (.invokevirtual 208, 3) := by decide +kernel
theorem dX10_shares_5 : decode cX10_shares 5 = .ok (.ifCond .eq 7, 3) := by decide +kernel
theorem dX10_shares_8 : decode cX10_shares 8 = .ok (.iconst 0, 1) := by decide +kernel
theorem dX10_shares_9 : decode cX10_shares 9 = .ok (.goto 9, 3) := by decide +kernel
theorem dX10_shares_12 : decode cX10_shares 12 = .ok (.aload_n 0, 1) := by decide +kernel
theorem dX10_shares_13 : decode cX10_shares 13 = .ok (.iload_n 1, 1) := by decide +kernel
theorem dX10_shares_14 : decode cX10_shares 14 = .ok (.iconst 4, 1) := by decide +kernel
theorem dX10_shares_15 : decode cX10_shares 15 = .ok (.invokevirtual 169, 3) := by decide +kernel
theorem dX10_shares_18 : decode cX10_shares 18 = .ok (.ireturn, 1) := by decide +kernel
theorem dX10_freeShares_0 : decode cX10_freeShares 0 = .ok (.aload_n 0, 1) := by decide +kernel
theorem dX10_freeShares_1 : decode cX10_freeShares 1 = .ok (.iconst 0, 1) := by decide +kernel
theorem dX10_freeShares_2 : decode cX10_freeShares 2 = .ok (.putfield 63, 3) := by decide +kernel
theorem dX10_freeShares_5 : decode cX10_freeShares 5 = .ok (.aload_n 0, 1) := by decide +kernel
theorem dX10_freeShares_6 : decode cX10_freeShares 6 = .ok (.invokevirtual 172, 3) := by decide +kernel
theorem dX10_freeShares_9 : decode cX10_freeShares 9 = .ok (.ireturn, 1) := by decide +kernel
theorem dX10_waitingPlace_0 : decode cX10_waitingPlace 0 = .ok (.aload_n 0, 1) := by decide +kernel
theorem dX10_waitingPlace_1 : decode cX10_waitingPlace 1 = .ok (.iload_n 1, 1) := by decide +kernel
theorem dX10_waitingPlace_2 : decode cX10_waitingPlace 2 = .ok (.invokevirtual 208, 3) := by decide +kernel
theorem dX10_waitingPlace_5 : decode cX10_waitingPlace 5 = .ok (.ifCond .eq 7, 3) := by decide +kernel
theorem dX10_waitingPlace_8 : decode cX10_waitingPlace 8 = .ok (.iconst 0, 1) := by decide +kernel
theorem dX10_waitingPlace_9 : decode cX10_waitingPlace 9 = .ok (.goto 21, 3) := by decide +kernel
theorem dX10_waitingPlace_12 : decode cX10_waitingPlace 12 = .ok (.aload_n 0, 1) := by decide +kernel
theorem dX10_waitingPlace_13 : decode cX10_waitingPlace 13 = .ok (.iload_n 1, 1) := by decide +kernel
theorem dX10_waitingPlace_14 : decode cX10_waitingPlace 14 = .ok (.iconst 3, 1) := by decide +kernel
theorem dX10_waitingPlace_15 : decode cX10_waitingPlace 15 = .ok (.invokevirtual 169, 3) := by decide +kernel
theorem dX10_waitingPlace_18 : decode cX10_waitingPlace 18 = .ok (.ifCond .ne 11, 3) := by decide +kernel
theorem dX10_waitingPlace_21 : decode cX10_waitingPlace 21 = .ok (.aload_n 0, 1) := by decide +kernel
theorem dX10_waitingPlace_22 : decode cX10_waitingPlace 22 = .ok (.iload_n 1, 1) := by decide +kernel
theorem dX10_waitingPlace_23 : decode cX10_waitingPlace 23 = .ok (.invokevirtual 211, 3) := by decide +kernel
theorem dX10_waitingPlace_26 : decode cX10_waitingPlace 26 = .ok (.goto 4, 3) := by decide +kernel
theorem dX10_waitingPlace_29 : decode cX10_waitingPlace 29 = .ok (.iconst (-1), 1) := by decide +kernel
theorem dX10_waitingPlace_30 : decode cX10_waitingPlace 30 = .ok (.ireturn, 1) := by decide +kernel
theorem dX10_daysAt_0 : decode cX10_daysAt 0 = .ok (.sipush 148, 3) := by decide +kernel
theorem dX10_daysAt_3 : decode cX10_daysAt 3 = .ok (.bipush 16, 2) := by decide +kernel
theorem dX10_daysAt_5 : decode cX10_daysAt 5 = .ok (.iload_n 1, 1) := by decide +kernel
theorem dX10_daysAt_6 : decode cX10_daysAt 6 = .ok (.imul, 1) := by decide +kernel
theorem dX10_daysAt_7 : decode cX10_daysAt 7 = .ok (.iadd, 1) := by decide +kernel
theorem dX10_daysAt_8 : decode cX10_daysAt 8 = .ok (.iload_n 2, 1) := by decide +kernel
theorem dX10_daysAt_9 : decode cX10_daysAt 9 = .ok (.iadd, 1) := by decide +kernel
theorem dX10_daysAt_10 : decode cX10_daysAt 10 = .ok (.ireturn, 1) := by decide +kernel
theorem dX10_passDays_0 : decode cX10_passDays 0 = .ok (.aload_n 0, 1) := by decide +kernel
theorem dX10_passDays_1 : decode cX10_passDays 1 = .ok (.iload_n 1, 1) := by decide +kernel
theorem dX10_passDays_2 : decode cX10_passDays 2 = .ok (.i2l, 1) := by decide +kernel
theorem dX10_passDays_3 : decode cX10_passDays 3 = .ok (.lconst 1, 1) := by decide +kernel
theorem dX10_passDays_4 : decode cX10_passDays 4 = .ok (.ldc2_w 214, 3) := by decide +kernel
theorem dX10_passDays_7 : decode cX10_passDays 7 = .ok (.invokestatic 104, 3) := by decide +kernel
theorem dX10_passDays_10 : decode cX10_passDays 10 = .ok (.ifCond .ne 7, 3) := by decide +kernel
theorem dX10_passDays_13 : decode cX10_passDays 13 = .ok (.iconst 1, 1) := by decide +kernel
theorem dX10_passDays_14 : decode cX10_passDays 14 = .ok (.goto 22, 3) := by decide +kernel
theorem dX10_passDays_17 : decode cX10_passDays 17 = .ok (.aload_n 0, 1) := by decide +kernel
theorem dX10_passDays_18 : decode cX10_passDays 18 = .ok (.getfield 7, 3) := by decide +kernel
theorem dX10_passDays_21 : decode cX10_passDays 21 = .ok (.bipush 6, 2) := by decide +kernel
theorem dX10_passDays_23 : decode cX10_passDays 23 = .ok (.iaload, 1) := by decide +kernel
theorem dX10_passDays_24 : decode cX10_passDays 24 = .ok (.iload_n 1, 1) := by decide +kernel
theorem dX10_passDays_25 : decode cX10_passDays 25 = .ok (.iadd, 1) := by decide +kernel
theorem dX10_passDays_26 : decode cX10_passDays 26 = .ok (.bipush 30, 2) := by decide +kernel
theorem dX10_passDays_28 : decode cX10_passDays 28 = .ok (.if_icmp .le 7, 3) := by decide +kernel
theorem dX10_passDays_31 : decode cX10_passDays 31 = .ok (.iconst 2, 1) := by decide +kernel
theorem dX10_passDays_32 : decode cX10_passDays 32 = .ok (.goto 4, 3) := by decide +kernel
theorem dX10_passDays_35 : decode cX10_passDays 35 = .ok (.iconst 0, 1) := by decide +kernel
theorem dX10_passDays_36 : decode cX10_passDays 36 = .ok (.putfield 63, 3) := by decide +kernel
theorem dX10_passDays_39 : decode cX10_passDays 39 = .ok (.aload_n 0, 1) := by decide +kernel
theorem dX10_passDays_40 : decode cX10_passDays 40 = .ok (.getfield 63, 3) := by decide +kernel
theorem dX10_passDays_43 : decode cX10_passDays 43 = .ok (.ifCond .le 5, 3) := by decide +kernel
theorem dX10_passDays_46 : decode cX10_passDays 46 = .ok (.iconst 0, 1) := by decide +kernel
theorem dX10_passDays_47 : decode cX10_passDays 47 = .ok (.ireturn, 1) := by decide +kernel
theorem dX10_passDays_48 : decode cX10_passDays 48 = .ok (.aload_n 0, 1) := by decide +kernel
theorem dX10_passDays_49 : decode cX10_passDays 49 = .ok (.invokevirtual 157, 3) := by decide +kernel
theorem dX10_passDays_52 : decode cX10_passDays 52 = .ok (.aload_n 0, 1) := by decide +kernel
theorem dX10_passDays_53 : decode cX10_passDays 53 = .ok (.getfield 7, 3) := by decide +kernel
theorem dX10_passDays_56 : decode cX10_passDays 56 = .ok (.bipush 6, 2) := by decide +kernel
theorem dX10_passDays_58 : decode cX10_passDays 58 = .ok (.dup2, 1) := by decide +kernel
theorem dX10_passDays_59 : decode cX10_passDays 59 = .ok (.iaload, 1) := by decide +kernel
theorem dX10_passDays_60 : decode cX10_passDays 60 = .ok (.iload_n 1, 1) := by decide +kernel
theorem dX10_passDays_61 : decode cX10_passDays 61 = .ok (.iadd, 1) := by decide +kernel
theorem dX10_passDays_62 : decode cX10_passDays 62 = .ok (.iastore, 1) := by decide +kernel
theorem dX10_passDays_63 : decode cX10_passDays 63 = .ok (.iconst 0, 1) := by decide +kernel
theorem dX10_passDays_64 : decode cX10_passDays 64 = .ok (.istore_n 2, 1) := by decide +kernel
theorem dX10_passDays_65 : decode cX10_passDays 65 = .ok (.iload_n 2, 1) := by decide +kernel
theorem dX10_passDays_66 : decode cX10_passDays 66 = .ok (.aload_n 0, 1) := by decide +kernel
theorem dX10_passDays_67 : decode cX10_passDays 67 = .ok (.getfield 7, 3) := by decide +kernel
theorem dX10_passDays_70 : decode cX10_passDays 70 = .ok (.bipush 7, 2) := by decide +kernel
theorem dX10_passDays_72 : decode cX10_passDays 72 = .ok (.iaload, 1) := by decide +kernel
theorem dX10_passDays_73 : decode cX10_passDays 73 = .ok (.if_icmp .ge 36, 3) := by decide +kernel
theorem dX10_passDays_76 : decode cX10_passDays 76 = .ok (.aload_n 0, 1) := by decide +kernel
theorem dX10_passDays_77 : decode cX10_passDays 77 = .ok (.getfield 7, 3) := by decide +kernel
theorem dX10_passDays_80 : decode cX10_passDays 80 = .ok (.aload_n 0, 1) := by decide +kernel
theorem dX10_passDays_81 : decode cX10_passDays 81 = .ok (.aload_n 0, 1) := by decide +kernel
theorem dX10_passDays_82 : decode cX10_passDays 82 = .ok (.getfield 7, 3) := by decide +kernel
theorem dX10_passDays_85 : decode cX10_passDays 85 = .ok (.iconst 5, 1) := by decide +kernel
theorem dX10_passDays_86 : decode cX10_passDays 86 = .ok (.iaload, 1) := by decide +kernel
theorem dX10_passDays_87 : decode cX10_passDays 87 = .ok (.iload_n 2, 1) := by decide +kernel
theorem dX10_passDays_88 : decode cX10_passDays 88 = .ok (.invokevirtual 216, 3) := by decide +kernel
theorem dX10_passDays_91 : decode cX10_passDays 91 = .ok (.dup2, 1) := by decide +kernel
theorem dX10_passDays_92 : decode cX10_passDays 92 = .ok (.iaload, 1) := by decide +kernel
theorem dX10_passDays_93 : decode cX10_passDays 93 = .ok (.iload_n 1, 1) := by decide +kernel
theorem dX10_passDays_94 : decode cX10_passDays 94 = .ok (.aload_n 0, 1) := by decide +kernel
theorem dX10_passDays_95 : decode cX10_passDays 95 = .ok (.iload_n 2, 1) := by decide +kernel
theorem dX10_passDays_96 : decode cX10_passDays 96 = .ok (.iconst 4, 1) := by decide +kernel
theorem dX10_passDays_97 : decode cX10_passDays 97 = .ok (.invokevirtual 169, 3) := by decide +kernel
theorem dX10_passDays_100 : decode cX10_passDays 100 = .ok (.imul, 1) := by decide +kernel
theorem dX10_passDays_101 : decode cX10_passDays 101 = .ok (.iadd, 1) := by decide +kernel
theorem dX10_passDays_102 : decode cX10_passDays 102 = .ok (.iastore, 1) := by decide +kernel
theorem dX10_passDays_103 : decode cX10_passDays 103 = .ok (.iinc 2 1, 3) := by decide +kernel
theorem dX10_passDays_106 : decode cX10_passDays 106 = .ok (.goto (-41), 3) := by decide +kernel
theorem dX10_passDays_109 : decode cX10_passDays 109 = .ok (.aload_n 0, 1) := by decide +kernel
theorem dX10_passDays_110 : decode cX10_passDays 110 = .ok (.getfield 7, 3) := by decide +kernel
theorem dX10_passDays_113 : decode cX10_passDays 113 = .ok (.bipush 6, 2) := by decide +kernel
theorem dX10_passDays_115 : decode cX10_passDays 115 = .ok (.iaload, 1) := by decide +kernel
theorem dX10_passDays_116 : decode cX10_passDays 116 = .ok (.ireturn, 1) := by decide +kernel
theorem dX10_generatedAt_0 : decode cX10_generatedAt 0 = .ok (.sipush 1108, 3) := by decide +kernel
theorem dX10_generatedAt_3 : decode cX10_generatedAt 3 = .ok (.iconst 4, 1) := by decide +kernel
theorem dX10_generatedAt_4 : decode cX10_generatedAt 4 = .ok (.iload_n 1, 1) := by decide +kernel
theorem dX10_generatedAt_5 : decode cX10_generatedAt 5 = .ok (.imul, 1) := by decide +kernel
theorem dX10_generatedAt_6 : decode cX10_generatedAt 6 = .ok (.iadd, 1) := by decide +kernel
theorem dX10_generatedAt_7 : decode cX10_generatedAt 7 = .ok (.iload_n 2, 1) := by decide +kernel
theorem dX10_generatedAt_8 : decode cX10_generatedAt 8 = .ok (.iadd, 1) := by decide +kernel
theorem dX10_generatedAt_9 : decode cX10_generatedAt 9 = .ok (.ireturn, 1) := by decide +kernel
theorem dX10_generate_0 : decode cX10_generate 0 = .ok (.aload_n 0, 1) := by decide +kernel
theorem dX10_generate_1 : decode cX10_generate 1 = .ok (.iload_n 1, 1) := by decide +kernel
theorem dX10_generate_2 : decode cX10_generate 2 = .ok (.i2l, 1) := by decide +kernel
theorem dX10_generate_3 : decode cX10_generate 3 = .ok (.lconst 0, 1) := by decide +kernel
theorem dX10_generate_4 : decode cX10_generate 4 = .ok (.ldc2_w 167, 3) := by decide +kernel
theorem dX10_generate_7 : decode cX10_generate 7 = .ok (.invokestatic 104, 3) := by decide +kernel
theorem dX10_generate_10 : decode cX10_generate 10 = .ok (.ifCond .ne 7, 3) := by decide +kernel
theorem dX10_generate_13 : decode cX10_generate 13 = .ok (.iconst 1, 1) := by decide +kernel
theorem dX10_generate_14 : decode cX10_generate 14 = .ok (.goto 20, 3) := by decide +kernel
theorem dX10_generate_17 : decode cX10_generate 17 = .ok (.iload_n 2, 1) := by decide +kernel
theorem dX10_generate_18 : decode cX10_generate 18 = .ok (.i2l, 1) := by decide +kernel
theorem dX10_generate_19 : decode cX10_generate 19 = .ok (.lconst 1, 1) := by decide +kernel
theorem dX10_generate_20 : decode cX10_generate 20 = .ok (.ldc2_w 219, 3) := by decide +kernel
theorem dX10_generate_23 : decode cX10_generate 23 = .ok (.invokestatic 104, 3) := by decide +kernel
theorem dX10_generate_26 : decode cX10_generate 26 = .ok (.ifCond .ne 7, 3) := by decide +kernel
theorem dX10_generate_29 : decode cX10_generate 29 = .ok (.iconst 2, 1) := by decide +kernel
theorem dX10_generate_30 : decode cX10_generate 30 = .ok (.goto 4, 3) := by decide +kernel
theorem dX10_generate_33 : decode cX10_generate 33 = .ok (.iconst 0, 1) := by decide +kernel
theorem dX10_generate_34 : decode cX10_generate 34 = .ok (.putfield 63, 3) := by decide +kernel
theorem dX10_generate_37 : decode cX10_generate 37 = .ok (.aload_n 0, 1) := by decide +kernel
theorem dX10_generate_38 : decode cX10_generate 38 = .ok (.getfield 63, 3) := by decide +kernel
theorem dX10_generate_41 : decode cX10_generate 41 = .ok (.ifCond .le 5, 3) := by decide +kernel
theorem dX10_generate_44 : decode cX10_generate 44 = .ok (.iconst 0, 1) := by decide +kernel
theorem dX10_generate_45 : decode cX10_generate 45 = .ok (.ireturn, 1) := by decide +kernel
theorem dX10_generate_46 : decode cX10_generate 46 = .ok (.aload_n 0, 1) := by decide +kernel
theorem dX10_generate_47 : decode cX10_generate 47 = .ok (.aload_n 0, 1) := by decide +kernel
theorem dX10_generate_48 : decode cX10_generate 48 = .ok (.getfield 7, 3) := by decide +kernel
theorem dX10_generate_51 : decode cX10_generate 51 = .ok (.iconst 5, 1) := by decide +kernel
theorem dX10_generate_52 : decode cX10_generate 52 = .ok (.iaload, 1) := by decide +kernel
theorem dX10_generate_53 : decode cX10_generate 53 = .ok (.aload_n 0, 1) := by decide +kernel
theorem dX10_generate_54 : decode cX10_generate 54 = .ok (.getfield 7, 3) := by decide +kernel
theorem dX10_generate_57 : decode cX10_generate 57 = .ok (.bipush 8, 2) := by decide +kernel
theorem dX10_generate_59 : decode cX10_generate 59 = .ok (.iload_n 1, 1) := by decide +kernel
theorem dX10_generate_60 : decode cX10_generate 60 = .ok (.iadd, 1) := by decide +kernel
theorem dX10_generate_61 : decode cX10_generate 61 = .ok (.iaload, 1) := by decide +kernel
theorem dX10_generate_62 : decode cX10_generate 62 = .ok (.invokevirtual 221, 3) := by decide +kernel
theorem dX10_generate_65 : decode cX10_generate 65 = .ok (.istore_n 3, 1) := by decide +kernel
theorem dX10_generate_66 : decode cX10_generate 66 = .ok (.aload_n 0, 1) := by decide +kernel
theorem dX10_generate_67 : decode cX10_generate 67 = .ok (.aload_n 0, 1) := by decide +kernel
theorem dX10_generate_68 : decode cX10_generate 68 = .ok (.getfield 7, 3) := by decide +kernel
theorem dX10_generate_71 : decode cX10_generate 71 = .ok (.iload_n 3, 1) := by decide +kernel
theorem dX10_generate_72 : decode cX10_generate 72 = .ok (.iaload, 1) := by decide +kernel
theorem dX10_generate_73 : decode cX10_generate 73 = .ok (.i2l, 1) := by decide +kernel
theorem dX10_generate_74 : decode cX10_generate 74 = .ok (.iload_n 2, 1) := by decide +kernel
theorem dX10_generate_75 : decode cX10_generate 75 = .ok (.i2l, 1) := by decide +kernel
theorem dX10_generate_76 : decode cX10_generate 76 = .ok (.ladd, 1) := by decide +kernel
theorem dX10_generate_77 : decode cX10_generate 77 = .ok (.ldc2_w 219, 3) := by decide +kernel
theorem dX10_generate_80 : decode cX10_generate 80 = .ok (.lcmp, 1) := by decide +kernel
theorem dX10_generate_81 : decode cX10_generate 81 = .ok (.ifCond .le 7, 3) := by decide +kernel
theorem dX10_generate_84 : decode cX10_generate 84 = .ok (.iconst 3, 1) := by decide +kernel
theorem dX10_generate_85 : decode cX10_generate 85 = .ok (.goto 4, 3) := by decide +kernel
theorem dX10_generate_88 : decode cX10_generate 88 = .ok (.iconst 0, 1) := by decide +kernel
theorem dX10_generate_89 : decode cX10_generate 89 = .ok (.putfield 63, 3) := by decide +kernel
theorem dX10_generate_92 : decode cX10_generate 92 = .ok (.aload_n 0, 1) := by decide +kernel
theorem dX10_generate_93 : decode cX10_generate 93 = .ok (.getfield 63, 3) := by decide +kernel
theorem dX10_generate_96 : decode cX10_generate 96 = .ok (.ifCond .le 5, 3) := by decide +kernel
theorem dX10_generate_99 : decode cX10_generate 99 = .ok (.iconst 0, 1) := by decide +kernel
theorem dX10_generate_100 : decode cX10_generate 100 = .ok (.ireturn, 1) := by decide +kernel
theorem dX10_generate_101 : decode cX10_generate 101 = .ok (.aload_n 0, 1) := by decide +kernel
theorem dX10_generate_102 : decode cX10_generate 102 = .ok (.invokevirtual 157, 3) := by decide +kernel
theorem dX10_generate_105 : decode cX10_generate 105 = .ok (.aload_n 0, 1) := by decide +kernel
theorem dX10_generate_106 : decode cX10_generate 106 = .ok (.getfield 7, 3) := by decide +kernel
theorem dX10_generate_109 : decode cX10_generate 109 = .ok (.iload_n 3, 1) := by decide +kernel
theorem dX10_generate_110 : decode cX10_generate 110 = .ok (.dup2, 1) := by decide +kernel
theorem dX10_generate_111 : decode cX10_generate 111 = .ok (.iaload, 1) := by decide +kernel
theorem dX10_generate_112 : decode cX10_generate 112 = .ok (.iload_n 2, 1) := by decide +kernel
theorem dX10_generate_113 : decode cX10_generate 113 = .ok (.iadd, 1) := by decide +kernel
theorem dX10_generate_114 : decode cX10_generate 114 = .ok (.iastore, 1) := by decide +kernel
theorem dX10_generate_115 : decode cX10_generate 115 = .ok (.aload_n 0, 1) := by decide +kernel
theorem dX10_generate_116 : decode cX10_generate 116 = .ok (.getfield 7, 3) := by decide +kernel
theorem dX10_generate_119 : decode cX10_generate 119 = .ok (.iload_n 3, 1) := by decide +kernel
theorem dX10_generate_120 : decode cX10_generate 120 = .ok (.iaload, 1) := by decide +kernel
theorem dX10_generate_121 : decode cX10_generate 121 = .ok (.ireturn, 1) := by decide +kernel
theorem dX10_bill_0 : decode cX10_bill 0 = .ok (.aload_n 0, 1) := by decide +kernel
theorem dX10_bill_1 : decode cX10_bill 1 = .ok (.aload_n 0, 1) := by decide +kernel
theorem dX10_bill_2 : decode cX10_bill 2 = .ok (.iload_n 1, 1) := by decide +kernel
theorem dX10_bill_3 : decode cX10_bill 3 = .ok (.invokevirtual 184, 3) := by decide +kernel
theorem dX10_bill_6 : decode cX10_bill 6 = .ok (.ifCond .ne 7, 3) := by decide +kernel
theorem dX10_bill_9 : decode cX10_bill 9 = .ok (.iconst 1, 1) := by decide +kernel
theorem dX10_bill_10 : decode cX10_bill 10 = .ok (.goto 20, 3) := by decide +kernel
theorem dX10_bill_13 : decode cX10_bill 13 = .ok (.iload_n 2, 1) := by decide +kernel
theorem dX10_bill_14 : decode cX10_bill 14 = .ok (.i2l, 1) := by decide +kernel
theorem dX10_bill_15 : decode cX10_bill 15 = .ok (.lconst 1, 1) := by decide +kernel
theorem dX10_bill_16 : decode cX10_bill 16 = .ok (.ldc2_w 219, 3) := by decide +kernel
theorem dX10_bill_19 : decode cX10_bill 19 = .ok (.invokestatic 104, 3) := by decide +kernel
theorem dX10_bill_22 : decode cX10_bill 22 = .ok (.ifCond .ne 7, 3) := by decide +kernel
theorem dX10_bill_25 : decode cX10_bill 25 = .ok (.iconst 2, 1) := by decide +kernel
theorem dX10_bill_26 : decode cX10_bill 26 = .ok (.goto 4, 3) := by decide +kernel
theorem dX10_bill_29 : decode cX10_bill 29 = .ok (.iconst 0, 1) := by decide +kernel
theorem dX10_bill_30 : decode cX10_bill 30 = .ok (.putfield 63, 3) := by decide +kernel
theorem dX10_bill_33 : decode cX10_bill 33 = .ok (.aload_n 0, 1) := by decide +kernel
theorem dX10_bill_34 : decode cX10_bill 34 = .ok (.getfield 63, 3) := by decide +kernel
theorem dX10_bill_37 : decode cX10_bill 37 = .ok (.ifCond .le 5, 3) := by decide +kernel
theorem dX10_bill_40 : decode cX10_bill 40 = .ok (.lconst 0, 1) := by decide +kernel
theorem dX10_bill_41 : decode cX10_bill 41 = .ok (.lreturn, 1) := by decide +kernel
theorem dX10_bill_42 : decode cX10_bill 42 = .ok (.aload_n 0, 1) := by decide +kernel
theorem dX10_bill_43 : decode cX10_bill 43 = .ok (.iload_n 1, 1) := by decide +kernel
theorem dX10_bill_44 : decode cX10_bill 44 = .ok (.iconst 1, 1) := by decide +kernel
theorem dX10_bill_45 : decode cX10_bill 45 = .ok (.invokevirtual 197, 3) := by decide +kernel
theorem dX10_bill_48 : decode cX10_bill 48 = .ok (.istore_n 3, 1) := by decide +kernel
theorem dX10_bill_49 : decode cX10_bill 49 = .ok (.aload_n 0, 1) := by decide +kernel
theorem dX10_bill_50 : decode cX10_bill 50 = .ok (.aload_n 0, 1) := by decide +kernel
theorem dX10_bill_51 : decode cX10_bill 51 = .ok (.iload_n 1, 1) := by decide +kernel
theorem dX10_bill_52 : decode cX10_bill 52 = .ok (.invokevirtual 187, 3) := by decide +kernel
theorem dX10_bill_55 : decode cX10_bill 55 = .ok (.ifCond .eq 19, 3) := by decide +kernel
theorem dX10_bill_58 : decode cX10_bill 58 = .ok (.aload_n 0, 1) := by decide +kernel
theorem dX10_bill_59 : decode cX10_bill 59 = .ok (.getfield 19, 3) := by decide +kernel
theorem dX10_bill_62 : decode cX10_bill 62 = .ok (.iload_n 3, 1) := by decide +kernel
theorem dX10_bill_63 : decode cX10_bill 63 = .ok (.laload, 1) := by decide +kernel
theorem dX10_bill_64 : decode cX10_bill 64 = .ok (.iload_n 2, 1) := by decide +kernel
theorem dX10_bill_65 : decode cX10_bill 65 = .ok (.i2l, 1) := by decide +kernel
theorem dX10_bill_66 : decode cX10_bill 66 = .ok (.ladd, 1) := by decide +kernel
theorem dX10_bill_67 : decode cX10_bill 67 = .ok (.ldc2_w 224, 3) := by decide +kernel
theorem dX10_bill_70 : decode cX10_bill 70 = .ok (.lcmp, 1) := by decide +kernel
theorem dX10_bill_71 : decode cX10_bill 71 = .ok (.ifCond .le 7, 3) := by decide +kernel
theorem dX10_bill_74 : decode cX10_bill 74 = .ok (.iconst 3, 1) := by decide +kernel
theorem dX10_bill_75 : decode cX10_bill 75 = .ok (.goto 4, 3) := by decide +kernel
theorem dX10_bill_78 : decode cX10_bill 78 = .ok (.iconst 0, 1) := by decide +kernel
theorem dX10_bill_79 : decode cX10_bill 79 = .ok (.putfield 63, 3) := by decide +kernel
theorem dX10_bill_82 : decode cX10_bill 82 = .ok (.aload_n 0, 1) := by decide +kernel
theorem dX10_bill_83 : decode cX10_bill 83 = .ok (.getfield 63, 3) := by decide +kernel
theorem dX10_bill_86 : decode cX10_bill 86 = .ok (.ifCond .le 5, 3) := by decide +kernel
theorem dX10_bill_89 : decode cX10_bill 89 = .ok (.lconst 0, 1) := by decide +kernel
theorem dX10_bill_90 : decode cX10_bill 90 = .ok (.lreturn, 1) := by decide +kernel
theorem dX10_bill_91 : decode cX10_bill 91 = .ok (.aload_n 0, 1) := by decide +kernel
theorem dX10_bill_92 : decode cX10_bill 92 = .ok (.invokevirtual 157, 3) := by decide +kernel
theorem dX10_bill_95 : decode cX10_bill 95 = .ok (.aload_n 0, 1) := by decide +kernel
theorem dX10_bill_96 : decode cX10_bill 96 = .ok (.getfield 19, 3) := by decide +kernel
theorem dX10_bill_99 : decode cX10_bill 99 = .ok (.iload_n 3, 1) := by decide +kernel
theorem dX10_bill_100 : decode cX10_bill 100 = .ok (.dup2, 1) := by decide +kernel
theorem dX10_bill_101 : decode cX10_bill 101 = .ok (.laload, 1) := by decide +kernel
theorem dX10_bill_102 : decode cX10_bill 102 = .ok (.iload_n 2, 1) := by decide +kernel
theorem dX10_bill_103 : decode cX10_bill 103 = .ok (.i2l, 1) := by decide +kernel
theorem dX10_bill_104 : decode cX10_bill 104 = .ok (.ladd, 1) := by decide +kernel
theorem dX10_bill_105 : decode cX10_bill 105 = .ok (.lastore, 1) := by decide +kernel
theorem dX10_bill_106 : decode cX10_bill 106 = .ok (.aload_n 0, 1) := by decide +kernel
theorem dX10_bill_107 : decode cX10_bill 107 = .ok (.getfield 19, 3) := by decide +kernel
theorem dX10_bill_110 : decode cX10_bill 110 = .ok (.iload_n 3, 1) := by decide +kernel
theorem dX10_bill_111 : decode cX10_bill 111 = .ok (.laload, 1) := by decide +kernel
theorem dX10_bill_112 : decode cX10_bill 112 = .ok (.lreturn, 1) := by decide +kernel
theorem dX10_divides_0 : decode cX10_divides 0 = .ok (.lload_n 1, 1) := by decide +kernel
theorem dX10_divides_1 : decode cX10_divides 1 = .ok (.lstore 6, 2) := by decide +kernel
theorem dX10_divides_3 : decode cX10_divides 3 = .ok (.iconst 0, 1) := by decide +kernel
theorem dX10_divides_4 : decode cX10_divides 4 = .ok (.istore 8, 2) := by decide +kernel
theorem dX10_divides_6 : decode cX10_divides 6 = .ok (.iload 8, 2) := by decide +kernel
theorem dX10_divides_8 : decode cX10_divides 8 = .ok (.iload_n 3, 1) := by decide +kernel
theorem dX10_divides_9 : decode cX10_divides 9 = .ok (.if_icmp .ge 67, 3) := by decide +kernel
theorem dX10_divides_12 : decode cX10_divides 12 = .ok (.aload_n 0, 1) := by decide +kernel
theorem dX10_divides_13 : decode cX10_divides 13 = .ok (.getfield 36, 3) := by decide +kernel
theorem dX10_divides_16 : decode cX10_divides 16 = .ok (.iload 8, 2) := by decide +kernel
theorem dX10_divides_18 : decode cX10_divides 18 = .ok (.lload_n 1, 1) := by decide +kernel
theorem dX10_divides_19 : decode cX10_divides 19 = .ok (.aload_n 0, 1) := by decide +kernel
theorem dX10_divides_20 : decode cX10_divides 20 = .ok (.getfield 33, 3) := by decide +kernel
theorem dX10_divides_23 : decode cX10_divides 23 = .ok (.iload 8, 2) := by decide +kernel
theorem dX10_divides_25 : decode cX10_divides 25 = .ok (.laload, 1) := by decide +kernel
theorem dX10_divides_26 : decode cX10_divides 26 = .ok (.lmul, 1) := by decide +kernel
theorem dX10_divides_27 : decode cX10_divides 27 = .ok (.lload 4, 2) := by decide +kernel
theorem dX10_divides_29 : decode cX10_divides 29 = .ok (.ldiv, 1) := by decide +kernel
theorem dX10_divides_30 : decode cX10_divides 30 = .ok (.lastore, 1) := by decide +kernel
theorem dX10_divides_31 : decode cX10_divides 31 = .ok (.aload_n 0, 1) := by decide +kernel
theorem dX10_divides_32 : decode cX10_divides 32 = .ok (.getfield 39, 3) := by decide +kernel
theorem dX10_divides_35 : decode cX10_divides 35 = .ok (.iload 8, 2) := by decide +kernel
theorem dX10_divides_37 : decode cX10_divides 37 = .ok (.lload_n 1, 1) := by decide +kernel
theorem dX10_divides_38 : decode cX10_divides 38 = .ok (.aload_n 0, 1) := by decide +kernel
theorem dX10_divides_39 : decode cX10_divides 39 = .ok (.getfield 33, 3) := by decide +kernel
theorem dX10_divides_42 : decode cX10_divides 42 = .ok (.iload 8, 2) := by decide +kernel
theorem dX10_divides_44 : decode cX10_divides 44 = .ok (.laload, 1) := by decide +kernel
theorem dX10_divides_45 : decode cX10_divides 45 = .ok (.lmul, 1) := by decide +kernel
theorem dX10_divides_46 : decode cX10_divides 46 = .ok (.lload 4, 2) := by decide +kernel
theorem dX10_divides_48 : decode cX10_divides 48 = .ok (.lrem, 1) := by decide +kernel
theorem dX10_divides_49 : decode cX10_divides 49 = .ok (.lastore, 1) := by decide +kernel
theorem dX10_divides_50 : decode cX10_divides 50 = .ok (.aload_n 0, 1) := by decide +kernel
theorem dX10_divides_51 : decode cX10_divides 51 = .ok (.getfield 42, 3) := by decide +kernel
theorem dX10_divides_54 : decode cX10_divides 54 = .ok (.iload 8, 2) := by decide +kernel
theorem dX10_divides_56 : decode cX10_divides 56 = .ok (.iconst 0, 1) := by decide +kernel
theorem dX10_divides_57 : decode cX10_divides 57 = .ok (.bastore, 1) := by decide +kernel
theorem dX10_divides_58 : decode cX10_divides 58 = .ok (.lload 6, 2) := by decide +kernel
theorem dX10_divides_60 : decode cX10_divides 60 = .ok (.aload_n 0, 1) := by decide +kernel
theorem dX10_divides_61 : decode cX10_divides 61 = .ok (.getfield 36, 3) := by decide +kernel
theorem dX10_divides_64 : decode cX10_divides 64 = .ok (.iload 8, 2) := by decide +kernel
theorem dX10_divides_66 : decode cX10_divides 66 = .ok (.laload, 1) := by decide +kernel
theorem dX10_divides_67 : decode cX10_divides 67 = .ok (.lsub, 1) := by decide +kernel
theorem dX10_divides_68 : decode cX10_divides 68 = .ok (.lstore 6, 2) := by decide +kernel
theorem dX10_divides_70 : decode cX10_divides 70 = .ok (.iinc 8 1, 3) := by decide +kernel
theorem dX10_divides_73 : decode cX10_divides 73 = .ok (.goto (-67), 3) := by decide +kernel
theorem dX10_divides_76 : decode cX10_divides 76 = .ok (.lload 6, 2) := by decide +kernel
theorem dX10_divides_78 : decode cX10_divides 78 = .ok (.lconst 0, 1) := by decide +kernel
theorem dX10_divides_79 : decode cX10_divides 79 = .ok (.lcmp, 1) := by decide +kernel
theorem dX10_divides_80 : decode cX10_divides 80 = .ok (.ifCond .le 87, 3) := by decide +kernel
theorem dX10_divides_83 : decode cX10_divides 83 = .ok (.iconst (-1), 1) := by decide +kernel
theorem dX10_divides_84 : decode cX10_divides 84 = .ok (.istore 8, 2) := by decide +kernel
theorem dX10_divides_86 : decode cX10_divides 86 = .ok (.iconst 0, 1) := by decide +kernel
theorem dX10_divides_87 : decode cX10_divides 87 = .ok (.istore 9, 2) := by decide +kernel
theorem dX10_divides_89 : decode cX10_divides 89 = .ok (.iload 9, 2) := by decide +kernel
theorem dX10_divides_91 : decode cX10_divides 91 = .ok (.iload_n 3, 1) := by decide +kernel
theorem dX10_divides_92 : decode cX10_divides 92 = .ok (.if_icmp .ge 47, 3) := by decide +kernel
theorem dX10_divides_95 : decode cX10_divides 95 = .ok (.aload_n 0, 1) := by decide +kernel
theorem dX10_divides_96 : decode cX10_divides 96 = .ok (.getfield 42, 3) := by decide +kernel
theorem dX10_divides_99 : decode cX10_divides 99 = .ok (.iload 9, 2) := by decide +kernel
theorem dX10_divides_101 : decode cX10_divides 101 = .ok (.baload, 1) := by decide +kernel
theorem dX10_divides_102 : decode cX10_divides 102 = .ok (.ifCond .ne 31, 3) := by decide +kernel
theorem dX10_divides_105 : decode cX10_divides 105 = .ok (.iload 8, 2) := by decide +kernel
theorem dX10_divides_107 : decode cX10_divides 107 = .ok (.iconst (-1), 1) := by decide +kernel
theorem dX10_divides_108 : decode cX10_divides 108 = .ok (.if_icmp .eq 21, 3) := by decide +kernel
theorem dX10_divides_111 : decode cX10_divides 111 = .ok (.aload_n 0, 1) := by decide +kernel
theorem dX10_divides_112 : decode cX10_divides 112 = .ok (.getfield 39, 3) := by decide +kernel
theorem dX10_divides_115 : decode cX10_divides 115 = .ok (.iload 9, 2) := by decide +kernel
theorem dX10_divides_117 : decode cX10_divides 117 = .ok (.laload, 1) := by decide +kernel
theorem dX10_divides_118 : decode cX10_divides 118 = .ok (.aload_n 0, 1) := by decide +kernel
theorem dX10_divides_119 : decode cX10_divides 119 = .ok (.getfield 39, 3) := by decide +kernel
theorem dX10_divides_122 : decode cX10_divides 122 = .ok (.iload 8, 2) := by decide +kernel
theorem dX10_divides_124 : decode cX10_divides 124 = .ok (.laload, 1) := by decide +kernel
theorem dX10_divides_125 : decode cX10_divides 125 = .ok (.lcmp, 1) := by decide +kernel
theorem dX10_divides_126 : decode cX10_divides 126 = .ok (.ifCond .le 7, 3) := by decide +kernel
theorem dX10_divides_129 : decode cX10_divides 129 = .ok (.iload 9, 2) := by decide +kernel
theorem dX10_divides_131 : decode cX10_divides 131 = .ok (.istore 8, 2) := by decide +kernel
theorem dX10_divides_133 : decode cX10_divides 133 = .ok (.iinc 9 1, 3) := by decide +kernel
theorem dX10_divides_136 : decode cX10_divides 136 = .ok (.goto (-47), 3) := by decide +kernel
theorem dX10_divides_139 : decode cX10_divides 139 = .ok (.aload_n 0, 1) := by decide +kernel
theorem dX10_divides_140 : decode cX10_divides 140 = .ok (.getfield 36, 3) := by decide +kernel
theorem dX10_divides_143 : decode cX10_divides 143 = .ok (.iload 8, 2) := by decide +kernel
theorem dX10_divides_145 : decode cX10_divides 145 = .ok (.dup2, 1) := by decide +kernel
theorem dX10_divides_146 : decode cX10_divides 146 = .ok (.laload, 1) := by decide +kernel
theorem dX10_divides_147 : decode cX10_divides 147 = .ok (.lconst 1, 1) := by decide +kernel
theorem dX10_divides_148 : decode cX10_divides 148 = .ok (.ladd, 1) := by decide +kernel
theorem dX10_divides_149 : decode cX10_divides 149 = .ok (.lastore, 1) := by decide +kernel
theorem dX10_divides_150 : decode cX10_divides 150 = .ok (.aload_n 0, 1) := by decide +kernel
theorem dX10_divides_151 : decode cX10_divides 151 = .ok (.getfield 42, 3) := by decide +kernel
theorem dX10_divides_154 : decode cX10_divides 154 = .ok (.iload 8, 2) := by decide +kernel
theorem dX10_divides_156 : decode cX10_divides 156 = .ok (.iconst 1, 1) := by decide +kernel
theorem dX10_divides_157 : decode cX10_divides 157 = .ok (.bastore, 1) := by decide +kernel
theorem dX10_divides_158 : decode cX10_divides 158 = .ok (.lload 6, 2) := by decide +kernel
theorem dX10_divides_160 : decode cX10_divides 160 = .ok (.lconst 1, 1) := by decide +kernel
theorem dX10_divides_161 : decode cX10_divides 161 = .ok (.lsub, 1) := by decide +kernel
theorem dX10_divides_162 : decode cX10_divides 162 = .ok (.lstore 6, 2) := by decide +kernel
theorem dX10_divides_164 : decode cX10_divides 164 = .ok (.goto (-88), 3) := by decide +kernel
theorem dX10_divides_167 : decode cX10_divides 167 = .ok (.return_, 1) := by decide +kernel
theorem dX10_dividesMonth_0 : decode cX10_dividesMonth 0 = .ok (.ldc2_w 214, 3) := by decide +kernel
theorem dX10_dividesMonth_3 : decode cX10_dividesMonth 3 = .ok (.aload_n 0, 1) := by decide +kernel
theorem dX10_dividesMonth_4 : decode cX10_dividesMonth 4 = .ok (.getfield 7, 3) := by decide +kernel
theorem dX10_dividesMonth_7 : decode cX10_dividesMonth 7 = .ok (.iconst 0, 1) := by decide +kernel
theorem dX10_dividesMonth_8 : decode cX10_dividesMonth 8 = .ok (.iaload, 1) := by decide +kernel
theorem dX10_dividesMonth_9 : decode cX10_dividesMonth 9 = .ok (.i2l, 1) := by decide +kernel
theorem dX10_dividesMonth_10 : decode cX10_dividesMonth 10 = .ok (.lmul, 1) := by decide +kernel
theorem dX10_dividesMonth_11 : decode cX10_dividesMonth 11 = .ok (.lstore 5, 2) := by decide +kernel
theorem dX10_dividesMonth_13 : decode cX10_dividesMonth 13 = .ok (.iconst 0, 1) := by decide +kernel
theorem dX10_dividesMonth_14 : decode cX10_dividesMonth 14 = .ok (.istore 7, 2) := by decide +kernel
theorem dX10_dividesMonth_16 : decode cX10_dividesMonth 16 = .ok (.iload 7, 2) := by decide +kernel
theorem dX10_dividesMonth_18 : decode cX10_dividesMonth 18 = .ok (.aload_n 0, 1) := by decide +kernel
theorem dX10_dividesMonth_19 : decode cX10_dividesMonth 19 = .ok (.getfield 7, 3) := by decide +kernel
theorem dX10_dividesMonth_22 : decode cX10_dividesMonth 22 = .ok (.bipush 7, 2) := by decide +kernel
theorem dX10_dividesMonth_24 : decode cX10_dividesMonth 24 = .ok (.iaload, 1) := by decide +kernel
theorem dX10_dividesMonth_25 : decode cX10_dividesMonth 25 = .ok (.if_icmp .ge 54, 3) := by decide +kernel
theorem dX10_dividesMonth_28 : decode cX10_dividesMonth 28 = .ok (.aload_n 0, 1) := by decide +kernel
theorem dX10_dividesMonth_29 : decode cX10_dividesMonth 29 = .ok (.getfield 33, 3) := by decide +kernel
theorem dX10_dividesMonth_32 : decode cX10_dividesMonth 32 = .ok (.iload 7, 2) := by decide +kernel
theorem dX10_dividesMonth_34 : decode cX10_dividesMonth 34 = .ok (.aload_n 0, 1) := by decide +kernel
theorem dX10_dividesMonth_35 : decode cX10_dividesMonth 35 = .ok (.getfield 7, 3) := by decide +kernel
theorem dX10_dividesMonth_38 : decode cX10_dividesMonth 38 = .ok (.aload_n 0, 1) := by decide +kernel
theorem dX10_dividesMonth_39 : decode cX10_dividesMonth 39 = .ok (.iload_n 3, 1) := by decide +kernel
theorem dX10_dividesMonth_40 : decode cX10_dividesMonth 40 = .ok (.iload 7, 2) := by decide +kernel
theorem dX10_dividesMonth_42 : decode cX10_dividesMonth 42 = .ok (.invokevirtual 216, 3) := by decide +kernel
theorem dX10_dividesMonth_45 : decode cX10_dividesMonth 45 = .ok (.iaload, 1) := by decide +kernel
theorem dX10_dividesMonth_46 : decode cX10_dividesMonth 46 = .ok (.i2l, 1) := by decide +kernel
theorem dX10_dividesMonth_47 : decode cX10_dividesMonth 47 = .ok (.iload 4, 2) := by decide +kernel
theorem dX10_dividesMonth_49 : decode cX10_dividesMonth 49 = .ok (.i2l, 1) := by decide +kernel
theorem dX10_dividesMonth_50 : decode cX10_dividesMonth 50 = .ok (.aload_n 0, 1) := by decide +kernel
theorem dX10_dividesMonth_51 : decode cX10_dividesMonth 51 = .ok (.iload 7, 2) := by decide +kernel
theorem dX10_dividesMonth_53 : decode cX10_dividesMonth 53 = .ok (.iconst 4, 1) := by decide +kernel
theorem dX10_dividesMonth_54 : decode cX10_dividesMonth 54 = .ok (.invokevirtual 169, 3) := by decide +kernel
theorem dX10_dividesMonth_57 : decode cX10_dividesMonth 57 = .ok (.i2l, 1) := by decide +kernel
theorem dX10_dividesMonth_58 : decode cX10_dividesMonth 58 = .ok (.lmul, 1) := by decide +kernel
theorem dX10_dividesMonth_59 : decode cX10_dividesMonth 59 = .ok (.ladd, 1) := by decide +kernel
theorem dX10_dividesMonth_60 : decode cX10_dividesMonth 60 = .ok (.lastore, 1) := by decide +kernel
theorem dX10_dividesMonth_61 : decode cX10_dividesMonth 61 = .ok (.lload 5, 2) := by decide +kernel
theorem dX10_dividesMonth_63 : decode cX10_dividesMonth 63 = .ok (.aload_n 0, 1) := by decide +kernel
theorem dX10_dividesMonth_64 : decode cX10_dividesMonth 64 = .ok (.getfield 33, 3) := by decide +kernel
theorem dX10_dividesMonth_67 : decode cX10_dividesMonth 67 = .ok (.iload 7, 2) := by decide +kernel
theorem dX10_dividesMonth_69 : decode cX10_dividesMonth 69 = .ok (.laload, 1) := by decide +kernel
theorem dX10_dividesMonth_70 : decode cX10_dividesMonth 70 = .ok (.lsub, 1) := by decide +kernel
theorem dX10_dividesMonth_71 : decode cX10_dividesMonth 71 = .ok (.lstore 5, 2) := by decide +kernel
theorem dX10_dividesMonth_73 : decode cX10_dividesMonth 73 = .ok (.iinc 7 1, 3) := by decide +kernel
theorem dX10_dividesMonth_76 : decode cX10_dividesMonth 76 = .ok (.goto (-60), 3) := by decide +kernel
theorem dX10_dividesMonth_79 : decode cX10_dividesMonth 79 = .ok (.aload_n 0, 1) := by decide +kernel
theorem dX10_dividesMonth_80 : decode cX10_dividesMonth 80 = .ok (.getfield 33, 3) := by decide +kernel
theorem dX10_dividesMonth_83 : decode cX10_dividesMonth 83 = .ok (.aload_n 0, 1) := by decide +kernel
theorem dX10_dividesMonth_84 : decode cX10_dividesMonth 84 = .ok (.getfield 7, 3) := by decide +kernel
theorem dX10_dividesMonth_87 : decode cX10_dividesMonth 87 = .ok (.bipush 7, 2) := by decide +kernel
theorem dX10_dividesMonth_89 : decode cX10_dividesMonth 89 = .ok (.iaload, 1) := by decide +kernel
theorem dX10_dividesMonth_90 : decode cX10_dividesMonth 90 = .ok (.lload 5, 2) := by decide +kernel
theorem dX10_dividesMonth_92 : decode cX10_dividesMonth 92 = .ok (.lastore, 1) := by decide +kernel
theorem dX10_dividesMonth_93 : decode cX10_dividesMonth 93 = .ok (.aload_n 0, 1) := by decide +kernel
theorem dX10_dividesMonth_94 : decode cX10_dividesMonth 94 = .ok (.lload_n 1, 1) := by decide +kernel
theorem dX10_dividesMonth_95 : decode cX10_dividesMonth 95 = .ok (.aload_n 0, 1) := by decide +kernel
theorem dX10_dividesMonth_96 : decode cX10_dividesMonth 96 = .ok (.getfield 7, 3) := by decide +kernel
theorem dX10_dividesMonth_99 : decode cX10_dividesMonth 99 = .ok (.bipush 7, 2) := by decide +kernel
theorem dX10_dividesMonth_101 : decode cX10_dividesMonth 101 = .ok (.iaload, 1) := by decide +kernel
theorem dX10_dividesMonth_102 : decode cX10_dividesMonth 102 = .ok (.iconst 1, 1) := by decide +kernel
theorem dX10_dividesMonth_103 : decode cX10_dividesMonth 103 = .ok (.iadd, 1) := by decide +kernel
theorem dX10_dividesMonth_104 : decode cX10_dividesMonth 104 = .ok (.ldc2_w 214, 3) := by decide +kernel
theorem dX10_dividesMonth_107 : decode cX10_dividesMonth 107 = .ok (.aload_n 0, 1) := by decide +kernel
theorem dX10_dividesMonth_108 : decode cX10_dividesMonth 108 = .ok (.getfield 7, 3) := by decide +kernel
theorem dX10_dividesMonth_111 : decode cX10_dividesMonth 111 = .ok (.iconst 0, 1) := by decide +kernel
theorem dX10_dividesMonth_112 : decode cX10_dividesMonth 112 = .ok (.iaload, 1) := by decide +kernel
theorem dX10_dividesMonth_113 : decode cX10_dividesMonth 113 = .ok (.i2l, 1) := by decide +kernel
theorem dX10_dividesMonth_114 : decode cX10_dividesMonth 114 = .ok (.lmul, 1) := by decide +kernel
theorem dX10_dividesMonth_115 : decode cX10_dividesMonth 115 = .ok (.invokevirtual 226, 3) := by decide +kernel
theorem dX10_dividesMonth_118 : decode cX10_dividesMonth 118 = .ok (.return_, 1) := by decide +kernel
theorem dX10_worthOf_0 : decode cX10_worthOf 0 = .ok (.lconst 0, 1) := by decide +kernel
theorem dX10_worthOf_1 : decode cX10_worthOf 1 = .ok (.lstore_n 2, 1) := by decide +kernel
theorem dX10_worthOf_2 : decode cX10_worthOf 2 = .ok (.iconst 0, 1) := by decide +kernel
theorem dX10_worthOf_3 : decode cX10_worthOf 3 = .ok (.istore 4, 2) := by decide +kernel
theorem dX10_worthOf_5 : decode cX10_worthOf 5 = .ok (.iload 4, 2) := by decide +kernel
theorem dX10_worthOf_7 : decode cX10_worthOf 7 = .ok (.aload_n 0, 1) := by decide +kernel
theorem dX10_worthOf_8 : decode cX10_worthOf 8 = .ok (.getfield 7, 3) := by decide +kernel
theorem dX10_worthOf_11 : decode cX10_worthOf 11 = .ok (.iconst 4, 1) := by decide +kernel
theorem dX10_worthOf_12 : decode cX10_worthOf 12 = .ok (.iaload, 1) := by decide +kernel
theorem dX10_worthOf_13 : decode cX10_worthOf 13 = .ok (.if_icmp .ge 37, 3) := by decide +kernel
theorem dX10_worthOf_16 : decode cX10_worthOf 16 = .ok (.lload_n 2, 1) := by decide +kernel
theorem dX10_worthOf_17 : decode cX10_worthOf 17 = .ok (.aload_n 0, 1) := by decide +kernel
theorem dX10_worthOf_18 : decode cX10_worthOf 18 = .ok (.getfield 7, 3) := by decide +kernel
theorem dX10_worthOf_21 : decode cX10_worthOf 21 = .ok (.aload_n 0, 1) := by decide +kernel
theorem dX10_worthOf_22 : decode cX10_worthOf 22 = .ok (.iload_n 1, 1) := by decide +kernel
theorem dX10_worthOf_23 : decode cX10_worthOf 23 = .ok (.iload 4, 2) := by decide +kernel
theorem dX10_worthOf_25 : decode cX10_worthOf 25 = .ok (.invokevirtual 221, 3) := by decide +kernel
theorem dX10_worthOf_28 : decode cX10_worthOf 28 = .ok (.iaload, 1) := by decide +kernel
theorem dX10_worthOf_29 : decode cX10_worthOf 29 = .ok (.i2l, 1) := by decide +kernel
theorem dX10_worthOf_30 : decode cX10_worthOf 30 = .ok (.aload_n 0, 1) := by decide +kernel
theorem dX10_worthOf_31 : decode cX10_worthOf 31 = .ok (.getfield 7, 3) := by decide +kernel
theorem dX10_worthOf_34 : decode cX10_worthOf 34 = .ok (.bipush 32, 2) := by decide +kernel
theorem dX10_worthOf_36 : decode cX10_worthOf 36 = .ok (.iload 4, 2) := by decide +kernel
theorem dX10_worthOf_38 : decode cX10_worthOf 38 = .ok (.iadd, 1) := by decide +kernel
theorem dX10_worthOf_39 : decode cX10_worthOf 39 = .ok (.iaload, 1) := by decide +kernel
theorem dX10_worthOf_40 : decode cX10_worthOf 40 = .ok (.i2l, 1) := by decide +kernel
theorem dX10_worthOf_41 : decode cX10_worthOf 41 = .ok (.lmul, 1) := by decide +kernel
theorem dX10_worthOf_42 : decode cX10_worthOf 42 = .ok (.ladd, 1) := by decide +kernel
theorem dX10_worthOf_43 : decode cX10_worthOf 43 = .ok (.lstore_n 2, 1) := by decide +kernel
theorem dX10_worthOf_44 : decode cX10_worthOf 44 = .ok (.iinc 4 1, 3) := by decide +kernel
theorem dX10_worthOf_47 : decode cX10_worthOf 47 = .ok (.goto (-42), 3) := by decide +kernel
theorem dX10_worthOf_50 : decode cX10_worthOf 50 = .ok (.lload_n 2, 1) := by decide +kernel
theorem dX10_worthOf_51 : decode cX10_worthOf 51 = .ok (.lreturn, 1) := by decide +kernel
theorem dX10_isNext_0 : decode cX10_isNext 0 = .ok (.aload_n 0, 1) := by decide +kernel
theorem dX10_isNext_1 : decode cX10_isNext 1 = .ok (.getfield 49, 3) := by decide +kernel
theorem dX10_isNext_4 : decode cX10_isNext 4 = .ok (.iload_n 1, 1) := by decide +kernel
theorem dX10_isNext_5 : decode cX10_isNext 5 = .ok (.baload, 1) := by decide +kernel
theorem dX10_isNext_6 : decode cX10_isNext 6 = .ok (.ifCond .eq 5, 3) := by decide +kernel
theorem dX10_isNext_9 : decode cX10_isNext 9 = .ok (.iconst 0, 1) := by decide +kernel
theorem dX10_isNext_10 : decode cX10_isNext 10 = .ok (.ireturn, 1) := by decide +kernel
theorem dX10_isNext_11 : decode cX10_isNext 11 = .ok (.iconst 0, 1) := by decide +kernel
theorem dX10_isNext_12 : decode cX10_isNext 12 = .ok (.istore_n 2, 1) := by decide +kernel
theorem dX10_isNext_13 : decode cX10_isNext 13 = .ok (.iload_n 2, 1) := by decide +kernel
theorem dX10_isNext_14 : decode cX10_isNext 14 = .ok (.aload_n 0, 1) := by decide +kernel
theorem dX10_isNext_15 : decode cX10_isNext 15 = .ok (.getfield 7, 3) := by decide +kernel
theorem dX10_isNext_18 : decode cX10_isNext 18 = .ok (.bipush 7, 2) := by decide +kernel
theorem dX10_isNext_20 : decode cX10_isNext 20 = .ok (.iaload, 1) := by decide +kernel
theorem dX10_isNext_21 : decode cX10_isNext 21 = .ok (.if_icmp .ge 30, 3) := by decide +kernel
theorem dX10_isNext_24 : decode cX10_isNext 24 = .ok (.aload_n 0, 1) := by decide +kernel
theorem dX10_isNext_25 : decode cX10_isNext 25 = .ok (.iload_n 2, 1) := by decide +kernel
theorem dX10_isNext_26 : decode cX10_isNext 26 = .ok (.iconst 5, 1) := by decide +kernel
theorem dX10_isNext_27 : decode cX10_isNext 27 = .ok (.invokevirtual 169, 3) := by decide +kernel
theorem dX10_isNext_30 : decode cX10_isNext 30 = .ok (.iload_n 1, 1) := by decide +kernel
theorem dX10_isNext_31 : decode cX10_isNext 31 = .ok (.if_icmp .ne 14, 3) := by decide +kernel
theorem dX10_isNext_34 : decode cX10_isNext 34 = .ok (.aload_n 0, 1) := by decide +kernel
theorem dX10_isNext_35 : decode cX10_isNext 35 = .ok (.getfield 49, 3) := by decide +kernel
theorem dX10_isNext_38 : decode cX10_isNext 38 = .ok (.iload_n 2, 1) := by decide +kernel
theorem dX10_isNext_39 : decode cX10_isNext 39 = .ok (.baload, 1) := by decide +kernel
theorem dX10_isNext_40 : decode cX10_isNext 40 = .ok (.ifCond .ne 5, 3) := by decide +kernel
theorem dX10_isNext_43 : decode cX10_isNext 43 = .ok (.iconst 0, 1) := by decide +kernel
theorem dX10_isNext_44 : decode cX10_isNext 44 = .ok (.ireturn, 1) := by decide +kernel
theorem dX10_isNext_45 : decode cX10_isNext 45 = .ok (.iinc 2 1, 3) := by decide +kernel
theorem dX10_isNext_48 : decode cX10_isNext 48 = .ok (.goto (-35), 3) := by decide +kernel
theorem dX10_isNext_51 : decode cX10_isNext 51 = .ok (.iconst 1, 1) := by decide +kernel
theorem dX10_isNext_52 : decode cX10_isNext 52 = .ok (.ireturn, 1) := by decide +kernel
theorem dX10_passesOn_0 : decode cX10_passesOn 0 = .ok (.iconst 0, 1) := by decide +kernel
theorem dX10_passesOn_1 : decode cX10_passesOn 1 = .ok (.istore_n 1, 1) := by decide +kernel
theorem dX10_passesOn_2 : decode cX10_passesOn 2 = .ok (.iload_n 1, 1) := by decide +kernel
theorem dX10_passesOn_3 : decode cX10_passesOn 3 = .ok (.aload_n 0, 1) := by decide +kernel
theorem dX10_passesOn_4 : decode cX10_passesOn 4 = .ok (.getfield 7, 3) := by decide +kernel
theorem dX10_passesOn_7 : decode cX10_passesOn 7 = .ok (.bipush 7, 2) := by decide +kernel
theorem dX10_passesOn_9 : decode cX10_passesOn 9 = .ok (.iaload, 1) := by decide +kernel
theorem dX10_passesOn_10 : decode cX10_passesOn 10 = .ok (.if_icmp .ge 16, 3) := by decide +kernel
theorem dX10_passesOn_13 : decode cX10_passesOn 13 = .ok (.aload_n 0, 1) := by decide +kernel
theorem dX10_passesOn_14 : decode cX10_passesOn 14 = .ok (.getfield 49, 3) := by decide +kernel
theorem dX10_passesOn_17 : decode cX10_passesOn 17 = .ok (.iload_n 1, 1) := by decide +kernel
theorem dX10_passesOn_18 : decode cX10_passesOn 18 = .ok (.iconst 0, 1) := by decide +kernel
theorem dX10_passesOn_19 : decode cX10_passesOn 19 = .ok (.bastore, 1) := by decide +kernel
theorem dX10_passesOn_20 : decode cX10_passesOn 20 = .ok (.iinc 1 1, 3) := by decide +kernel
theorem dX10_passesOn_23 : decode cX10_passesOn 23 = .ok (.goto (-21), 3) := by decide +kernel
theorem dX10_passesOn_26 : decode cX10_passesOn 26 = .ok (.iconst 0, 1) := by decide +kernel
theorem dX10_passesOn_27 : decode cX10_passesOn 27 = .ok (.istore_n 1, 1) := by decide +kernel
theorem dX10_passesOn_28 : decode cX10_passesOn 28 = .ok (.iload_n 1, 1) := by decide +kernel
theorem dX10_passesOn_29 : decode cX10_passesOn 29 = .ok (.aload_n 0, 1) := by decide +kernel
theorem dX10_passesOn_30 : decode cX10_passesOn 30 = .ok (.getfield 7, 3) := by decide +kernel
theorem dX10_passesOn_33 : decode cX10_passesOn 33 = .ok (.bipush 7, 2) := by decide +kernel
theorem dX10_passesOn_35 : decode cX10_passesOn 35 = .ok (.iaload, 1) := by decide +kernel
theorem dX10_passesOn_36 : decode cX10_passesOn 36 = .ok (.if_icmp .ge 90, 3) := by decide +kernel
theorem dX10_passesOn_39 : decode cX10_passesOn 39 = .ok (.iconst 0, 1) := by decide +kernel
theorem dX10_passesOn_40 : decode cX10_passesOn 40 = .ok (.istore_n 2, 1) := by decide +kernel
theorem dX10_passesOn_41 : decode cX10_passesOn 41 = .ok (.aload_n 0, 1) := by decide +kernel
theorem dX10_passesOn_42 : decode cX10_passesOn 42 = .ok (.iload_n 2, 1) := by decide +kernel
theorem dX10_passesOn_43 : decode cX10_passesOn 43 = .ok (.invokevirtual 230, 3) := by decide +kernel
theorem dX10_passesOn_46 : decode cX10_passesOn 46 = .ok (.ifCond .ne 9, 3) := by decide +kernel
theorem dX10_passesOn_49 : decode cX10_passesOn 49 = .ok (.iinc 2 1, 3) := by decide +kernel
theorem dX10_passesOn_52 : decode cX10_passesOn 52 = .ok (.goto (-11), 3) := by decide +kernel
theorem dX10_passesOn_55 : decode cX10_passesOn 55 = .ok (.aload_n 0, 1) := by decide +kernel
theorem dX10_passesOn_56 : decode cX10_passesOn 56 = .ok (.getfield 49, 3) := by decide +kernel
theorem dX10_passesOn_59 : decode cX10_passesOn 59 = .ok (.iload_n 2, 1) := by decide +kernel
theorem dX10_passesOn_60 : decode cX10_passesOn 60 = .ok (.iconst 1, 1) := by decide +kernel
theorem dX10_passesOn_61 : decode cX10_passesOn 61 = .ok (.bastore, 1) := by decide +kernel
theorem dX10_passesOn_62 : decode cX10_passesOn 62 = .ok (.aload_n 0, 1) := by decide +kernel
theorem dX10_passesOn_63 : decode cX10_passesOn 63 = .ok (.iload_n 2, 1) := by decide +kernel
theorem dX10_passesOn_64 : decode cX10_passesOn 64 = .ok (.iconst 5, 1) := by decide +kernel
theorem dX10_passesOn_65 : decode cX10_passesOn 65 = .ok (.invokevirtual 169, 3) := by decide +kernel
theorem dX10_passesOn_68 : decode cX10_passesOn 68 = .ok (.istore_n 3, 1) := by decide +kernel
theorem dX10_passesOn_69 : decode cX10_passesOn 69 = .ok (.iload_n 3, 1) := by decide +kernel
theorem dX10_passesOn_70 : decode cX10_passesOn 70 = .ok (.iconst (-1), 1) := by decide +kernel
theorem dX10_passesOn_71 : decode cX10_passesOn 71 = .ok (.if_icmp .ne 6, 3) := by decide +kernel
theorem dX10_passesOn_74 : decode cX10_passesOn 74 = .ok (.goto 46, 3) := by decide +kernel
theorem dX10_passesOn_77 : decode cX10_passesOn 77 = .ok (.aload_n 0, 1) := by decide +kernel
theorem dX10_passesOn_78 : decode cX10_passesOn 78 = .ok (.getfield 46, 3) := by decide +kernel
theorem dX10_passesOn_81 : decode cX10_passesOn 81 = .ok (.iload_n 2, 1) := by decide +kernel
theorem dX10_passesOn_82 : decode cX10_passesOn 82 = .ok (.laload, 1) := by decide +kernel
theorem dX10_passesOn_83 : decode cX10_passesOn 83 = .ok (.aload_n 0, 1) := by decide +kernel
theorem dX10_passesOn_84 : decode cX10_passesOn 84 = .ok (.iload_n 2, 1) := by decide +kernel
theorem dX10_passesOn_85 : decode cX10_passesOn 85 = .ok (.bipush 6, 2) := by decide +kernel
theorem dX10_passesOn_87 : decode cX10_passesOn 87 = .ok (.invokevirtual 169, 3) := by decide +kernel
theorem dX10_passesOn_90 : decode cX10_passesOn 90 = .ok (.i2l, 1) := by decide +kernel
theorem dX10_passesOn_91 : decode cX10_passesOn 91 = .ok (.lmul, 1) := by decide +kernel
theorem dX10_passesOn_92 : decode cX10_passesOn 92 = .ok (.ldc2_w 160, 3) := by decide +kernel
theorem dX10_passesOn_95 : decode cX10_passesOn 95 = .ok (.ldiv, 1) := by decide +kernel
theorem dX10_passesOn_96 : decode cX10_passesOn 96 = .ok (.lstore 4, 2) := by decide +kernel
theorem dX10_passesOn_98 : decode cX10_passesOn 98 = .ok (.aload_n 0, 1) := by decide +kernel
theorem dX10_passesOn_99 : decode cX10_passesOn 99 = .ok (.getfield 46, 3) := by decide +kernel
theorem dX10_passesOn_102 : decode cX10_passesOn 102 = .ok (.iload_n 2, 1) := by decide +kernel
theorem dX10_passesOn_103 : decode cX10_passesOn 103 = .ok (.dup2, 1) := by decide +kernel
theorem dX10_passesOn_104 : decode cX10_passesOn 104 = .ok (.laload, 1) := by decide +kernel
theorem dX10_passesOn_105 : decode cX10_passesOn 105 = .ok (.lload 4, 2) := by decide +kernel
theorem dX10_passesOn_107 : decode cX10_passesOn 107 = .ok (.lsub, 1) := by decide +kernel
theorem dX10_passesOn_108 : decode cX10_passesOn 108 = .ok (.lastore, 1) := by decide +kernel
theorem dX10_passesOn_109 : decode cX10_passesOn 109 = .ok (.aload_n 0, 1) := by decide +kernel
theorem dX10_passesOn_110 : decode cX10_passesOn 110 = .ok (.getfield 46, 3) := by decide +kernel
theorem dX10_passesOn_113 : decode cX10_passesOn 113 = .ok (.iload_n 3, 1) := by decide +kernel
theorem dX10_passesOn_114 : decode cX10_passesOn 114 = .ok (.dup2, 1) := by decide +kernel
theorem dX10_passesOn_115 : decode cX10_passesOn 115 = .ok (.laload, 1) := by decide +kernel
theorem dX10_passesOn_116 : decode cX10_passesOn 116 = .ok (.lload 4, 2) := by decide +kernel
theorem dX10_passesOn_118 : decode cX10_passesOn 118 = .ok (.ladd, 1) := by decide +kernel
theorem dX10_passesOn_119 : decode cX10_passesOn 119 = .ok (.lastore, 1) := by decide +kernel
theorem dX10_passesOn_120 : decode cX10_passesOn 120 = .ok (.iinc 1 1, 3) := by decide +kernel
theorem dX10_passesOn_123 : decode cX10_passesOn 123 = .ok (.goto (-95), 3) := by decide +kernel
theorem dX10_passesOn_126 : decode cX10_passesOn 126 = .ok (.return_, 1) := by decide +kernel
theorem dX10_ends_0 : decode cX10_ends 0 = .ok (.aload_n 0, 1) := by decide +kernel
theorem dX10_ends_1 : decode cX10_ends 1 = .ok (.iload_n 1, 1) := by decide +kernel
theorem dX10_ends_2 : decode cX10_ends 2 = .ok (.aload_n 0, 1) := by decide +kernel
theorem dX10_ends_3 : decode cX10_ends 3 = .ok (.getfield 46, 3) := by decide +kernel
theorem dX10_ends_6 : decode cX10_ends 6 = .ok (.iload_n 1, 1) := by decide +kernel
theorem dX10_ends_7 : decode cX10_ends 7 = .ok (.laload, 1) := by decide +kernel
theorem dX10_ends_8 : decode cX10_ends 8 = .ok (.invokevirtual 233, 3) := by decide +kernel
theorem dX10_ends_11 : decode cX10_ends 11 = .ok (.aload_n 0, 1) := by decide +kernel
theorem dX10_ends_12 : decode cX10_ends 12 = .ok (.iload_n 1, 1) := by decide +kernel
theorem dX10_ends_13 : decode cX10_ends 13 = .ok (.iconst 1, 1) := by decide +kernel
theorem dX10_ends_14 : decode cX10_ends 14 = .ok (.invokevirtual 197, 3) := by decide +kernel
theorem dX10_ends_17 : decode cX10_ends 17 = .ok (.istore_n 2, 1) := by decide +kernel
theorem dX10_ends_18 : decode cX10_ends 18 = .ok (.aload_n 0, 1) := by decide +kernel
theorem dX10_ends_19 : decode cX10_ends 19 = .ok (.iload_n 1, 1) := by decide +kernel
theorem dX10_ends_20 : decode cX10_ends 20 = .ok (.aload_n 0, 1) := by decide +kernel
theorem dX10_ends_21 : decode cX10_ends 21 = .ok (.getfield 19, 3) := by decide +kernel
theorem dX10_ends_24 : decode cX10_ends 24 = .ok (.iload_n 2, 1) := by decide +kernel
theorem dX10_ends_25 : decode cX10_ends 25 = .ok (.laload, 1) := by decide +kernel
theorem dX10_ends_26 : decode cX10_ends 26 = .ok (.iconst 0, 1) := by decide +kernel
theorem dX10_ends_27 : decode cX10_ends 27 = .ok (.invokevirtual 200, 3) := by decide +kernel
theorem dX10_ends_30 : decode cX10_ends 30 = .ok (.lstore_n 3, 1) := by decide +kernel
theorem dX10_ends_31 : decode cX10_ends 31 = .ok (.aload_n 0, 1) := by decide +kernel
theorem dX10_ends_32 : decode cX10_ends 32 = .ok (.getfield 19, 3) := by decide +kernel
theorem dX10_ends_35 : decode cX10_ends 35 = .ok (.aload_n 0, 1) := by decide +kernel
theorem dX10_ends_36 : decode cX10_ends 36 = .ok (.iload_n 1, 1) := by decide +kernel
theorem dX10_ends_37 : decode cX10_ends 37 = .ok (.iconst 4, 1) := by decide +kernel
theorem dX10_ends_38 : decode cX10_ends 38 = .ok (.invokevirtual 197, 3) := by decide +kernel
theorem dX10_ends_41 : decode cX10_ends 41 = .ok (.dup2, 1) := by decide +kernel
theorem dX10_ends_42 : decode cX10_ends 42 = .ok (.laload, 1) := by decide +kernel
theorem dX10_ends_43 : decode cX10_ends 43 = .ok (.aload_n 0, 1) := by decide +kernel
theorem dX10_ends_44 : decode cX10_ends 44 = .ok (.getfield 19, 3) := by decide +kernel
theorem dX10_ends_47 : decode cX10_ends 47 = .ok (.iload_n 2, 1) := by decide +kernel
theorem dX10_ends_48 : decode cX10_ends 48 = .ok (.laload, 1) := by decide +kernel
theorem dX10_ends_49 : decode cX10_ends 49 = .ok (.lload_n 3, 1) := by decide +kernel
theorem dX10_ends_50 : decode cX10_ends 50 = .ok (.lsub, 1) := by decide +kernel
theorem dX10_ends_51 : decode cX10_ends 51 = .ok (.ladd, 1) := by decide +kernel
theorem dX10_ends_52 : decode cX10_ends 52 = .ok (.lastore, 1) := by decide +kernel
theorem dX10_ends_53 : decode cX10_ends 53 = .ok (.aload_n 0, 1) := by decide +kernel
theorem dX10_ends_54 : decode cX10_ends 54 = .ok (.getfield 19, 3) := by decide +kernel
theorem dX10_ends_57 : decode cX10_ends 57 = .ok (.aload_n 0, 1) := by decide +kernel
theorem dX10_ends_58 : decode cX10_ends 58 = .ok (.iload_n 1, 1) := by decide +kernel
theorem dX10_ends_59 : decode cX10_ends 59 = .ok (.iconst 2, 1) := by decide +kernel
theorem dX10_ends_60 : decode cX10_ends 60 = .ok (.invokevirtual 197, 3) := by decide +kernel
theorem dX10_ends_63 : decode cX10_ends 63 = .ok (.dup2, 1) := by decide +kernel
theorem dX10_ends_64 : decode cX10_ends 64 = .ok (.laload, 1) := by decide +kernel
theorem dX10_ends_65 : decode cX10_ends 65 = .ok (.lload_n 3, 1) := by decide +kernel
theorem dX10_ends_66 : decode cX10_ends 66 = .ok (.ladd, 1) := by decide +kernel
theorem dX10_ends_67 : decode cX10_ends 67 = .ok (.lastore, 1) := by decide +kernel
theorem dX10_ends_68 : decode cX10_ends 68 = .ok (.aload_n 0, 1) := by decide +kernel
theorem dX10_ends_69 : decode cX10_ends 69 = .ok (.getfield 19, 3) := by decide +kernel
theorem dX10_ends_72 : decode cX10_ends 72 = .ok (.iload_n 2, 1) := by decide +kernel
theorem dX10_ends_73 : decode cX10_ends 73 = .ok (.lconst 0, 1) := by decide +kernel
theorem dX10_ends_74 : decode cX10_ends 74 = .ok (.lastore, 1) := by decide +kernel
theorem dX10_ends_75 : decode cX10_ends 75 = .ok (.aload_n 0, 1) := by decide +kernel
theorem dX10_ends_76 : decode cX10_ends 76 = .ok (.getfield 7, 3) := by decide +kernel
theorem dX10_ends_79 : decode cX10_ends 79 = .ok (.iconst 5, 1) := by decide +kernel
theorem dX10_ends_80 : decode cX10_ends 80 = .ok (.iaload, 1) := by decide +kernel
theorem dX10_ends_81 : decode cX10_ends 81 = .ok (.aload_n 0, 1) := by decide +kernel
theorem dX10_ends_82 : decode cX10_ends 82 = .ok (.getfield 7, 3) := by decide +kernel
theorem dX10_ends_85 : decode cX10_ends 85 = .ok (.iconst 1, 1) := by decide +kernel
theorem dX10_ends_86 : decode cX10_ends 86 = .ok (.iaload, 1) := by decide +kernel
theorem dX10_ends_87 : decode cX10_ends 87 = .ok (.isub, 1) := by decide +kernel
theorem dX10_ends_88 : decode cX10_ends 88 = .ok (.istore 5, 2) := by decide +kernel
theorem dX10_ends_90 : decode cX10_ends 90 = .ok (.iload 5, 2) := by decide +kernel
theorem dX10_ends_92 : decode cX10_ends 92 = .ok (.ifCond .ge 4, 3) := by decide +kernel
theorem dX10_ends_95 : decode cX10_ends 95 = .ok (.return_, 1) := by decide +kernel
theorem dX10_ends_96 : decode cX10_ends 96 = .ok (.aload_n 0, 1) := by decide +kernel
theorem dX10_ends_97 : decode cX10_ends 97 = .ok (.getfield 19, 3) := by decide +kernel
theorem dX10_ends_100 : decode cX10_ends 100 = .ok (.iconst 0, 1) := by decide +kernel
theorem dX10_ends_101 : decode cX10_ends 101 = .ok (.dup2, 1) := by decide +kernel
theorem dX10_ends_102 : decode cX10_ends 102 = .ok (.laload, 1) := by decide +kernel
theorem dX10_ends_103 : decode cX10_ends 103 = .ok (.aload_n 0, 1) := by decide +kernel
theorem dX10_ends_104 : decode cX10_ends 104 = .ok (.getfield 19, 3) := by decide +kernel
theorem dX10_ends_107 : decode cX10_ends 107 = .ok (.aload_n 0, 1) := by decide +kernel
theorem dX10_ends_108 : decode cX10_ends 108 = .ok (.iload_n 1, 1) := by decide +kernel
theorem dX10_ends_109 : decode cX10_ends 109 = .ok (.iload 5, 2) := by decide +kernel
theorem dX10_ends_111 : decode cX10_ends 111 = .ok (.invokevirtual 194, 3) := by decide +kernel
theorem dX10_ends_114 : decode cX10_ends 114 = .ok (.laload, 1) := by decide +kernel
theorem dX10_ends_115 : decode cX10_ends 115 = .ok (.ladd, 1) := by decide +kernel
theorem dX10_ends_116 : decode cX10_ends 116 = .ok (.lastore, 1) := by decide +kernel
theorem dX10_ends_117 : decode cX10_ends 117 = .ok (.aload_n 0, 1) := by decide +kernel
theorem dX10_ends_118 : decode cX10_ends 118 = .ok (.getfield 19, 3) := by decide +kernel
theorem dX10_ends_121 : decode cX10_ends 121 = .ok (.aload_n 0, 1) := by decide +kernel
theorem dX10_ends_122 : decode cX10_ends 122 = .ok (.iload_n 1, 1) := by decide +kernel
theorem dX10_ends_123 : decode cX10_ends 123 = .ok (.iconst 5, 1) := by decide +kernel
theorem dX10_ends_124 : decode cX10_ends 124 = .ok (.invokevirtual 197, 3) := by decide +kernel
theorem dX10_ends_127 : decode cX10_ends 127 = .ok (.dup2, 1) := by decide +kernel
theorem dX10_ends_128 : decode cX10_ends 128 = .ok (.laload, 1) := by decide +kernel
theorem dX10_ends_129 : decode cX10_ends 129 = .ok (.aload_n 0, 1) := by decide +kernel
theorem dX10_ends_130 : decode cX10_ends 130 = .ok (.getfield 19, 3) := by decide +kernel
theorem dX10_ends_133 : decode cX10_ends 133 = .ok (.aload_n 0, 1) := by decide +kernel
theorem dX10_ends_134 : decode cX10_ends 134 = .ok (.iload_n 1, 1) := by decide +kernel
theorem dX10_ends_135 : decode cX10_ends 135 = .ok (.iload 5, 2) := by decide +kernel
theorem dX10_ends_137 : decode cX10_ends 137 = .ok (.invokevirtual 194, 3) := by decide +kernel
theorem dX10_ends_140 : decode cX10_ends 140 = .ok (.laload, 1) := by decide +kernel
theorem dX10_ends_141 : decode cX10_ends 141 = .ok (.ladd, 1) := by decide +kernel
theorem dX10_ends_142 : decode cX10_ends 142 = .ok (.lastore, 1) := by decide +kernel
theorem dX10_ends_143 : decode cX10_ends 143 = .ok (.aload_n 0, 1) := by decide +kernel
theorem dX10_ends_144 : decode cX10_ends 144 = .ok (.getfield 19, 3) := by decide +kernel
theorem dX10_ends_147 : decode cX10_ends 147 = .ok (.aload_n 0, 1) := by decide +kernel
theorem dX10_ends_148 : decode cX10_ends 148 = .ok (.iload_n 1, 1) := by decide +kernel
theorem dX10_ends_149 : decode cX10_ends 149 = .ok (.iload 5, 2) := by decide +kernel
theorem dX10_ends_151 : decode cX10_ends 151 = .ok (.invokevirtual 194, 3) := by decide +kernel
theorem dX10_ends_154 : decode cX10_ends 154 = .ok (.lconst 0, 1) := by decide +kernel
theorem dX10_ends_155 : decode cX10_ends 155 = .ok (.lastore, 1) := by decide +kernel
theorem dX10_ends_156 : decode cX10_ends 156 = .ok (.return_, 1) := by decide +kernel
theorem dX10_endMonth_0 : decode cX10_endMonth 0 = .ok (.aload_n 0, 1) := by decide +kernel
theorem dX10_endMonth_1 : decode cX10_endMonth 1 = .ok (.aload_n 0, 1) := by decide +kernel
theorem dX10_endMonth_2 : decode cX10_endMonth 2 = .ok (.getfield 7, 3) := by decide +kernel
theorem dX10_endMonth_5 : decode cX10_endMonth 5 = .ok (.bipush 6, 2) := by decide +kernel
theorem dX10_endMonth_7 : decode cX10_endMonth 7 = .ok (.iaload, 1) := by decide +kernel
theorem dX10_endMonth_8 : decode cX10_endMonth 8 = .ok (.bipush 30, 2) := by decide +kernel
theorem dX10_endMonth_10 : decode cX10_endMonth 10 = .ok (.if_icmp .lt 14, 3) := by decide +kernel
theorem dX10_endMonth_13 : decode cX10_endMonth 13 = .ok (.aload_n 0, 1) := by decide +kernel
theorem dX10_endMonth_14 : decode cX10_endMonth 14 = .ok (.getfield 7, 3) := by decide +kernel
theorem dX10_endMonth_17 : decode cX10_endMonth 17 = .ok (.iconst 5, 1) := by decide +kernel
theorem dX10_endMonth_18 : decode cX10_endMonth 18 = .ok (.iaload, 1) := by decide +kernel
theorem dX10_endMonth_19 : decode cX10_endMonth 19 = .ok (.bipush 59, 2) := by decide +kernel
theorem dX10_endMonth_21 : decode cX10_endMonth 21 = .ok (.if_icmp .ne 7, 3) := by decide +kernel
theorem dX10_endMonth_24 : decode cX10_endMonth 24 = .ok (.iconst 1, 1) := by decide +kernel
theorem dX10_endMonth_25 : decode cX10_endMonth 25 = .ok (.goto 4, 3) := by decide +kernel
theorem dX10_endMonth_28 : decode cX10_endMonth 28 = .ok (.iconst 0, 1) := by decide +kernel
theorem dX10_endMonth_29 : decode cX10_endMonth 29 = .ok (.putfield 63, 3) := by decide +kernel
theorem dX10_endMonth_32 : decode cX10_endMonth 32 = .ok (.aload_n 0, 1) := by decide +kernel
theorem dX10_endMonth_33 : decode cX10_endMonth 33 = .ok (.getfield 63, 3) := by decide +kernel
theorem dX10_endMonth_36 : decode cX10_endMonth 36 = .ok (.ifCond .le 5, 3) := by decide +kernel
theorem dX10_endMonth_39 : decode cX10_endMonth 39 = .ok (.lconst 0, 1) := by decide +kernel
theorem dX10_endMonth_40 : decode cX10_endMonth 40 = .ok (.lreturn, 1) := by decide +kernel
theorem dX10_endMonth_41 : decode cX10_endMonth 41 = .ok (.aload_n 0, 1) := by decide +kernel
theorem dX10_endMonth_42 : decode cX10_endMonth 42 = .ok (.invokevirtual 157, 3) := by decide +kernel
theorem dX10_endMonth_45 : decode cX10_endMonth 45 = .ok (.aload_n 0, 1) := by decide +kernel
theorem dX10_endMonth_46 : decode cX10_endMonth 46 = .ok (.aload_n 0, 1) := by decide +kernel
theorem dX10_endMonth_47 : decode cX10_endMonth 47 = .ok (.getfield 7, 3) := by decide +kernel
theorem dX10_endMonth_50 : decode cX10_endMonth 50 = .ok (.iconst 5, 1) := by decide +kernel
theorem dX10_endMonth_51 : decode cX10_endMonth 51 = .ok (.iaload, 1) := by decide +kernel
theorem dX10_endMonth_52 : decode cX10_endMonth 52 = .ok (.invokevirtual 237, 3) := by decide +kernel
theorem dX10_endMonth_55 : decode cX10_endMonth 55 = .ok (.lstore_n 1, 1) := by decide +kernel
theorem dX10_endMonth_56 : decode cX10_endMonth 56 = .ok (.aload_n 0, 1) := by decide +kernel
theorem dX10_endMonth_57 : decode cX10_endMonth 57 = .ok (.lload_n 1, 1) := by decide +kernel
theorem dX10_endMonth_58 : decode cX10_endMonth 58 = .ok (.aload_n 0, 1) := by decide +kernel
theorem dX10_endMonth_59 : decode cX10_endMonth 59 = .ok (.getfield 7, 3) := by decide +kernel
theorem dX10_endMonth_62 : decode cX10_endMonth 62 = .ok (.iconst 5, 1) := by decide +kernel
theorem dX10_endMonth_63 : decode cX10_endMonth 63 = .ok (.iaload, 1) := by decide +kernel
theorem dX10_endMonth_64 : decode cX10_endMonth 64 = .ok (.iconst 0, 1) := by decide +kernel
theorem dX10_endMonth_65 : decode cX10_endMonth 65 = .ok (.invokevirtual 240, 3) := by decide +kernel
theorem dX10_endMonth_68 : decode cX10_endMonth 68 = .ok (.aload_n 0, 1) := by decide +kernel
theorem dX10_endMonth_69 : decode cX10_endMonth 69 = .ok (.getfield 19, 3) := by decide +kernel
theorem dX10_endMonth_72 : decode cX10_endMonth 72 = .ok (.iconst 1, 1) := by decide +kernel
theorem dX10_endMonth_73 : decode cX10_endMonth 73 = .ok (.dup2, 1) := by decide +kernel
theorem dX10_endMonth_74 : decode cX10_endMonth 74 = .ok (.laload, 1) := by decide +kernel
theorem dX10_endMonth_75 : decode cX10_endMonth 75 = .ok (.aload_n 0, 1) := by decide +kernel
theorem dX10_endMonth_76 : decode cX10_endMonth 76 = .ok (.getfield 36, 3) := by decide +kernel
theorem dX10_endMonth_79 : decode cX10_endMonth 79 = .ok (.aload_n 0, 1) := by decide +kernel
theorem dX10_endMonth_80 : decode cX10_endMonth 80 = .ok (.getfield 7, 3) := by decide +kernel
theorem dX10_endMonth_83 : decode cX10_endMonth 83 = .ok (.bipush 7, 2) := by decide +kernel
theorem dX10_endMonth_85 : decode cX10_endMonth 85 = .ok (.iaload, 1) := by decide +kernel
theorem dX10_endMonth_86 : decode cX10_endMonth 86 = .ok (.laload, 1) := by decide +kernel
theorem dX10_endMonth_87 : decode cX10_endMonth 87 = .ok (.ladd, 1) := by decide +kernel
theorem dX10_endMonth_88 : decode cX10_endMonth 88 = .ok (.lastore, 1) := by decide +kernel
theorem dX10_endMonth_89 : decode cX10_endMonth 89 = .ok (.iconst 0, 1) := by decide +kernel
theorem dX10_endMonth_90 : decode cX10_endMonth 90 = .ok (.istore_n 3, 1) := by decide +kernel
theorem dX10_endMonth_91 : decode cX10_endMonth 91 = .ok (.iload_n 3, 1) := by decide +kernel
theorem dX10_endMonth_92 : decode cX10_endMonth 92 = .ok (.aload_n 0, 1) := by decide +kernel
theorem dX10_endMonth_93 : decode cX10_endMonth 93 = .ok (.getfield 7, 3) := by decide +kernel
theorem dX10_endMonth_96 : decode cX10_endMonth 96 = .ok (.bipush 7, 2) := by decide +kernel
theorem dX10_endMonth_98 : decode cX10_endMonth 98 = .ok (.iaload, 1) := by decide +kernel
theorem dX10_endMonth_99 : decode cX10_endMonth 99 = .ok (.if_icmp .ge 60, 3) := by decide +kernel
theorem dX10_endMonth_102 : decode cX10_endMonth 102 = .ok (.aload_n 0, 1) := by decide +kernel
theorem dX10_endMonth_103 : decode cX10_endMonth 103 = .ok (.getfield 46, 3) := by decide +kernel
theorem dX10_endMonth_106 : decode cX10_endMonth 106 = .ok (.iload_n 3, 1) := by decide +kernel
theorem dX10_endMonth_107 : decode cX10_endMonth 107 = .ok (.aload_n 0, 1) := by decide +kernel
theorem dX10_endMonth_108 : decode cX10_endMonth 108 = .ok (.iload_n 3, 1) := by decide +kernel
theorem dX10_endMonth_109 : decode cX10_endMonth 109 = .ok (.invokevirtual 187, 3) := by decide +kernel
theorem dX10_endMonth_112 : decode cX10_endMonth 112 = .ok (.ifCond .eq 12, 3) := by decide +kernel
theorem dX10_endMonth_115 : decode cX10_endMonth 115 = .ok (.aload_n 0, 1) := by decide +kernel
theorem dX10_endMonth_116 : decode cX10_endMonth 116 = .ok (.getfield 36, 3) := by decide +kernel
theorem dX10_endMonth_119 : decode cX10_endMonth 119 = .ok (.iload_n 3, 1) := by decide +kernel
theorem dX10_endMonth_120 : decode cX10_endMonth 120 = .ok (.laload, 1) := by decide +kernel
theorem dX10_endMonth_121 : decode cX10_endMonth 121 = .ok (.goto 4, 3) := by decide +kernel
theorem dX10_endMonth_124 : decode cX10_endMonth 124 = .ok (.lconst 0, 1) := by decide +kernel
theorem dX10_endMonth_125 : decode cX10_endMonth 125 = .ok (.lastore, 1) := by decide +kernel
theorem dX10_endMonth_126 : decode cX10_endMonth 126 = .ok (.aload_n 0, 1) := by decide +kernel
theorem dX10_endMonth_127 : decode cX10_endMonth 127 = .ok (.getfield 19, 3) := by decide +kernel
theorem dX10_endMonth_130 : decode cX10_endMonth 130 = .ok (.iconst 0, 1) := by decide +kernel
theorem dX10_endMonth_131 : decode cX10_endMonth 131 = .ok (.dup2, 1) := by decide +kernel
theorem dX10_endMonth_132 : decode cX10_endMonth 132 = .ok (.laload, 1) := by decide +kernel
theorem dX10_endMonth_133 : decode cX10_endMonth 133 = .ok (.aload_n 0, 1) := by decide +kernel
theorem dX10_endMonth_134 : decode cX10_endMonth 134 = .ok (.iload_n 3, 1) := by decide +kernel
theorem dX10_endMonth_135 : decode cX10_endMonth 135 = .ok (.invokevirtual 187, 3) := by decide +kernel
theorem dX10_endMonth_138 : decode cX10_endMonth 138 = .ok (.ifCond .eq 7, 3) := by decide +kernel
theorem dX10_endMonth_141 : decode cX10_endMonth 141 = .ok (.lconst 0, 1) := by decide +kernel
theorem dX10_endMonth_142 : decode cX10_endMonth 142 = .ok (.goto 9, 3) := by decide +kernel
theorem dX10_endMonth_145 : decode cX10_endMonth 145 = .ok (.aload_n 0, 1) := by decide +kernel
theorem dX10_endMonth_146 : decode cX10_endMonth 146 = .ok (.getfield 36, 3) := by decide +kernel
theorem dX10_endMonth_149 : decode cX10_endMonth 149 = .ok (.iload_n 3, 1) := by decide +kernel
theorem dX10_endMonth_150 : decode cX10_endMonth 150 = .ok (.laload, 1) := by decide +kernel
theorem dX10_endMonth_151 : decode cX10_endMonth 151 = .ok (.ladd, 1) := by decide +kernel
theorem dX10_endMonth_152 : decode cX10_endMonth 152 = .ok (.lastore, 1) := by decide +kernel
theorem dX10_endMonth_153 : decode cX10_endMonth 153 = .ok (.iinc 3 1, 3) := by decide +kernel
theorem dX10_endMonth_156 : decode cX10_endMonth 156 = .ok (.goto (-65), 3) := by decide +kernel
theorem dX10_endMonth_159 : decode cX10_endMonth 159 = .ok (.aload_n 0, 1) := by decide +kernel
theorem dX10_endMonth_160 : decode cX10_endMonth 160 = .ok (.invokevirtual 244, 3) := by decide +kernel
theorem dX10_endMonth_163 : decode cX10_endMonth 163 = .ok (.iconst 0, 1) := by decide +kernel
theorem dX10_endMonth_164 : decode cX10_endMonth 164 = .ok (.istore_n 3, 1) := by decide +kernel
theorem dX10_endMonth_165 : decode cX10_endMonth 165 = .ok (.iload_n 3, 1) := by decide +kernel
theorem dX10_endMonth_166 : decode cX10_endMonth 166 = .ok (.aload_n 0, 1) := by decide +kernel
theorem dX10_endMonth_167 : decode cX10_endMonth 167 = .ok (.getfield 7, 3) := by decide +kernel
theorem dX10_endMonth_170 : decode cX10_endMonth 170 = .ok (.bipush 7, 2) := by decide +kernel
theorem dX10_endMonth_172 : decode cX10_endMonth 172 = .ok (.iaload, 1) := by decide +kernel
theorem dX10_endMonth_173 : decode cX10_endMonth 173 = .ok (.if_icmp .ge 22, 3) := by decide +kernel
theorem dX10_endMonth_176 : decode cX10_endMonth 176 = .ok (.aload_n 0, 1) := by decide +kernel
theorem dX10_endMonth_177 : decode cX10_endMonth 177 = .ok (.iload_n 3, 1) := by decide +kernel
theorem dX10_endMonth_178 : decode cX10_endMonth 178 = .ok (.invokevirtual 187, 3) := by decide +kernel
theorem dX10_endMonth_181 : decode cX10_endMonth 181 = .ok (.ifCond .eq 8, 3) := by decide +kernel
theorem dX10_endMonth_184 : decode cX10_endMonth 184 = .ok (.aload_n 0, 1) := by decide +kernel
theorem dX10_endMonth_185 : decode cX10_endMonth 185 = .ok (.iload_n 3, 1) := by decide +kernel
theorem dX10_endMonth_186 : decode cX10_endMonth 186 = .ok (.invokevirtual 247, 3) := by decide +kernel
theorem dX10_endMonth_189 : decode cX10_endMonth 189 = .ok (.iinc 3 1, 3) := by decide +kernel
theorem dX10_endMonth_192 : decode cX10_endMonth 192 = .ok (.goto (-27), 3) := by decide +kernel
theorem dX10_endMonth_195 : decode cX10_endMonth 195 = .ok (.aload_n 0, 1) := by decide +kernel
theorem dX10_endMonth_196 : decode cX10_endMonth 196 = .ok (.getfield 7, 3) := by decide +kernel
theorem dX10_endMonth_199 : decode cX10_endMonth 199 = .ok (.iconst 5, 1) := by decide +kernel
theorem dX10_endMonth_200 : decode cX10_endMonth 200 = .ok (.dup2, 1) := by decide +kernel
theorem dX10_endMonth_201 : decode cX10_endMonth 201 = .ok (.iaload, 1) := by decide +kernel
theorem dX10_endMonth_202 : decode cX10_endMonth 202 = .ok (.iconst 1, 1) := by decide +kernel
theorem dX10_endMonth_203 : decode cX10_endMonth 203 = .ok (.iadd, 1) := by decide +kernel
theorem dX10_endMonth_204 : decode cX10_endMonth 204 = .ok (.iastore, 1) := by decide +kernel
theorem dX10_endMonth_205 : decode cX10_endMonth 205 = .ok (.aload_n 0, 1) := by decide +kernel
theorem dX10_endMonth_206 : decode cX10_endMonth 206 = .ok (.getfield 7, 3) := by decide +kernel
theorem dX10_endMonth_209 : decode cX10_endMonth 209 = .ok (.bipush 6, 2) := by decide +kernel
theorem dX10_endMonth_211 : decode cX10_endMonth 211 = .ok (.iconst 0, 1) := by decide +kernel
theorem dX10_endMonth_212 : decode cX10_endMonth 212 = .ok (.iastore, 1) := by decide +kernel
theorem dX10_endMonth_213 : decode cX10_endMonth 213 = .ok (.lload_n 1, 1) := by decide +kernel
theorem dX10_endMonth_214 : decode cX10_endMonth 214 = .ok (.lreturn, 1) := by decide +kernel
theorem dX10_month_0 : decode cX10_month 0 = .ok (.aload_n 0, 1) := by decide +kernel
theorem dX10_month_1 : decode cX10_month 1 = .ok (.iconst 0, 1) := by decide +kernel
theorem dX10_month_2 : decode cX10_month 2 = .ok (.putfield 63, 3) := by decide +kernel
theorem dX10_month_5 : decode cX10_month 5 = .ok (.aload_n 0, 1) := by decide +kernel
theorem dX10_month_6 : decode cX10_month 6 = .ok (.getfield 7, 3) := by decide +kernel
theorem dX10_month_9 : decode cX10_month 9 = .ok (.iconst 5, 1) := by decide +kernel
theorem dX10_month_10 : decode cX10_month 10 = .ok (.iaload, 1) := by decide +kernel
theorem dX10_month_11 : decode cX10_month 11 = .ok (.ireturn, 1) := by decide +kernel
theorem dX10_isMonth_0 : decode cX10_isMonth 0 = .ok (.iload_n 1, 1) := by decide +kernel
theorem dX10_isMonth_1 : decode cX10_isMonth 1 = .ok (.i2l, 1) := by decide +kernel
theorem dX10_isMonth_2 : decode cX10_isMonth 2 = .ok (.lconst 0, 1) := by decide +kernel
theorem dX10_isMonth_3 : decode cX10_isMonth 3 = .ok (.aload_n 0, 1) := by decide +kernel
theorem dX10_isMonth_4 : decode cX10_isMonth 4 = .ok (.getfield 7, 3) := by decide +kernel
theorem dX10_isMonth_7 : decode cX10_isMonth 7 = .ok (.iconst 5, 1) := by decide +kernel
theorem dX10_isMonth_8 : decode cX10_isMonth 8 = .ok (.iaload, 1) := by decide +kernel
theorem dX10_isMonth_9 : decode cX10_isMonth 9 = .ok (.i2l, 1) := by decide +kernel
theorem dX10_isMonth_10 : decode cX10_isMonth 10 = .ok (.invokestatic 104, 3) := by decide +kernel
theorem dX10_isMonth_13 : decode cX10_isMonth 13 = .ok (.ireturn, 1) := by decide +kernel
theorem dX10_generation_0 : decode cX10_generation 0 = .ok (.aload_n 0, 1) := by decide +kernel
theorem dX10_generation_1 : decode cX10_generation 1 = .ok (.aload_n 0, 1) := by decide +kernel
theorem dX10_generation_2 : decode cX10_generation 2 = .ok (.iload_n 1, 1) := by decide +kernel
theorem dX10_generation_3 : decode cX10_generation 3 = .ok (.invokevirtual 250, 3) := by decide +kernel
theorem dX10_generation_6 : decode cX10_generation 6 = .ok (.ifCond .eq 25, 3) := by decide +kernel
theorem dX10_generation_9 : decode cX10_generation 9 = .ok (.iload_n 2, 1) := by decide +kernel
theorem dX10_generation_10 : decode cX10_generation 10 = .ok (.i2l, 1) := by decide +kernel
theorem dX10_generation_11 : decode cX10_generation 11 = .ok (.lconst 0, 1) := by decide +kernel
theorem dX10_generation_12 : decode cX10_generation 12 = .ok (.aload_n 0, 1) := by decide +kernel
theorem dX10_generation_13 : decode cX10_generation 13 = .ok (.getfield 7, 3) := by decide +kernel
theorem dX10_generation_16 : decode cX10_generation 16 = .ok (.iconst 4, 1) := by decide +kernel
theorem dX10_generation_17 : decode cX10_generation 17 = .ok (.iaload, 1) := by decide +kernel
theorem dX10_generation_18 : decode cX10_generation 18 = .ok (.iconst 1, 1) := by decide +kernel
theorem dX10_generation_19 : decode cX10_generation 19 = .ok (.isub, 1) := by decide +kernel
theorem dX10_generation_20 : decode cX10_generation 20 = .ok (.i2l, 1) := by decide +kernel
theorem dX10_generation_21 : decode cX10_generation 21 = .ok (.invokestatic 104, 3) := by decide +kernel
theorem dX10_generation_24 : decode cX10_generation 24 = .ok (.ifCond .eq 7, 3) := by decide +kernel
theorem dX10_generation_27 : decode cX10_generation 27 = .ok (.iconst 0, 1) := by decide +kernel
theorem dX10_generation_28 : decode cX10_generation 28 = .ok (.goto 4, 3) := by decide +kernel
theorem dX10_generation_31 : decode cX10_generation 31 = .ok (.iconst 1, 1) := by decide +kernel
theorem dX10_generation_32 : decode cX10_generation 32 = .ok (.putfield 63, 3) := by decide +kernel
theorem dX10_generation_35 : decode cX10_generation 35 = .ok (.aload_n 0, 1) := by decide +kernel
theorem dX10_generation_36 : decode cX10_generation 36 = .ok (.getfield 63, 3) := by decide +kernel
theorem dX10_generation_39 : decode cX10_generation 39 = .ok (.ifCond .le 7, 3) := by decide +kernel
theorem dX10_generation_42 : decode cX10_generation 42 = .ok (.iconst 0, 1) := by decide +kernel
theorem dX10_generation_43 : decode cX10_generation 43 = .ok (.goto 14, 3) := by decide +kernel
theorem dX10_generation_46 : decode cX10_generation 46 = .ok (.aload_n 0, 1) := by decide +kernel
theorem dX10_generation_47 : decode cX10_generation 47 = .ok (.getfield 7, 3) := by decide +kernel
theorem dX10_generation_50 : decode cX10_generation 50 = .ok (.aload_n 0, 1) := by decide +kernel
theorem dX10_generation_51 : decode cX10_generation 51 = .ok (.iload_n 1, 1) := by decide +kernel
theorem dX10_generation_52 : decode cX10_generation 52 = .ok (.iload_n 2, 1) := by decide +kernel
theorem dX10_generation_53 : decode cX10_generation 53 = .ok (.invokevirtual 221, 3) := by decide +kernel
theorem dX10_generation_56 : decode cX10_generation 56 = .ok (.iaload, 1) := by decide +kernel
theorem dX10_generation_57 : decode cX10_generation 57 = .ok (.ireturn, 1) := by decide +kernel
theorem dX10_shareDays_0 : decode cX10_shareDays 0 = .ok (.aload_n 0, 1) := by decide +kernel
theorem dX10_shareDays_1 : decode cX10_shareDays 1 = .ok (.aload_n 0, 1) := by decide +kernel
theorem dX10_shareDays_2 : decode cX10_shareDays 2 = .ok (.iload_n 1, 1) := by decide +kernel
theorem dX10_shareDays_3 : decode cX10_shareDays 3 = .ok (.invokevirtual 250, 3) := by decide +kernel
theorem dX10_shareDays_6 : decode cX10_shareDays 6 = .ok (.ifCond .eq 20, 3) := by decide +kernel
theorem dX10_shareDays_9 : decode cX10_shareDays 9 = .ok (.iload_n 2, 1) := by decide +kernel
theorem dX10_shareDays_10 : decode cX10_shareDays 10 = .ok (.iconst (-1), 1) := by decide +kernel
theorem dX10_shareDays_11 : decode cX10_shareDays 11 = .ok (.if_icmp .eq 11, 3) := by decide +kernel
theorem dX10_shareDays_14 : decode cX10_shareDays 14 = .ok (.aload_n 0, 1) := by decide +kernel
theorem dX10_shareDays_15 : decode cX10_shareDays 15 = .ok (.iload_n 2, 1) := by decide +kernel
theorem dX10_shareDays_16 : decode cX10_shareDays 16 = .ok (.invokevirtual 184, 3) := by decide +kernel
theorem dX10_shareDays_19 : decode cX10_shareDays 19 = .ok (.ifCond .eq 7, 3) := by decide +kernel
theorem dX10_shareDays_22 : decode cX10_shareDays 22 = .ok (.iconst 0, 1) := by decide +kernel
theorem dX10_shareDays_23 : decode cX10_shareDays 23 = .ok (.goto 4, 3) := by decide +kernel
theorem dX10_shareDays_26 : decode cX10_shareDays 26 = .ok (.iconst 1, 1) := by decide +kernel
theorem dX10_shareDays_27 : decode cX10_shareDays 27 = .ok (.putfield 63, 3) := by decide +kernel
theorem dX10_shareDays_30 : decode cX10_shareDays 30 = .ok (.aload_n 0, 1) := by decide +kernel
theorem dX10_shareDays_31 : decode cX10_shareDays 31 = .ok (.getfield 63, 3) := by decide +kernel
theorem dX10_shareDays_34 : decode cX10_shareDays 34 = .ok (.ifCond .le 5, 3) := by decide +kernel
theorem dX10_shareDays_37 : decode cX10_shareDays 37 = .ok (.iconst 0, 1) := by decide +kernel
theorem dX10_shareDays_38 : decode cX10_shareDays 38 = .ok (.ireturn, 1) := by decide +kernel
theorem dX10_shareDays_39 : decode cX10_shareDays 39 = .ok (.iload_n 2, 1) := by decide +kernel
theorem dX10_shareDays_40 : decode cX10_shareDays 40 = .ok (.iconst (-1), 1) := by decide +kernel
theorem dX10_shareDays_41 : decode cX10_shareDays 41 = .ok (.if_icmp .eq 15, 3) := by decide +kernel
theorem dX10_shareDays_44 : decode cX10_shareDays 44 = .ok (.aload_n 0, 1) := by decide +kernel
theorem dX10_shareDays_45 : decode cX10_shareDays 45 = .ok (.getfield 7, 3) := by decide +kernel
theorem dX10_shareDays_48 : decode cX10_shareDays 48 = .ok (.aload_n 0, 1) := by decide +kernel
theorem dX10_shareDays_49 : decode cX10_shareDays 49 = .ok (.iload_n 1, 1) := by decide +kernel
theorem dX10_shareDays_50 : decode cX10_shareDays 50 = .ok (.iload_n 2, 1) := by decide +kernel
theorem dX10_shareDays_51 : decode cX10_shareDays 51 = .ok (.invokevirtual 216, 3) := by decide +kernel
theorem dX10_shareDays_54 : decode cX10_shareDays 54 = .ok (.iaload, 1) := by decide +kernel
theorem dX10_shareDays_55 : decode cX10_shareDays 55 = .ok (.ireturn, 1) := by decide +kernel
theorem dX10_shareDays_56 : decode cX10_shareDays 56 = .ok (.aload_n 0, 1) := by decide +kernel
theorem dX10_shareDays_57 : decode cX10_shareDays 57 = .ok (.getfield 7, 3) := by decide +kernel
theorem dX10_shareDays_60 : decode cX10_shareDays 60 = .ok (.iconst 0, 1) := by decide +kernel
theorem dX10_shareDays_61 : decode cX10_shareDays 61 = .ok (.iaload, 1) := by decide +kernel
theorem dX10_shareDays_62 : decode cX10_shareDays 62 = .ok (.iload_n 1, 1) := by decide +kernel
theorem dX10_shareDays_63 : decode cX10_shareDays 63 = .ok (.aload_n 0, 1) := by decide +kernel
theorem dX10_shareDays_64 : decode cX10_shareDays 64 = .ok (.getfield 7, 3) := by decide +kernel
theorem dX10_shareDays_67 : decode cX10_shareDays 67 = .ok (.iconst 5, 1) := by decide +kernel
theorem dX10_shareDays_68 : decode cX10_shareDays 68 = .ok (.iaload, 1) := by decide +kernel
theorem dX10_shareDays_69 : decode cX10_shareDays 69 = .ok (.if_icmp .ne 13, 3) := by decide +kernel
theorem dX10_shareDays_72 : decode cX10_shareDays 72 = .ok (.aload_n 0, 1) := by decide +kernel
theorem dX10_shareDays_73 : decode cX10_shareDays 73 = .ok (.getfield 7, 3) := by decide +kernel
theorem dX10_shareDays_76 : decode cX10_shareDays 76 = .ok (.bipush 6, 2) := by decide +kernel
theorem dX10_shareDays_78 : decode cX10_shareDays 78 = .ok (.iaload, 1) := by decide +kernel
theorem dX10_shareDays_79 : decode cX10_shareDays 79 = .ok (.goto 5, 3) := by decide +kernel
theorem dX10_shareDays_82 : decode cX10_shareDays 82 = .ok (.bipush 30, 2) := by decide +kernel
theorem dX10_shareDays_84 : decode cX10_shareDays 84 = .ok (.imul, 1) := by decide +kernel
theorem dX10_shareDays_85 : decode cX10_shareDays 85 = .ok (.istore_n 3, 1) := by decide +kernel
theorem dX10_shareDays_86 : decode cX10_shareDays 86 = .ok (.iconst 0, 1) := by decide +kernel
theorem dX10_shareDays_87 : decode cX10_shareDays 87 = .ok (.istore 4, 2) := by decide +kernel
theorem dX10_shareDays_89 : decode cX10_shareDays 89 = .ok (.iload 4, 2) := by decide +kernel
theorem dX10_shareDays_91 : decode cX10_shareDays 91 = .ok (.aload_n 0, 1) := by decide +kernel
theorem dX10_shareDays_92 : decode cX10_shareDays 92 = .ok (.getfield 7, 3) := by decide +kernel
theorem dX10_shareDays_95 : decode cX10_shareDays 95 = .ok (.bipush 7, 2) := by decide +kernel
theorem dX10_shareDays_97 : decode cX10_shareDays 97 = .ok (.iaload, 1) := by decide +kernel
theorem dX10_shareDays_98 : decode cX10_shareDays 98 = .ok (.if_icmp .ge 24, 3) := by decide +kernel
theorem dX10_shareDays_101 : decode cX10_shareDays 101 = .ok (.iload_n 3, 1) := by decide +kernel
theorem dX10_shareDays_102 : decode cX10_shareDays 102 = .ok (.aload_n 0, 1) := by decide +kernel
theorem dX10_shareDays_103 : decode cX10_shareDays 103 = .ok (.getfield 7, 3) := by decide +kernel
theorem dX10_shareDays_106 : decode cX10_shareDays 106 = .ok (.aload_n 0, 1) := by decide +kernel
theorem dX10_shareDays_107 : decode cX10_shareDays 107 = .ok (.iload_n 1, 1) := by decide +kernel
theorem dX10_shareDays_108 : decode cX10_shareDays 108 = .ok (.iload 4, 2) := by decide +kernel
theorem dX10_shareDays_110 : decode cX10_shareDays 110 = .ok (.invokevirtual 216, 3) := by decide +kernel
theorem dX10_shareDays_113 : decode cX10_shareDays 113 = .ok (.iaload, 1) := by decide +kernel
theorem dX10_shareDays_114 : decode cX10_shareDays 114 = .ok (.isub, 1) := by decide +kernel
theorem dX10_shareDays_115 : decode cX10_shareDays 115 = .ok (.istore_n 3, 1) := by decide +kernel
theorem dX10_shareDays_116 : decode cX10_shareDays 116 = .ok (.iinc 4 1, 3) := by decide +kernel
theorem dX10_shareDays_119 : decode cX10_shareDays 119 = .ok (.goto (-30), 3) := by decide +kernel
theorem dX10_shareDays_122 : decode cX10_shareDays 122 = .ok (.iload_n 3, 1) := by decide +kernel
theorem dX10_shareDays_123 : decode cX10_shareDays 123 = .ok (.ireturn, 1) := by decide +kernel
theorem dX10_projectedPart_0 : decode cX10_projectedPart 0 = .ok (.aload_n 0, 1) := by decide +kernel
theorem dX10_projectedPart_1 : decode cX10_projectedPart 1 = .ok (.iload_n 1, 1) := by decide +kernel
theorem dX10_projectedPart_2 : decode cX10_projectedPart 2 = .ok (.iconst (-1), 1) := by decide +kernel
theorem dX10_projectedPart_3 : decode cX10_projectedPart 3 = .ok (.if_icmp .eq 11, 3) := by decide +kernel
theorem dX10_projectedPart_6 : decode cX10_projectedPart 6 = .ok (.aload_n 0, 1) := by decide +kernel
theorem dX10_projectedPart_7 : decode cX10_projectedPart 7 = .ok (.iload_n 1, 1) := by decide +kernel
theorem dX10_projectedPart_8 : decode cX10_projectedPart 8 = .ok (.invokevirtual 184, 3) := by decide +kernel
theorem dX10_projectedPart_11 : decode cX10_projectedPart 11 = .ok (.ifCond .eq 7, 3) := by decide +kernel
theorem dX10_projectedPart_14 : decode cX10_projectedPart 14 = .ok (.iconst 0, 1) := by decide +kernel
theorem dX10_projectedPart_15 : decode cX10_projectedPart 15 = .ok (.goto 4, 3) := by decide +kernel
theorem dX10_projectedPart_18 : decode cX10_projectedPart 18 = .ok (.iconst 1, 1) := by decide +kernel
theorem dX10_projectedPart_19 : decode cX10_projectedPart 19 = .ok (.putfield 63, 3) := by decide +kernel
theorem dX10_projectedPart_22 : decode cX10_projectedPart 22 = .ok (.aload_n 0, 1) := by decide +kernel
theorem dX10_projectedPart_23 : decode cX10_projectedPart 23 = .ok (.getfield 63, 3) := by decide +kernel
theorem dX10_projectedPart_26 : decode cX10_projectedPart 26 = .ok (.ifCond .le 5, 3) := by decide +kernel
theorem dX10_projectedPart_29 : decode cX10_projectedPart 29 = .ok (.lconst 0, 1) := by decide +kernel
theorem dX10_projectedPart_30 : decode cX10_projectedPart 30 = .ok (.lreturn, 1) := by decide +kernel
theorem dX10_projectedPart_31 : decode cX10_projectedPart 31 = .ok (.aload_n 0, 1) := by decide +kernel
theorem dX10_projectedPart_32 : decode cX10_projectedPart 32 = .ok (.aload_n 0, 1) := by decide +kernel
theorem dX10_projectedPart_33 : decode cX10_projectedPart 33 = .ok (.aload_n 0, 1) := by decide +kernel
theorem dX10_projectedPart_34 : decode cX10_projectedPart 34 = .ok (.getfield 7, 3) := by decide +kernel
theorem dX10_projectedPart_37 : decode cX10_projectedPart 37 = .ok (.iconst 5, 1) := by decide +kernel
theorem dX10_projectedPart_38 : decode cX10_projectedPart 38 = .ok (.iaload, 1) := by decide +kernel
theorem dX10_projectedPart_39 : decode cX10_projectedPart 39 = .ok (.invokevirtual 237, 3) := by decide +kernel
theorem dX10_projectedPart_42 : decode cX10_projectedPart 42 = .ok (.aload_n 0, 1) := by decide +kernel
theorem dX10_projectedPart_43 : decode cX10_projectedPart 43 = .ok (.getfield 7, 3) := by decide +kernel
theorem dX10_projectedPart_46 : decode cX10_projectedPart 46 = .ok (.iconst 5, 1) := by decide +kernel
theorem dX10_projectedPart_47 : decode cX10_projectedPart 47 = .ok (.iaload, 1) := by decide +kernel
theorem dX10_projectedPart_48 : decode cX10_projectedPart 48 = .ok (.bipush 30, 2) := by decide +kernel
theorem dX10_projectedPart_50 : decode cX10_projectedPart 50 = .ok (.aload_n 0, 1) := by decide +kernel
theorem dX10_projectedPart_51 : decode cX10_projectedPart 51 = .ok (.getfield 7, 3) := by decide +kernel
theorem dX10_projectedPart_54 : decode cX10_projectedPart 54 = .ok (.bipush 6, 2) := by decide +kernel
theorem dX10_projectedPart_56 : decode cX10_projectedPart 56 = .ok (.iaload, 1) := by decide +kernel
theorem dX10_projectedPart_57 : decode cX10_projectedPart 57 = .ok (.isub, 1) := by decide +kernel
theorem dX10_projectedPart_58 : decode cX10_projectedPart 58 = .ok (.invokevirtual 240, 3) := by decide +kernel
theorem dX10_projectedPart_61 : decode cX10_projectedPart 61 = .ok (.aload_n 0, 1) := by decide +kernel
theorem dX10_projectedPart_62 : decode cX10_projectedPart 62 = .ok (.getfield 36, 3) := by decide +kernel
theorem dX10_projectedPart_65 : decode cX10_projectedPart 65 = .ok (.iload_n 1, 1) := by decide +kernel
theorem dX10_projectedPart_66 : decode cX10_projectedPart 66 = .ok (.iconst (-1), 1) := by decide +kernel
theorem dX10_projectedPart_67 : decode cX10_projectedPart 67 = .ok (.if_icmp .ne 13, 3) := by decide +kernel
theorem dX10_projectedPart_70 : decode cX10_projectedPart 70 = .ok (.aload_n 0, 1) := by decide +kernel
theorem dX10_projectedPart_71 : decode cX10_projectedPart 71 = .ok (.getfield 7, 3) := by decide +kernel
theorem dX10_projectedPart_74 : decode cX10_projectedPart 74 = .ok (.bipush 7, 2) := by decide +kernel
theorem dX10_projectedPart_76 : decode cX10_projectedPart 76 = .ok (.iaload, 1) := by decide +kernel
theorem dX10_projectedPart_77 : decode cX10_projectedPart 77 = .ok (.goto 4, 3) := by decide +kernel
theorem dX10_projectedPart_80 : decode cX10_projectedPart 80 = .ok (.iload_n 1, 1) := by decide +kernel
theorem dX10_projectedPart_81 : decode cX10_projectedPart 81 = .ok (.laload, 1) := by decide +kernel
theorem dX10_projectedPart_82 : decode cX10_projectedPart 82 = .ok (.lreturn, 1) := by decide +kernel
theorem dX10_projects_0 : decode cX10_projects 0 = .ok (.aload_n 0, 1) := by decide +kernel
theorem dX10_projects_1 : decode cX10_projects 1 = .ok (.aload_n 0, 1) := by decide +kernel
theorem dX10_projects_2 : decode cX10_projects 2 = .ok (.aload_n 0, 1) := by decide +kernel
theorem dX10_projects_3 : decode cX10_projects 3 = .ok (.getfield 7, 3) := by decide +kernel
theorem dX10_projects_6 : decode cX10_projects 6 = .ok (.iconst 5, 1) := by decide +kernel
theorem dX10_projects_7 : decode cX10_projects 7 = .ok (.iaload, 1) := by decide +kernel
theorem dX10_projects_8 : decode cX10_projects 8 = .ok (.invokevirtual 237, 3) := by decide +kernel
theorem dX10_projects_11 : decode cX10_projects 11 = .ok (.aload_n 0, 1) := by decide +kernel
theorem dX10_projects_12 : decode cX10_projects 12 = .ok (.getfield 7, 3) := by decide +kernel
theorem dX10_projects_15 : decode cX10_projects 15 = .ok (.iconst 5, 1) := by decide +kernel
theorem dX10_projects_16 : decode cX10_projects 16 = .ok (.iaload, 1) := by decide +kernel
theorem dX10_projects_17 : decode cX10_projects 17 = .ok (.bipush 30, 2) := by decide +kernel
theorem dX10_projects_19 : decode cX10_projects 19 = .ok (.aload_n 0, 1) := by decide +kernel
theorem dX10_projects_20 : decode cX10_projects 20 = .ok (.getfield 7, 3) := by decide +kernel
theorem dX10_projects_23 : decode cX10_projects 23 = .ok (.bipush 6, 2) := by decide +kernel
theorem dX10_projects_25 : decode cX10_projects 25 = .ok (.iaload, 1) := by decide +kernel
theorem dX10_projects_26 : decode cX10_projects 26 = .ok (.isub, 1) := by decide +kernel
theorem dX10_projects_27 : decode cX10_projects 27 = .ok (.invokevirtual 240, 3) := by decide +kernel
theorem dX10_projects_30 : decode cX10_projects 30 = .ok (.iconst 0, 1) := by decide +kernel
theorem dX10_projects_31 : decode cX10_projects 31 = .ok (.istore_n 1, 1) := by decide +kernel
theorem dX10_projects_32 : decode cX10_projects 32 = .ok (.iload_n 1, 1) := by decide +kernel
theorem dX10_projects_33 : decode cX10_projects 33 = .ok (.aload_n 0, 1) := by decide +kernel
theorem dX10_projects_34 : decode cX10_projects 34 = .ok (.getfield 7, 3) := by decide +kernel
theorem dX10_projects_37 : decode cX10_projects 37 = .ok (.bipush 7, 2) := by decide +kernel
theorem dX10_projects_39 : decode cX10_projects 39 = .ok (.iaload, 1) := by decide +kernel
theorem dX10_projects_40 : decode cX10_projects 40 = .ok (.if_icmp .ge 33, 3) := by decide +kernel
theorem dX10_projects_43 : decode cX10_projects 43 = .ok (.aload_n 0, 1) := by decide +kernel
theorem dX10_projects_44 : decode cX10_projects 44 = .ok (.getfield 46, 3) := by decide +kernel
theorem dX10_projects_47 : decode cX10_projects 47 = .ok (.iload_n 1, 1) := by decide +kernel
theorem dX10_projects_48 : decode cX10_projects 48 = .ok (.aload_n 0, 1) := by decide +kernel
theorem dX10_projects_49 : decode cX10_projects 49 = .ok (.iload_n 1, 1) := by decide +kernel
theorem dX10_projects_50 : decode cX10_projects 50 = .ok (.invokevirtual 187, 3) := by decide +kernel
theorem dX10_projects_53 : decode cX10_projects 53 = .ok (.ifCond .eq 12, 3) := by decide +kernel
theorem dX10_projects_56 : decode cX10_projects 56 = .ok (.aload_n 0, 1) := by decide +kernel
theorem dX10_projects_57 : decode cX10_projects 57 = .ok (.getfield 36, 3) := by decide +kernel
theorem dX10_projects_60 : decode cX10_projects 60 = .ok (.iload_n 1, 1) := by decide +kernel
theorem dX10_projects_61 : decode cX10_projects 61 = .ok (.laload, 1) := by decide +kernel
theorem dX10_projects_62 : decode cX10_projects 62 = .ok (.goto 4, 3) := by decide +kernel
theorem dX10_projects_65 : decode cX10_projects 65 = .ok (.lconst 0, 1) := by decide +kernel
theorem dX10_projects_66 : decode cX10_projects 66 = .ok (.lastore, 1) := by decide +kernel
theorem dX10_projects_67 : decode cX10_projects 67 = .ok (.iinc 1 1, 3) := by decide +kernel
theorem dX10_projects_70 : decode cX10_projects 70 = .ok (.goto (-38), 3) := by decide +kernel
theorem dX10_projects_73 : decode cX10_projects 73 = .ok (.aload_n 0, 1) := by decide +kernel
theorem dX10_projects_74 : decode cX10_projects 74 = .ok (.invokevirtual 244, 3) := by decide +kernel
theorem dX10_projects_77 : decode cX10_projects 77 = .ok (.return_, 1) := by decide +kernel
theorem dX10_projectedCredit_0 : decode cX10_projectedCredit 0 = .ok (.aload_n 0, 1) := by decide +kernel
theorem dX10_projectedCredit_1 : decode cX10_projectedCredit 1 = .ok (.iload_n 1, 1) := by decide +kernel
theorem dX10_projectedCredit_2 : decode cX10_projectedCredit 2 = .ok (.invokevirtual 208, 3) := by decide +kernel
theorem dX10_projectedCredit_5 : decode cX10_projectedCredit 5 = .ok (.ifCond .ne 11, 3) := by decide +kernel
theorem dX10_projectedCredit_8 : decode cX10_projectedCredit 8 = .ok (.aload_n 0, 1) := by decide +kernel
theorem dX10_projectedCredit_9 : decode cX10_projectedCredit 9 = .ok (.iload_n 1, 1) := by decide +kernel
theorem dX10_projectedCredit_10 : decode cX10_projectedCredit 10 = .ok (.invokevirtual 187, 3) := by decide +kernel
theorem dX10_projectedCredit_13 : decode cX10_projectedCredit 13 = .ok (.ifCond .ne 5, 3) := by decide +kernel
theorem dX10_projectedCredit_16 : decode cX10_projectedCredit 16 = .ok (.lconst 0, 1) := by decide +kernel
theorem dX10_projectedCredit_17 : decode cX10_projectedCredit 17 = .ok (.lreturn, 1) := by decide +kernel
theorem dX10_projectedCredit_18 : decode cX10_projectedCredit 18 = .ok (.aload_n 0, 1) := by decide +kernel
theorem dX10_projectedCredit_19 : decode cX10_projectedCredit 19 = .ok (.invokevirtual 253, 3) := by decide +kernel
theorem dX10_projectedCredit_22 : decode cX10_projectedCredit 22 = .ok (.aload_n 0, 1) := by decide +kernel
theorem dX10_projectedCredit_23 : decode cX10_projectedCredit 23 = .ok (.getfield 46, 3) := by decide +kernel
theorem dX10_projectedCredit_26 : decode cX10_projectedCredit 26 = .ok (.iload_n 1, 1) := by decide +kernel
theorem dX10_projectedCredit_27 : decode cX10_projectedCredit 27 = .ok (.laload, 1) := by decide +kernel
theorem dX10_projectedCredit_28 : decode cX10_projectedCredit 28 = .ok (.lreturn, 1) := by decide +kernel
theorem dX10_projectsWhole_0 : decode cX10_projectsWhole 0 = .ok (.aload_n 0, 1) := by decide +kernel
theorem dX10_projectsWhole_1 : decode cX10_projectsWhole 1 = .ok (.getfield 7, 3) := by decide +kernel
theorem dX10_projectsWhole_4 : decode cX10_projectsWhole 4 = .ok (.iconst 0, 1) := by decide +kernel
theorem dX10_projectsWhole_5 : decode cX10_projectsWhole 5 = .ok (.iaload, 1) := by decide +kernel
theorem dX10_projectsWhole_6 : decode cX10_projectsWhole 6 = .ok (.i2l, 1) := by decide +kernel
theorem dX10_projectsWhole_7 : decode cX10_projectsWhole 7 = .ok (.lstore_n 1, 1) := by decide +kernel
theorem dX10_projectsWhole_8 : decode cX10_projectsWhole 8 = .ok (.aload_n 0, 1) := by decide +kernel
theorem dX10_projectsWhole_9 : decode cX10_projectsWhole 9 = .ok (.getfield 33, 3) := by decide +kernel
theorem dX10_projectsWhole_12 : decode cX10_projectsWhole 12 = .ok (.aload_n 0, 1) := by decide +kernel
theorem dX10_projectsWhole_13 : decode cX10_projectsWhole 13 = .ok (.getfield 7, 3) := by decide +kernel
theorem dX10_projectsWhole_16 : decode cX10_projectsWhole 16 = .ok (.bipush 7, 2) := by decide +kernel
theorem dX10_projectsWhole_18 : decode cX10_projectsWhole 18 = .ok (.iaload, 1) := by decide +kernel
theorem dX10_projectsWhole_19 : decode cX10_projectsWhole 19 = .ok (.aload_n 0, 1) := by decide +kernel
theorem dX10_projectsWhole_20 : decode cX10_projectsWhole 20 = .ok (.invokevirtual 172, 3) := by decide +kernel
theorem dX10_projectsWhole_23 : decode cX10_projectsWhole 23 = .ok (.i2l, 1) := by decide +kernel
theorem dX10_projectsWhole_24 : decode cX10_projectsWhole 24 = .ok (.lastore, 1) := by decide +kernel
theorem dX10_projectsWhole_25 : decode cX10_projectsWhole 25 = .ok (.iconst 0, 1) := by decide +kernel
theorem dX10_projectsWhole_26 : decode cX10_projectsWhole 26 = .ok (.istore_n 3, 1) := by decide +kernel
theorem dX10_projectsWhole_27 : decode cX10_projectsWhole 27 = .ok (.iload_n 3, 1) := by decide +kernel
theorem dX10_projectsWhole_28 : decode cX10_projectsWhole 28 = .ok (.aload_n 0, 1) := by decide +kernel
theorem dX10_projectsWhole_29 : decode cX10_projectsWhole 29 = .ok (.getfield 7, 3) := by decide +kernel
theorem dX10_projectsWhole_32 : decode cX10_projectsWhole 32 = .ok (.bipush 7, 2) := by decide +kernel
theorem dX10_projectsWhole_34 : decode cX10_projectsWhole 34 = .ok (.iaload, 1) := by decide +kernel
theorem dX10_projectsWhole_35 : decode cX10_projectsWhole 35 = .ok (.if_icmp .ge 22, 3) := by decide +kernel
theorem dX10_projectsWhole_38 : decode cX10_projectsWhole 38 = .ok (.aload_n 0, 1) := by decide +kernel
theorem dX10_projectsWhole_39 : decode cX10_projectsWhole 39 = .ok (.getfield 33, 3) := by decide +kernel
theorem dX10_projectsWhole_42 : decode cX10_projectsWhole 42 = .ok (.iload_n 3, 1) := by decide +kernel
theorem dX10_projectsWhole_43 : decode cX10_projectsWhole 43 = .ok (.aload_n 0, 1) := by decide +kernel
theorem dX10_projectsWhole_44 : decode cX10_projectsWhole 44 = .ok (.iload_n 3, 1) := by decide +kernel
theorem dX10_projectsWhole_45 : decode cX10_projectsWhole 45 = .ok (.iconst 4, 1) := by decide +kernel
theorem dX10_projectsWhole_46 : decode cX10_projectsWhole 46 = .ok (.invokevirtual 169, 3) := by decide +kernel
theorem dX10_projectsWhole_49 : decode cX10_projectsWhole 49 = .ok (.i2l, 1) := by decide +kernel
theorem dX10_projectsWhole_50 : decode cX10_projectsWhole 50 = .ok (.lastore, 1) := by decide +kernel
theorem dX10_projectsWhole_51 : decode cX10_projectsWhole 51 = .ok (.iinc 3 1, 3) := by decide +kernel
theorem dX10_projectsWhole_54 : decode cX10_projectsWhole 54 = .ok (.goto (-27), 3) := by decide +kernel
theorem dX10_projectsWhole_57 : decode cX10_projectsWhole 57 = .ok (.aload_n 0, 1) := by decide +kernel
theorem dX10_projectsWhole_58 : decode cX10_projectsWhole 58 = .ok (.aload_n 0, 1) := by decide +kernel
theorem dX10_projectsWhole_59 : decode cX10_projectsWhole 59 = .ok (.aload_n 0, 1) := by decide +kernel
theorem dX10_projectsWhole_60 : decode cX10_projectsWhole 60 = .ok (.getfield 7, 3) := by decide +kernel
theorem dX10_projectsWhole_63 : decode cX10_projectsWhole 63 = .ok (.iconst 5, 1) := by decide +kernel
theorem dX10_projectsWhole_64 : decode cX10_projectsWhole 64 = .ok (.iaload, 1) := by decide +kernel
theorem dX10_projectsWhole_65 : decode cX10_projectsWhole 65 = .ok (.invokevirtual 237, 3) := by decide +kernel
theorem dX10_projectsWhole_68 : decode cX10_projectsWhole 68 = .ok (.aload_n 0, 1) := by decide +kernel
theorem dX10_projectsWhole_69 : decode cX10_projectsWhole 69 = .ok (.getfield 7, 3) := by decide +kernel
theorem dX10_projectsWhole_72 : decode cX10_projectsWhole 72 = .ok (.bipush 7, 2) := by decide +kernel
theorem dX10_projectsWhole_74 : decode cX10_projectsWhole 74 = .ok (.iaload, 1) := by decide +kernel
theorem dX10_projectsWhole_75 : decode cX10_projectsWhole 75 = .ok (.iconst 1, 1) := by decide +kernel
theorem dX10_projectsWhole_76 : decode cX10_projectsWhole 76 = .ok (.iadd, 1) := by decide +kernel
theorem dX10_projectsWhole_77 : decode cX10_projectsWhole 77 = .ok (.lload_n 1, 1) := by decide +kernel
theorem dX10_projectsWhole_78 : decode cX10_projectsWhole 78 = .ok (.invokevirtual 226, 3) := by decide +kernel
theorem dX10_projectsWhole_81 : decode cX10_projectsWhole 81 = .ok (.iconst 0, 1) := by decide +kernel
theorem dX10_projectsWhole_82 : decode cX10_projectsWhole 82 = .ok (.istore_n 3, 1) := by decide +kernel
theorem dX10_projectsWhole_83 : decode cX10_projectsWhole 83 = .ok (.iload_n 3, 1) := by decide +kernel
theorem dX10_projectsWhole_84 : decode cX10_projectsWhole 84 = .ok (.aload_n 0, 1) := by decide +kernel
theorem dX10_projectsWhole_85 : decode cX10_projectsWhole 85 = .ok (.getfield 7, 3) := by decide +kernel
theorem dX10_projectsWhole_88 : decode cX10_projectsWhole 88 = .ok (.bipush 7, 2) := by decide +kernel
theorem dX10_projectsWhole_90 : decode cX10_projectsWhole 90 = .ok (.iaload, 1) := by decide +kernel
theorem dX10_projectsWhole_91 : decode cX10_projectsWhole 91 = .ok (.if_icmp .ge 33, 3) := by decide +kernel
theorem dX10_projectsWhole_94 : decode cX10_projectsWhole 94 = .ok (.aload_n 0, 1) := by decide +kernel
theorem dX10_projectsWhole_95 : decode cX10_projectsWhole 95 = .ok (.getfield 46, 3) := by decide +kernel
theorem dX10_projectsWhole_98 : decode cX10_projectsWhole 98 = .ok (.iload_n 3, 1) := by decide +kernel
theorem dX10_projectsWhole_99 : decode cX10_projectsWhole 99 = .ok (.aload_n 0, 1) := by decide +kernel
theorem dX10_projectsWhole_100 : decode cX10_projectsWhole 100 = .ok (.iload_n 3, 1) := by decide +kernel
theorem dX10_projectsWhole_101 : decode cX10_projectsWhole 101 = .ok (.invokevirtual 187, 3) := by decide +kernel
theorem dX10_projectsWhole_104 : decode cX10_projectsWhole 104 = .ok (.ifCond .eq 12, 3) := by decide +kernel
theorem dX10_projectsWhole_107 : decode cX10_projectsWhole 107 = .ok (.aload_n 0, 1) := by decide +kernel
theorem dX10_projectsWhole_108 : decode cX10_projectsWhole 108 = .ok (.getfield 36, 3) := by decide +kernel
theorem dX10_projectsWhole_111 : decode cX10_projectsWhole 111 = .ok (.iload_n 3, 1) := by decide +kernel
theorem dX10_projectsWhole_112 : decode cX10_projectsWhole 112 = .ok (.laload, 1) := by decide +kernel
theorem dX10_projectsWhole_113 : decode cX10_projectsWhole 113 = .ok (.goto 4, 3) := by decide +kernel
theorem dX10_projectsWhole_116 : decode cX10_projectsWhole 116 = .ok (.lconst 0, 1) := by decide +kernel
theorem dX10_projectsWhole_117 : decode cX10_projectsWhole 117 = .ok (.lastore, 1) := by decide +kernel
theorem dX10_projectsWhole_118 : decode cX10_projectsWhole 118 = .ok (.iinc 3 1, 3) := by decide +kernel
theorem dX10_projectsWhole_121 : decode cX10_projectsWhole 121 = .ok (.goto (-38), 3) := by decide +kernel
theorem dX10_projectsWhole_124 : decode cX10_projectsWhole 124 = .ok (.aload_n 0, 1) := by decide +kernel
theorem dX10_projectsWhole_125 : decode cX10_projectsWhole 125 = .ok (.invokevirtual 244, 3) := by decide +kernel
theorem dX10_projectsWhole_128 : decode cX10_projectsWhole 128 = .ok (.return_, 1) := by decide +kernel
theorem dX10_forecastBalance_0 : decode cX10_forecastBalance 0 = .ok (.aload_n 0, 1) := by decide +kernel
theorem dX10_forecastBalance_1 : decode cX10_forecastBalance 1 = .ok (.aload_n 0, 1) := by decide +kernel
theorem dX10_forecastBalance_2 : decode cX10_forecastBalance 2 = .ok (.iload_n 1, 1) := by decide +kernel
theorem dX10_forecastBalance_3 : decode cX10_forecastBalance 3 = .ok (.invokevirtual 184, 3) := by decide +kernel
theorem dX10_forecastBalance_6 : decode cX10_forecastBalance 6 = .ok (.ifCond .ne 7, 3) := by decide +kernel
theorem dX10_forecastBalance_9 : decode cX10_forecastBalance 9 = .ok (.iconst 1, 1) := by decide +kernel
theorem dX10_forecastBalance_10 : decode cX10_forecastBalance 10 = .ok (.goto 20, 3) := by decide +kernel
theorem dX10_forecastBalance_13 : decode cX10_forecastBalance 13 = .ok (.iload_n 2, 1) := by decide +kernel
theorem dX10_forecastBalance_14 : decode cX10_forecastBalance 14 = .ok (.i2l, 1) := by decide +kernel
theorem dX10_forecastBalance_15 : decode cX10_forecastBalance 15 = .ok (.lconst 1, 1) := by decide +kernel
theorem dX10_forecastBalance_16 : decode cX10_forecastBalance 16 = .ok (.ldc2_w 256, 3) := by decide +kernel
theorem dX10_forecastBalance_19 : decode cX10_forecastBalance 19 = .ok (.invokestatic 104, 3) := by decide +kernel
theorem dX10_forecastBalance_22 : decode cX10_forecastBalance 22 = .ok (.ifCond .ne 7, 3) := by decide +kernel
theorem dX10_forecastBalance_25 : decode cX10_forecastBalance 25 = .ok (.iconst 2, 1) := by decide +kernel
theorem dX10_forecastBalance_26 : decode cX10_forecastBalance 26 = .ok (.goto 4, 3) := by decide +kernel
theorem dX10_forecastBalance_29 : decode cX10_forecastBalance 29 = .ok (.iconst 0, 1) := by decide +kernel
theorem dX10_forecastBalance_30 : decode cX10_forecastBalance 30 = .ok (.putfield 63, 3) := by decide +kernel
theorem dX10_forecastBalance_33 : decode cX10_forecastBalance 33 = .ok (.aload_n 0, 1) := by decide +kernel
theorem dX10_forecastBalance_34 : decode cX10_forecastBalance 34 = .ok (.getfield 63, 3) := by decide +kernel
theorem dX10_forecastBalance_37 : decode cX10_forecastBalance 37 = .ok (.ifCond .le 5, 3) := by decide +kernel
theorem dX10_forecastBalance_40 : decode cX10_forecastBalance 40 = .ok (.lconst 0, 1) := by decide +kernel
theorem dX10_forecastBalance_41 : decode cX10_forecastBalance 41 = .ok (.lreturn, 1) := by decide +kernel
theorem dX10_forecastBalance_42 : decode cX10_forecastBalance 42 = .ok (.aload_n 0, 1) := by decide +kernel
theorem dX10_forecastBalance_43 : decode cX10_forecastBalance 43 = .ok (.iload_n 1, 1) := by decide +kernel
theorem dX10_forecastBalance_44 : decode cX10_forecastBalance 44 = .ok (.invokevirtual 187, 3) := by decide +kernel
theorem dX10_forecastBalance_47 : decode cX10_forecastBalance 47 = .ok (.ifCond .ne 5, 3) := by decide +kernel
theorem dX10_forecastBalance_50 : decode cX10_forecastBalance 50 = .ok (.lconst 0, 1) := by decide +kernel
theorem dX10_forecastBalance_51 : decode cX10_forecastBalance 51 = .ok (.lreturn, 1) := by decide +kernel
theorem dX10_forecastBalance_52 : decode cX10_forecastBalance 52 = .ok (.iconst 0, 1) := by decide +kernel
theorem dX10_forecastBalance_53 : decode cX10_forecastBalance 53 = .ok (.istore_n 3, 1) := by decide +kernel
theorem dX10_forecastBalance_54 : decode cX10_forecastBalance 54 = .ok (.iload_n 3, 1) := by decide +kernel
theorem dX10_forecastBalance_55 : decode cX10_forecastBalance 55 = .ok (.bipush 84, 2) := by decide +kernel
theorem dX10_forecastBalance_57 : decode cX10_forecastBalance 57 = .ok (.if_icmp .ge 36, 3) := by decide +kernel
theorem dX10_forecastBalance_60 : decode cX10_forecastBalance 60 = .ok (.aload_n 0, 1) := by decide +kernel
theorem dX10_forecastBalance_61 : decode cX10_forecastBalance 61 = .ok (.getfield 52, 3) := by decide +kernel
theorem dX10_forecastBalance_64 : decode cX10_forecastBalance 64 = .ok (.iload_n 3, 1) := by decide +kernel
theorem dX10_forecastBalance_65 : decode cX10_forecastBalance 65 = .ok (.iload_n 3, 1) := by decide +kernel
theorem dX10_forecastBalance_66 : decode cX10_forecastBalance 66 = .ok (.bipush 60, 2) := by decide +kernel
theorem dX10_forecastBalance_68 : decode cX10_forecastBalance 68 = .ok (.if_icmp .ge 17, 3) := by decide +kernel
theorem dX10_forecastBalance_71 : decode cX10_forecastBalance 71 = .ok (.aload_n 0, 1) := by decide +kernel
theorem dX10_forecastBalance_72 : decode cX10_forecastBalance 72 = .ok (.getfield 19, 3) := by decide +kernel
theorem dX10_forecastBalance_75 : decode cX10_forecastBalance 75 = .ok (.aload_n 0, 1) := by decide +kernel
theorem dX10_forecastBalance_76 : decode cX10_forecastBalance 76 = .ok (.iload_n 1, 1) := by decide +kernel
theorem dX10_forecastBalance_77 : decode cX10_forecastBalance 77 = .ok (.iload_n 3, 1) := by decide +kernel
theorem dX10_forecastBalance_78 : decode cX10_forecastBalance 78 = .ok (.invokevirtual 194, 3) := by decide +kernel
theorem dX10_forecastBalance_81 : decode cX10_forecastBalance 81 = .ok (.laload, 1) := by decide +kernel
theorem dX10_forecastBalance_82 : decode cX10_forecastBalance 82 = .ok (.goto 4, 3) := by decide +kernel
theorem dX10_forecastBalance_85 : decode cX10_forecastBalance 85 = .ok (.lconst 0, 1) := by decide +kernel
theorem dX10_forecastBalance_86 : decode cX10_forecastBalance 86 = .ok (.lastore, 1) := by decide +kernel
theorem dX10_forecastBalance_87 : decode cX10_forecastBalance 87 = .ok (.iinc 3 1, 3) := by decide +kernel
theorem dX10_forecastBalance_90 : decode cX10_forecastBalance 90 = .ok (.goto (-36), 3) := by decide +kernel
theorem dX10_forecastBalance_93 : decode cX10_forecastBalance 93 = .ok (.aload_n 0, 1) := by decide +kernel
theorem dX10_forecastBalance_94 : decode cX10_forecastBalance 94 = .ok (.getfield 19, 3) := by decide +kernel
theorem dX10_forecastBalance_97 : decode cX10_forecastBalance 97 = .ok (.aload_n 0, 1) := by decide +kernel
theorem dX10_forecastBalance_98 : decode cX10_forecastBalance 98 = .ok (.iload_n 1, 1) := by decide +kernel
theorem dX10_forecastBalance_99 : decode cX10_forecastBalance 99 = .ok (.iconst 0, 1) := by decide +kernel
theorem dX10_forecastBalance_100 : decode cX10_forecastBalance 100 = .ok (.invokevirtual 197, 3) := by decide +kernel
theorem dX10_forecastBalance_103 : decode cX10_forecastBalance 103 = .ok (.laload, 1) := by decide +kernel
theorem dX10_forecastBalance_104 : decode cX10_forecastBalance 104 = .ok (.lstore_n 3, 1) := by decide +kernel
theorem dX10_forecastBalance_105 : decode cX10_forecastBalance 105 = .ok (.iconst 0, 1) := by decide +kernel
theorem dX10_forecastBalance_106 : decode cX10_forecastBalance 106 = .ok (.istore 5, 2) := by decide +kernel
theorem dX10_forecastBalance_108 : decode cX10_forecastBalance 108 = .ok (.iload 5, 2) := by decide +kernel
theorem dX10_forecastBalance_110 : decode cX10_forecastBalance 110 = .ok (.iload_n 2, 1) := by decide +kernel
theorem dX10_forecastBalance_111 : decode cX10_forecastBalance 111 = .ok (.if_icmp .ge 123, 3) := by decide +kernel
theorem dX10_forecastBalance_114 : decode cX10_forecastBalance 114 = .ok (.iload 5, 2) := by decide +kernel
theorem dX10_forecastBalance_116 : decode cX10_forecastBalance 116 = .ok (.ifCond .ne 10, 3) := by decide +kernel
theorem dX10_forecastBalance_119 : decode cX10_forecastBalance 119 = .ok (.aload_n 0, 1) := by decide +kernel
theorem dX10_forecastBalance_120 : decode cX10_forecastBalance 120 = .ok (.invokevirtual 253, 3) := by decide +kernel
theorem dX10_forecastBalance_123 : decode cX10_forecastBalance 123 = .ok (.goto 7, 3) := by decide +kernel
theorem dX10_forecastBalance_126 : decode cX10_forecastBalance 126 = .ok (.aload_n 0, 1) := by decide +kernel
theorem dX10_forecastBalance_127 : decode cX10_forecastBalance 127 = .ok (.invokevirtual 258, 3) := by decide +kernel
theorem dX10_forecastBalance_130 : decode cX10_forecastBalance 130 = .ok (.aload_n 0, 1) := by decide +kernel
theorem dX10_forecastBalance_131 : decode cX10_forecastBalance 131 = .ok (.getfield 46, 3) := by decide +kernel
theorem dX10_forecastBalance_134 : decode cX10_forecastBalance 134 = .ok (.iload_n 1, 1) := by decide +kernel
theorem dX10_forecastBalance_135 : decode cX10_forecastBalance 135 = .ok (.laload, 1) := by decide +kernel
theorem dX10_forecastBalance_136 : decode cX10_forecastBalance 136 = .ok (.lstore 6, 2) := by decide +kernel
theorem dX10_forecastBalance_138 : decode cX10_forecastBalance 138 = .ok (.lload_n 3, 1) := by decide +kernel
theorem dX10_forecastBalance_139 : decode cX10_forecastBalance 139 = .ok (.lload 6, 2) := by decide +kernel
theorem dX10_forecastBalance_141 : decode cX10_forecastBalance 141 = .ok (.lcmp, 1) := by decide +kernel
theorem dX10_forecastBalance_142 : decode cX10_forecastBalance 142 = .ok (.ifCond .ge 7, 3) := by decide +kernel
theorem dX10_forecastBalance_145 : decode cX10_forecastBalance 145 = .ok (.lload_n 3, 1) := by decide +kernel
theorem dX10_forecastBalance_146 : decode cX10_forecastBalance 146 = .ok (.goto 5, 3) := by decide +kernel
theorem dX10_forecastBalance_149 : decode cX10_forecastBalance 149 = .ok (.lload 6, 2) := by decide +kernel
theorem dX10_forecastBalance_151 : decode cX10_forecastBalance 151 = .ok (.lstore 8, 2) := by decide +kernel
theorem dX10_forecastBalance_153 : decode cX10_forecastBalance 153 = .ok (.lload_n 3, 1) := by decide +kernel
theorem dX10_forecastBalance_154 : decode cX10_forecastBalance 154 = .ok (.lload 8, 2) := by decide +kernel
theorem dX10_forecastBalance_156 : decode cX10_forecastBalance 156 = .ok (.lsub, 1) := by decide +kernel
theorem dX10_forecastBalance_157 : decode cX10_forecastBalance 157 = .ok (.lstore_n 3, 1) := by decide +kernel
theorem dX10_forecastBalance_158 : decode cX10_forecastBalance 158 = .ok (.aload_n 0, 1) := by decide +kernel
theorem dX10_forecastBalance_159 : decode cX10_forecastBalance 159 = .ok (.getfield 52, 3) := by decide +kernel
theorem dX10_forecastBalance_162 : decode cX10_forecastBalance 162 = .ok (.aload_n 0, 1) := by decide +kernel
theorem dX10_forecastBalance_163 : decode cX10_forecastBalance 163 = .ok (.getfield 7, 3) := by decide +kernel
theorem dX10_forecastBalance_166 : decode cX10_forecastBalance 166 = .ok (.iconst 5, 1) := by decide +kernel
theorem dX10_forecastBalance_167 : decode cX10_forecastBalance 167 = .ok (.iaload, 1) := by decide +kernel
theorem dX10_forecastBalance_168 : decode cX10_forecastBalance 168 = .ok (.iload 5, 2) := by decide +kernel
theorem dX10_forecastBalance_170 : decode cX10_forecastBalance 170 = .ok (.iadd, 1) := by decide +kernel
theorem dX10_forecastBalance_171 : decode cX10_forecastBalance 171 = .ok (.dup2, 1) := by decide +kernel
theorem dX10_forecastBalance_172 : decode cX10_forecastBalance 172 = .ok (.laload, 1) := by decide +kernel
theorem dX10_forecastBalance_173 : decode cX10_forecastBalance 173 = .ok (.lload 6, 2) := by decide +kernel
theorem dX10_forecastBalance_175 : decode cX10_forecastBalance 175 = .ok (.lload 8, 2) := by decide +kernel
theorem dX10_forecastBalance_177 : decode cX10_forecastBalance 177 = .ok (.lsub, 1) := by decide +kernel
theorem dX10_forecastBalance_178 : decode cX10_forecastBalance 178 = .ok (.ladd, 1) := by decide +kernel
theorem dX10_forecastBalance_179 : decode cX10_forecastBalance 179 = .ok (.lastore, 1) := by decide +kernel
theorem dX10_forecastBalance_180 : decode cX10_forecastBalance 180 = .ok (.aload_n 0, 1) := by decide +kernel
theorem dX10_forecastBalance_181 : decode cX10_forecastBalance 181 = .ok (.aload_n 0, 1) := by decide +kernel
theorem dX10_forecastBalance_182 : decode cX10_forecastBalance 182 = .ok (.getfield 19, 3) := by decide +kernel
theorem dX10_forecastBalance_185 : decode cX10_forecastBalance 185 = .ok (.aload_n 0, 1) := by decide +kernel
theorem dX10_forecastBalance_186 : decode cX10_forecastBalance 186 = .ok (.iload_n 1, 1) := by decide +kernel
theorem dX10_forecastBalance_187 : decode cX10_forecastBalance 187 = .ok (.iconst 1, 1) := by decide +kernel
theorem dX10_forecastBalance_188 : decode cX10_forecastBalance 188 = .ok (.invokevirtual 197, 3) := by decide +kernel
theorem dX10_forecastBalance_191 : decode cX10_forecastBalance 191 = .ok (.laload, 1) := by decide +kernel
theorem dX10_forecastBalance_192 : decode cX10_forecastBalance 192 = .ok (.invokevirtual 261, 3) := by decide +kernel
theorem dX10_forecastBalance_195 : decode cX10_forecastBalance 195 = .ok (.istore 10, 2) := by decide +kernel
theorem dX10_forecastBalance_197 : decode cX10_forecastBalance 197 = .ok (.aload_n 0, 1) := by decide +kernel
theorem dX10_forecastBalance_198 : decode cX10_forecastBalance 198 = .ok (.getfield 7, 3) := by decide +kernel
theorem dX10_forecastBalance_201 : decode cX10_forecastBalance 201 = .ok (.iconst 5, 1) := by decide +kernel
theorem dX10_forecastBalance_202 : decode cX10_forecastBalance 202 = .ok (.iaload, 1) := by decide +kernel
theorem dX10_forecastBalance_203 : decode cX10_forecastBalance 203 = .ok (.iload 5, 2) := by decide +kernel
theorem dX10_forecastBalance_205 : decode cX10_forecastBalance 205 = .ok (.iadd, 1) := by decide +kernel
theorem dX10_forecastBalance_206 : decode cX10_forecastBalance 206 = .ok (.aload_n 0, 1) := by decide +kernel
theorem dX10_forecastBalance_207 : decode cX10_forecastBalance 207 = .ok (.getfield 7, 3) := by decide +kernel
theorem dX10_forecastBalance_210 : decode cX10_forecastBalance 210 = .ok (.iconst 1, 1) := by decide +kernel
theorem dX10_forecastBalance_211 : decode cX10_forecastBalance 211 = .ok (.iaload, 1) := by decide +kernel
theorem dX10_forecastBalance_212 : decode cX10_forecastBalance 212 = .ok (.isub, 1) := by decide +kernel
theorem dX10_forecastBalance_213 : decode cX10_forecastBalance 213 = .ok (.istore 11, 2) := by decide +kernel
theorem dX10_forecastBalance_215 : decode cX10_forecastBalance 215 = .ok (.iload 11, 2) := by decide +kernel
theorem dX10_forecastBalance_217 : decode cX10_forecastBalance 217 = .ok (.ifCond .lt 11, 3) := by decide +kernel
theorem dX10_forecastBalance_220 : decode cX10_forecastBalance 220 = .ok (.aload_n 0, 1) := by decide +kernel
theorem dX10_forecastBalance_221 : decode cX10_forecastBalance 221 = .ok (.getfield 52, 3) := by decide +kernel
theorem dX10_forecastBalance_224 : decode cX10_forecastBalance 224 = .ok (.iload 11, 2) := by decide +kernel
theorem dX10_forecastBalance_226 : decode cX10_forecastBalance 226 = .ok (.lconst 0, 1) := by decide +kernel
theorem dX10_forecastBalance_227 : decode cX10_forecastBalance 227 = .ok (.lastore, 1) := by decide +kernel
theorem dX10_forecastBalance_228 : decode cX10_forecastBalance 228 = .ok (.iinc 5 1, 3) := by decide +kernel
theorem dX10_forecastBalance_231 : decode cX10_forecastBalance 231 = .ok (.goto (-123), 3) := by decide +kernel
theorem dX10_forecastBalance_234 : decode cX10_forecastBalance 234 = .ok (.lconst 0, 1) := by decide +kernel
theorem dX10_forecastBalance_235 : decode cX10_forecastBalance 235 = .ok (.lstore 5, 2) := by decide +kernel
theorem dX10_forecastBalance_237 : decode cX10_forecastBalance 237 = .ok (.iconst 0, 1) := by decide +kernel
theorem dX10_forecastBalance_238 : decode cX10_forecastBalance 238 = .ok (.istore 7, 2) := by decide +kernel
theorem dX10_forecastBalance_240 : decode cX10_forecastBalance 240 = .ok (.iload 7, 2) := by decide +kernel
theorem dX10_forecastBalance_242 : decode cX10_forecastBalance 242 = .ok (.bipush 84, 2) := by decide +kernel
theorem dX10_forecastBalance_244 : decode cX10_forecastBalance 244 = .ok (.if_icmp .ge 21, 3) := by decide +kernel
theorem dX10_forecastBalance_247 : decode cX10_forecastBalance 247 = .ok (.lload 5, 2) := by decide +kernel
theorem dX10_forecastBalance_249 : decode cX10_forecastBalance 249 = .ok (.aload_n 0, 1) := by decide +kernel
theorem dX10_forecastBalance_250 : decode cX10_forecastBalance 250 = .ok (.getfield 52, 3) := by decide +kernel
theorem dX10_forecastBalance_253 : decode cX10_forecastBalance 253 = .ok (.iload 7, 2) := by decide +kernel
theorem dX10_forecastBalance_255 : decode cX10_forecastBalance 255 = .ok (.laload, 1) := by decide +kernel
theorem dX10_forecastBalance_256 : decode cX10_forecastBalance 256 = .ok (.ladd, 1) := by decide +kernel
theorem dX10_forecastBalance_257 : decode cX10_forecastBalance 257 = .ok (.lstore 5, 2) := by decide +kernel
theorem dX10_forecastBalance_259 : decode cX10_forecastBalance 259 = .ok (.iinc 7 1, 3) := by decide +kernel
theorem dX10_forecastBalance_262 : decode cX10_forecastBalance 262 = .ok (.goto (-22), 3) := by decide +kernel
theorem dX10_forecastBalance_265 : decode cX10_forecastBalance 265 = .ok (.lload 5, 2) := by decide +kernel
theorem dX10_forecastBalance_267 : decode cX10_forecastBalance 267 = .ok (.lreturn, 1) := by decide +kernel
theorem dX10_neededRate_0 : decode cX10_neededRate 0 = .ok (.aload_n 0, 1) := by decide +kernel
theorem dX10_neededRate_1 : decode cX10_neededRate 1 = .ok (.iload_n 1, 1) := by decide +kernel
theorem dX10_neededRate_2 : decode cX10_neededRate 2 = .ok (.iconst (-1), 1) := by decide +kernel
theorem dX10_neededRate_3 : decode cX10_neededRate 3 = .ok (.if_icmp .eq 11, 3) := by decide +kernel
theorem dX10_neededRate_6 : decode cX10_neededRate 6 = .ok (.aload_n 0, 1) := by decide +kernel
theorem dX10_neededRate_7 : decode cX10_neededRate 7 = .ok (.iload_n 1, 1) := by decide +kernel
theorem dX10_neededRate_8 : decode cX10_neededRate 8 = .ok (.invokevirtual 184, 3) := by decide +kernel
theorem dX10_neededRate_11 : decode cX10_neededRate 11 = .ok (.ifCond .eq 21, 3) := by decide +kernel
theorem dX10_neededRate_14 : decode cX10_neededRate 14 = .ok (.iload_n 2, 1) := by decide +kernel
theorem dX10_neededRate_15 : decode cX10_neededRate 15 = .ok (.i2l, 1) := by decide +kernel
theorem dX10_neededRate_16 : decode cX10_neededRate 16 = .ok (.lconst 0, 1) := by decide +kernel
theorem dX10_neededRate_17 : decode cX10_neededRate 17 = .ok (.aload_n 0, 1) := by decide +kernel
theorem dX10_neededRate_18 : decode cX10_neededRate 18 = .ok (.getfield 7, 3) := by decide +kernel
theorem dX10_neededRate_21 : decode cX10_neededRate 21 = .ok (.iconst 4, 1) := by decide +kernel
theorem dX10_neededRate_22 : decode cX10_neededRate 22 = .ok (.iaload, 1) := by decide +kernel
theorem dX10_neededRate_23 : decode cX10_neededRate 23 = .ok (.iconst 1, 1) := by decide +kernel
theorem dX10_neededRate_24 : decode cX10_neededRate 24 = .ok (.isub, 1) := by decide +kernel
theorem dX10_neededRate_25 : decode cX10_neededRate 25 = .ok (.i2l, 1) := by decide +kernel
theorem dX10_neededRate_26 : decode cX10_neededRate 26 = .ok (.invokestatic 104, 3) := by decide +kernel
theorem dX10_neededRate_29 : decode cX10_neededRate 29 = .ok (.ifCond .ne 7, 3) := by decide +kernel
theorem dX10_neededRate_32 : decode cX10_neededRate 32 = .ok (.iconst 1, 1) := by decide +kernel
theorem dX10_neededRate_33 : decode cX10_neededRate 33 = .ok (.goto 4, 3) := by decide +kernel
theorem dX10_neededRate_36 : decode cX10_neededRate 36 = .ok (.iconst 0, 1) := by decide +kernel
theorem dX10_neededRate_37 : decode cX10_neededRate 37 = .ok (.putfield 63, 3) := by decide +kernel
theorem dX10_neededRate_40 : decode cX10_neededRate 40 = .ok (.aload_n 0, 1) := by decide +kernel
theorem dX10_neededRate_41 : decode cX10_neededRate 41 = .ok (.getfield 63, 3) := by decide +kernel
theorem dX10_neededRate_44 : decode cX10_neededRate 44 = .ok (.ifCond .le 5, 3) := by decide +kernel
theorem dX10_neededRate_47 : decode cX10_neededRate 47 = .ok (.iconst 0, 1) := by decide +kernel
theorem dX10_neededRate_48 : decode cX10_neededRate 48 = .ok (.ireturn, 1) := by decide +kernel
theorem dX10_neededRate_49 : decode cX10_neededRate 49 = .ok (.aload_n 0, 1) := by decide +kernel
theorem dX10_neededRate_50 : decode cX10_neededRate 50 = .ok (.getfield 7, 3) := by decide +kernel
theorem dX10_neededRate_53 : decode cX10_neededRate 53 = .ok (.aload_n 0, 1) := by decide +kernel
theorem dX10_neededRate_54 : decode cX10_neededRate 54 = .ok (.aload_n 0, 1) := by decide +kernel
theorem dX10_neededRate_55 : decode cX10_neededRate 55 = .ok (.getfield 7, 3) := by decide +kernel
theorem dX10_neededRate_58 : decode cX10_neededRate 58 = .ok (.iconst 5, 1) := by decide +kernel
theorem dX10_neededRate_59 : decode cX10_neededRate 59 = .ok (.iaload, 1) := by decide +kernel
theorem dX10_neededRate_60 : decode cX10_neededRate 60 = .ok (.iload_n 2, 1) := by decide +kernel
theorem dX10_neededRate_61 : decode cX10_neededRate 61 = .ok (.invokevirtual 221, 3) := by decide +kernel
theorem dX10_neededRate_64 : decode cX10_neededRate 64 = .ok (.iaload, 1) := by decide +kernel
theorem dX10_neededRate_65 : decode cX10_neededRate 65 = .ok (.i2l, 1) := by decide +kernel
theorem dX10_neededRate_66 : decode cX10_neededRate 66 = .ok (.lstore 5, 2) := by decide +kernel
theorem dX10_neededRate_68 : decode cX10_neededRate 68 = .ok (.aload_n 0, 1) := by decide +kernel
theorem dX10_neededRate_69 : decode cX10_neededRate 69 = .ok (.aload_n 0, 1) := by decide +kernel
theorem dX10_neededRate_70 : decode cX10_neededRate 70 = .ok (.getfield 7, 3) := by decide +kernel
theorem dX10_neededRate_73 : decode cX10_neededRate 73 = .ok (.iconst 5, 1) := by decide +kernel
theorem dX10_neededRate_74 : decode cX10_neededRate 74 = .ok (.iaload, 1) := by decide +kernel
theorem dX10_neededRate_75 : decode cX10_neededRate 75 = .ok (.invokevirtual 237, 3) := by decide +kernel
theorem dX10_neededRate_78 : decode cX10_neededRate 78 = .ok (.lload 5, 2) := by decide +kernel
theorem dX10_neededRate_80 : decode cX10_neededRate 80 = .ok (.aload_n 0, 1) := by decide +kernel
theorem dX10_neededRate_81 : decode cX10_neededRate 81 = .ok (.getfield 7, 3) := by decide +kernel
theorem dX10_neededRate_84 : decode cX10_neededRate 84 = .ok (.bipush 32, 2) := by decide +kernel
theorem dX10_neededRate_86 : decode cX10_neededRate 86 = .ok (.iload_n 2, 1) := by decide +kernel
theorem dX10_neededRate_87 : decode cX10_neededRate 87 = .ok (.iadd, 1) := by decide +kernel
theorem dX10_neededRate_88 : decode cX10_neededRate 88 = .ok (.iaload, 1) := by decide +kernel
theorem dX10_neededRate_89 : decode cX10_neededRate 89 = .ok (.i2l, 1) := by decide +kernel
theorem dX10_neededRate_90 : decode cX10_neededRate 90 = .ok (.lmul, 1) := by decide +kernel
theorem dX10_neededRate_91 : decode cX10_neededRate 91 = .ok (.lsub, 1) := by decide +kernel
theorem dX10_neededRate_92 : decode cX10_neededRate 92 = .ok (.lstore 7, 2) := by decide +kernel
theorem dX10_neededRate_94 : decode cX10_neededRate 94 = .ok (.iconst 0, 1) := by decide +kernel
theorem dX10_neededRate_95 : decode cX10_neededRate 95 = .ok (.istore 9, 2) := by decide +kernel
theorem dX10_neededRate_97 : decode cX10_neededRate 97 = .ok (.iload 9, 2) := by decide +kernel
theorem dX10_neededRate_99 : decode cX10_neededRate 99 = .ok (.sipush 200, 3) := by decide +kernel
theorem dX10_neededRate_102 : decode cX10_neededRate 102 = .ok (.if_icmp .gt 67, 3) := by decide +kernel
theorem dX10_neededRate_105 : decode cX10_neededRate 105 = .ok (.aload_n 0, 1) := by decide +kernel
theorem dX10_neededRate_106 : decode cX10_neededRate 106 = .ok (.lload 7, 2) := by decide +kernel
theorem dX10_neededRate_108 : decode cX10_neededRate 108 = .ok (.lload 5, 2) := by decide +kernel
theorem dX10_neededRate_110 : decode cX10_neededRate 110 = .ok (.iload 9, 2) := by decide +kernel
theorem dX10_neededRate_112 : decode cX10_neededRate 112 = .ok (.i2l, 1) := by decide +kernel
theorem dX10_neededRate_113 : decode cX10_neededRate 113 = .ok (.lmul, 1) := by decide +kernel
theorem dX10_neededRate_114 : decode cX10_neededRate 114 = .ok (.ladd, 1) := by decide +kernel
theorem dX10_neededRate_115 : decode cX10_neededRate 115 = .ok (.aload_n 0, 1) := by decide +kernel
theorem dX10_neededRate_116 : decode cX10_neededRate 116 = .ok (.getfield 7, 3) := by decide +kernel
theorem dX10_neededRate_119 : decode cX10_neededRate 119 = .ok (.iconst 5, 1) := by decide +kernel
theorem dX10_neededRate_120 : decode cX10_neededRate 120 = .ok (.iaload, 1) := by decide +kernel
theorem dX10_neededRate_121 : decode cX10_neededRate 121 = .ok (.bipush 30, 2) := by decide +kernel
theorem dX10_neededRate_123 : decode cX10_neededRate 123 = .ok (.aload_n 0, 1) := by decide +kernel
theorem dX10_neededRate_124 : decode cX10_neededRate 124 = .ok (.getfield 7, 3) := by decide +kernel
theorem dX10_neededRate_127 : decode cX10_neededRate 127 = .ok (.bipush 6, 2) := by decide +kernel
theorem dX10_neededRate_129 : decode cX10_neededRate 129 = .ok (.iaload, 1) := by decide +kernel
theorem dX10_neededRate_130 : decode cX10_neededRate 130 = .ok (.isub, 1) := by decide +kernel
theorem dX10_neededRate_131 : decode cX10_neededRate 131 = .ok (.invokevirtual 240, 3) := by decide +kernel
theorem dX10_neededRate_134 : decode cX10_neededRate 134 = .ok (.aload_n 0, 1) := by decide +kernel
theorem dX10_neededRate_135 : decode cX10_neededRate 135 = .ok (.getfield 36, 3) := by decide +kernel
theorem dX10_neededRate_138 : decode cX10_neededRate 138 = .ok (.iload_n 1, 1) := by decide +kernel
theorem dX10_neededRate_139 : decode cX10_neededRate 139 = .ok (.iconst (-1), 1) := by decide +kernel
theorem dX10_neededRate_140 : decode cX10_neededRate 140 = .ok (.if_icmp .ne 13, 3) := by decide +kernel
theorem dX10_neededRate_143 : decode cX10_neededRate 143 = .ok (.aload_n 0, 1) := by decide +kernel
theorem dX10_neededRate_144 : decode cX10_neededRate 144 = .ok (.getfield 7, 3) := by decide +kernel
theorem dX10_neededRate_147 : decode cX10_neededRate 147 = .ok (.bipush 7, 2) := by decide +kernel
theorem dX10_neededRate_149 : decode cX10_neededRate 149 = .ok (.iaload, 1) := by decide +kernel
theorem dX10_neededRate_150 : decode cX10_neededRate 150 = .ok (.goto 4, 3) := by decide +kernel
theorem dX10_neededRate_153 : decode cX10_neededRate 153 = .ok (.iload_n 1, 1) := by decide +kernel
theorem dX10_neededRate_154 : decode cX10_neededRate 154 = .ok (.laload, 1) := by decide +kernel
theorem dX10_neededRate_155 : decode cX10_neededRate 155 = .ok (.lload_n 3, 1) := by decide +kernel
theorem dX10_neededRate_156 : decode cX10_neededRate 156 = .ok (.lcmp, 1) := by decide +kernel
theorem dX10_neededRate_157 : decode cX10_neededRate 157 = .ok (.ifCond .lt 6, 3) := by decide +kernel
theorem dX10_neededRate_160 : decode cX10_neededRate 160 = .ok (.iload 9, 2) := by decide +kernel
theorem dX10_neededRate_162 : decode cX10_neededRate 162 = .ok (.ireturn, 1) := by decide +kernel
theorem dX10_neededRate_163 : decode cX10_neededRate 163 = .ok (.iinc 9 1, 3) := by decide +kernel
theorem dX10_neededRate_166 : decode cX10_neededRate 166 = .ok (.goto (-69), 3) := by decide +kernel
theorem dX10_neededRate_169 : decode cX10_neededRate 169 = .ok (.aload_n 0, 1) := by decide +kernel
theorem dX10_neededRate_170 : decode cX10_neededRate 170 = .ok (.iconst 2, 1) := by decide +kernel
theorem dX10_neededRate_171 : decode cX10_neededRate 171 = .ok (.putfield 63, 3) := by decide +kernel
theorem dX10_neededRate_174 : decode cX10_neededRate 174 = .ok (.iconst 0, 1) := by decide +kernel
theorem dX10_neededRate_175 : decode cX10_neededRate 175 = .ok (.ireturn, 1) := by decide +kernel
theorem dX10_issued_0 : decode cX10_issued 0 = .ok (.aload_n 0, 1) := by decide +kernel
theorem dX10_issued_1 : decode cX10_issued 1 = .ok (.aload_n 0, 1) := by decide +kernel
theorem dX10_issued_2 : decode cX10_issued 2 = .ok (.iload_n 1, 1) := by decide +kernel
theorem dX10_issued_3 : decode cX10_issued 3 = .ok (.invokevirtual 250, 3) := by decide +kernel
theorem dX10_issued_6 : decode cX10_issued 6 = .ok (.ifCond .eq 7, 3) := by decide +kernel
theorem dX10_issued_9 : decode cX10_issued 9 = .ok (.iconst 0, 1) := by decide +kernel
theorem dX10_issued_10 : decode cX10_issued 10 = .ok (.goto 4, 3) := by decide +kernel
theorem dX10_issued_13 : decode cX10_issued 13 = .ok (.iconst 1, 1) := by decide +kernel
theorem dX10_issued_14 : decode cX10_issued 14 = .ok (.putfield 63, 3) := by decide +kernel
theorem dX10_issued_17 : decode cX10_issued 17 = .ok (.aload_n 0, 1) := by decide +kernel
theorem dX10_issued_18 : decode cX10_issued 18 = .ok (.getfield 63, 3) := by decide +kernel
theorem dX10_issued_21 : decode cX10_issued 21 = .ok (.ifCond .le 7, 3) := by decide +kernel
theorem dX10_issued_24 : decode cX10_issued 24 = .ok (.lconst 0, 1) := by decide +kernel
theorem dX10_issued_25 : decode cX10_issued 25 = .ok (.goto 8, 3) := by decide +kernel
theorem dX10_issued_28 : decode cX10_issued 28 = .ok (.aload_n 0, 1) := by decide +kernel
theorem dX10_issued_29 : decode cX10_issued 29 = .ok (.iload_n 1, 1) := by decide +kernel
theorem dX10_issued_30 : decode cX10_issued 30 = .ok (.invokevirtual 237, 3) := by decide +kernel
theorem dX10_issued_33 : decode cX10_issued 33 = .ok (.lreturn, 1) := by decide +kernel
theorem dX10_divisor_0 : decode cX10_divisor 0 = .ok (.lload_n 2, 1) := by decide +kernel
theorem dX10_divisor_1 : decode cX10_divisor 1 = .ok (.lconst 0, 1) := by decide +kernel
theorem dX10_divisor_2 : decode cX10_divisor 2 = .ok (.lcmp, 1) := by decide +kernel
theorem dX10_divisor_3 : decode cX10_divisor 3 = .ok (.ifCond .ne 7, 3) := by decide +kernel
theorem dX10_divisor_6 : decode cX10_divisor 6 = .ok (.lload_n 0, 1) := by decide +kernel
theorem dX10_divisor_7 : decode cX10_divisor 7 = .ok (.goto 10, 3) := by decide +kernel
theorem dX10_divisor_10 : decode cX10_divisor 10 = .ok (.lload_n 2, 1) := by decide +kernel
theorem dX10_divisor_11 : decode cX10_divisor 11 = .ok (.lload_n 0, 1) := by decide +kernel
theorem dX10_divisor_12 : decode cX10_divisor 12 = .ok (.lload_n 2, 1) := by decide +kernel
theorem dX10_divisor_13 : decode cX10_divisor 13 = .ok (.lrem, 1) := by decide +kernel
theorem dX10_divisor_14 : decode cX10_divisor 14 = .ok (.invokestatic 265, 3) := by decide +kernel
theorem dX10_divisor_17 : decode cX10_divisor 17 = .ok (.lreturn, 1) := by decide +kernel
theorem dX10_shareDayValue_0 : decode cX10_shareDayValue 0 = .ok (.aload_n 0, 1) := by decide +kernel
theorem dX10_shareDayValue_1 : decode cX10_shareDayValue 1 = .ok (.aload_n 0, 1) := by decide +kernel
theorem dX10_shareDayValue_2 : decode cX10_shareDayValue 2 = .ok (.iload_n 1, 1) := by decide +kernel
theorem dX10_shareDayValue_3 : decode cX10_shareDayValue 3 = .ok (.invokevirtual 250, 3) := by decide +kernel
theorem dX10_shareDayValue_6 : decode cX10_shareDayValue 6 = .ok (.ifCond .eq 7, 3) := by decide +kernel
theorem dX10_shareDayValue_9 : decode cX10_shareDayValue 9 = .ok (.iconst 0, 1) := by decide +kernel
theorem dX10_shareDayValue_10 : decode cX10_shareDayValue 10 = .ok (.goto 4, 3) := by decide +kernel
theorem dX10_shareDayValue_13 : decode cX10_shareDayValue 13 = .ok (.iconst 1, 1) := by decide +kernel
theorem dX10_shareDayValue_14 : decode cX10_shareDayValue 14 = .ok (.putfield 63, 3) := by decide +kernel
theorem dX10_shareDayValue_17 : decode cX10_shareDayValue 17 = .ok (.aload_n 0, 1) := by decide +kernel
theorem dX10_shareDayValue_18 : decode cX10_shareDayValue 18 = .ok (.getfield 63, 3) := by decide +kernel
theorem dX10_shareDayValue_21 : decode cX10_shareDayValue 21 = .ok (.ifCond .le 5, 3) := by decide +kernel
theorem dX10_shareDayValue_24 : decode cX10_shareDayValue 24 = .ok (.lconst 0, 1) := by decide +kernel
theorem dX10_shareDayValue_25 : decode cX10_shareDayValue 25 = .ok (.lreturn, 1) := by decide +kernel
theorem dX10_shareDayValue_26 : decode cX10_shareDayValue 26 = .ok (.aload_n 0, 1) := by decide +kernel
theorem dX10_shareDayValue_27 : decode cX10_shareDayValue 27 = .ok (.iload_n 1, 1) := by decide +kernel
theorem dX10_shareDayValue_28 : decode cX10_shareDayValue 28 = .ok (.invokevirtual 237, 3) := by decide +kernel
theorem dX10_shareDayValue_31 : decode cX10_shareDayValue 31 = .ok (.lstore_n 3, 1) := by decide +kernel
theorem dX10_shareDayValue_32 : decode cX10_shareDayValue 32 = .ok (.ldc2_w 214, 3) := by decide +kernel
theorem dX10_shareDayValue_35 : decode cX10_shareDayValue 35 = .ok (.aload_n 0, 1) := by decide +kernel
theorem dX10_shareDayValue_36 : decode cX10_shareDayValue 36 = .ok (.getfield 7, 3) := by decide +kernel
theorem dX10_shareDayValue_39 : decode cX10_shareDayValue 39 = .ok (.iconst 0, 1) := by decide +kernel
theorem dX10_shareDayValue_40 : decode cX10_shareDayValue 40 = .ok (.iaload, 1) := by decide +kernel
theorem dX10_shareDayValue_41 : decode cX10_shareDayValue 41 = .ok (.i2l, 1) := by decide +kernel
theorem dX10_shareDayValue_42 : decode cX10_shareDayValue 42 = .ok (.lmul, 1) := by decide +kernel
theorem dX10_shareDayValue_43 : decode cX10_shareDayValue 43 = .ok (.lstore 5, 2) := by decide +kernel
theorem dX10_shareDayValue_45 : decode cX10_shareDayValue 45 = .ok (.iload_n 2, 1) := by decide +kernel
theorem dX10_shareDayValue_46 : decode cX10_shareDayValue 46 = .ok (.ifCond .eq 8, 3) := by decide +kernel
theorem dX10_shareDayValue_49 : decode cX10_shareDayValue 49 = .ok (.lload 5, 2) := by decide +kernel
theorem dX10_shareDayValue_51 : decode cX10_shareDayValue 51 = .ok (.goto 4, 3) := by decide +kernel
theorem dX10_shareDayValue_54 : decode cX10_shareDayValue 54 = .ok (.lload_n 3, 1) := by decide +kernel
theorem dX10_shareDayValue_55 : decode cX10_shareDayValue 55 = .ok (.lload_n 3, 1) := by decide +kernel
theorem dX10_shareDayValue_56 : decode cX10_shareDayValue 56 = .ok (.lload 5, 2) := by decide +kernel
theorem dX10_shareDayValue_58 : decode cX10_shareDayValue 58 = .ok (.invokestatic 265, 3) := by decide +kernel
theorem dX10_shareDayValue_61 : decode cX10_shareDayValue 61 = .ok (.ldiv, 1) := by decide +kernel
theorem dX10_shareDayValue_62 : decode cX10_shareDayValue 62 = .ok (.lreturn, 1) := by decide +kernel
theorem dX10_neededShares_0 : decode cX10_neededShares 0 = .ok (.aload_n 0, 1) := by decide +kernel
theorem dX10_neededShares_1 : decode cX10_neededShares 1 = .ok (.aload_n 0, 1) := by decide +kernel
theorem dX10_neededShares_2 : decode cX10_neededShares 2 = .ok (.getfield 7, 3) := by decide +kernel
theorem dX10_neededShares_5 : decode cX10_neededShares 5 = .ok (.iconst 5, 1) := by decide +kernel
theorem dX10_neededShares_6 : decode cX10_neededShares 6 = .ok (.iaload, 1) := by decide +kernel
theorem dX10_neededShares_7 : decode cX10_neededShares 7 = .ok (.invokevirtual 237, 3) := by decide +kernel
theorem dX10_neededShares_10 : decode cX10_neededShares 10 = .ok (.lstore_n 3, 1) := by decide +kernel
theorem dX10_neededShares_11 : decode cX10_neededShares 11 = .ok (.aload_n 0, 1) := by decide +kernel
theorem dX10_neededShares_12 : decode cX10_neededShares 12 = .ok (.lload_n 1, 1) := by decide +kernel
theorem dX10_neededShares_13 : decode cX10_neededShares 13 = .ok (.lconst 0, 1) := by decide +kernel
theorem dX10_neededShares_14 : decode cX10_neededShares 14 = .ok (.lcmp, 1) := by decide +kernel
theorem dX10_neededShares_15 : decode cX10_neededShares 15 = .ok (.ifCond .ge 7, 3) := by decide +kernel
theorem dX10_neededShares_18 : decode cX10_neededShares 18 = .ok (.iconst 1, 1) := by decide +kernel
theorem dX10_neededShares_19 : decode cX10_neededShares 19 = .ok (.goto 14, 3) := by decide +kernel
theorem dX10_neededShares_22 : decode cX10_neededShares 22 = .ok (.lload_n 3, 1) := by decide +kernel
theorem dX10_neededShares_23 : decode cX10_neededShares 23 = .ok (.lload_n 1, 1) := by decide +kernel
theorem dX10_neededShares_24 : decode cX10_neededShares 24 = .ok (.lcmp, 1) := by decide +kernel
theorem dX10_neededShares_25 : decode cX10_neededShares 25 = .ok (.ifCond .ge 7, 3) := by decide +kernel
theorem dX10_neededShares_28 : decode cX10_neededShares 28 = .ok (.iconst 2, 1) := by decide +kernel
theorem dX10_neededShares_29 : decode cX10_neededShares 29 = .ok (.goto 4, 3) := by decide +kernel
theorem dX10_neededShares_32 : decode cX10_neededShares 32 = .ok (.iconst 0, 1) := by decide +kernel
theorem dX10_neededShares_33 : decode cX10_neededShares 33 = .ok (.putfield 63, 3) := by decide +kernel
theorem dX10_neededShares_36 : decode cX10_neededShares 36 = .ok (.aload_n 0, 1) := by decide +kernel
theorem dX10_neededShares_37 : decode cX10_neededShares 37 = .ok (.getfield 63, 3) := by decide +kernel
theorem dX10_neededShares_40 : decode cX10_neededShares 40 = .ok (.ifCond .le 5, 3) := by decide +kernel
theorem dX10_neededShares_43 : decode cX10_neededShares 43 = .ok (.iconst 0, 1) := by decide +kernel
theorem dX10_neededShares_44 : decode cX10_neededShares 44 = .ok (.ireturn, 1) := by decide +kernel
theorem dX10_neededShares_45 : decode cX10_neededShares 45 = .ok (.lload_n 1, 1) := by decide +kernel
theorem dX10_neededShares_46 : decode cX10_neededShares 46 = .ok (.lconst 0, 1) := by decide +kernel
theorem dX10_neededShares_47 : decode cX10_neededShares 47 = .ok (.lcmp, 1) := by decide +kernel
theorem dX10_neededShares_48 : decode cX10_neededShares 48 = .ok (.ifCond .ne 7, 3) := by decide +kernel
theorem dX10_neededShares_51 : decode cX10_neededShares 51 = .ok (.iconst 1, 1) := by decide +kernel
theorem dX10_neededShares_52 : decode cX10_neededShares 52 = .ok (.goto 19, 3) := by decide +kernel
theorem dX10_neededShares_55 : decode cX10_neededShares 55 = .ok (.lload_n 1, 1) := by decide +kernel
theorem dX10_neededShares_56 : decode cX10_neededShares 56 = .ok (.aload_n 0, 1) := by decide +kernel
theorem dX10_neededShares_57 : decode cX10_neededShares 57 = .ok (.getfield 7, 3) := by decide +kernel
theorem dX10_neededShares_60 : decode cX10_neededShares 60 = .ok (.iconst 0, 1) := by decide +kernel
theorem dX10_neededShares_61 : decode cX10_neededShares 61 = .ok (.iaload, 1) := by decide +kernel
theorem dX10_neededShares_62 : decode cX10_neededShares 62 = .ok (.i2l, 1) := by decide +kernel
theorem dX10_neededShares_63 : decode cX10_neededShares 63 = .ok (.lmul, 1) := by decide +kernel
theorem dX10_neededShares_64 : decode cX10_neededShares 64 = .ok (.lload_n 3, 1) := by decide +kernel
theorem dX10_neededShares_65 : decode cX10_neededShares 65 = .ok (.ladd, 1) := by decide +kernel
theorem dX10_neededShares_66 : decode cX10_neededShares 66 = .ok (.lconst 1, 1) := by decide +kernel
theorem dX10_neededShares_67 : decode cX10_neededShares 67 = .ok (.lsub, 1) := by decide +kernel
theorem dX10_neededShares_68 : decode cX10_neededShares 68 = .ok (.lload_n 3, 1) := by decide +kernel
theorem dX10_neededShares_69 : decode cX10_neededShares 69 = .ok (.ldiv, 1) := by decide +kernel
theorem dX10_neededShares_70 : decode cX10_neededShares 70 = .ok (.l2i, 1) := by decide +kernel
theorem dX10_neededShares_71 : decode cX10_neededShares 71 = .ok (.ireturn, 1) := by decide +kernel
theorem dX10_balance_0 : decode cX10_balance 0 = .ok (.aload_n 0, 1) := by decide +kernel
theorem dX10_balance_1 : decode cX10_balance 1 = .ok (.iload_n 1, 1) := by decide +kernel
theorem dX10_balance_2 : decode cX10_balance 2 = .ok (.invokevirtual 208, 3) := by decide +kernel
theorem dX10_balance_5 : decode cX10_balance 5 = .ok (.ifCond .eq 7, 3) := by decide +kernel
theorem dX10_balance_8 : decode cX10_balance 8 = .ok (.lconst 0, 1) := by decide +kernel
theorem dX10_balance_9 : decode cX10_balance 9 = .ok (.goto 8, 3) := by decide +kernel
theorem dX10_balance_12 : decode cX10_balance 12 = .ok (.aload_n 0, 1) := by decide +kernel
theorem dX10_balance_13 : decode cX10_balance 13 = .ok (.iload_n 1, 1) := by decide +kernel
theorem dX10_balance_14 : decode cX10_balance 14 = .ok (.invokevirtual 204, 3) := by decide +kernel
theorem dX10_balance_17 : decode cX10_balance 17 = .ok (.lreturn, 1) := by decide +kernel
theorem dX10_lot_0 : decode cX10_lot 0 = .ok (.aload_n 0, 1) := by decide +kernel
theorem dX10_lot_1 : decode cX10_lot 1 = .ok (.aload_n 0, 1) := by decide +kernel
theorem dX10_lot_2 : decode cX10_lot 2 = .ok (.iload_n 1, 1) := by decide +kernel
theorem dX10_lot_3 : decode cX10_lot 3 = .ok (.invokevirtual 184, 3) := by decide +kernel
theorem dX10_lot_6 : decode cX10_lot 6 = .ok (.ifCond .eq 15, 3) := by decide +kernel
theorem dX10_lot_9 : decode cX10_lot 9 = .ok (.aload_n 0, 1) := by decide +kernel
theorem dX10_lot_10 : decode cX10_lot 10 = .ok (.iload_n 2, 1) := by decide +kernel
theorem dX10_lot_11 : decode cX10_lot 11 = .ok (.invokevirtual 250, 3) := by decide +kernel
theorem dX10_lot_14 : decode cX10_lot 14 = .ok (.ifCond .eq 7, 3) := by decide +kernel
theorem dX10_lot_17 : decode cX10_lot 17 = .ok (.iconst 0, 1) := by decide +kernel
theorem dX10_lot_18 : decode cX10_lot 18 = .ok (.goto 4, 3) := by decide +kernel
theorem dX10_lot_21 : decode cX10_lot 21 = .ok (.iconst 1, 1) := by decide +kernel
theorem dX10_lot_22 : decode cX10_lot 22 = .ok (.putfield 63, 3) := by decide +kernel
theorem dX10_lot_25 : decode cX10_lot 25 = .ok (.aload_n 0, 1) := by decide +kernel
theorem dX10_lot_26 : decode cX10_lot 26 = .ok (.getfield 63, 3) := by decide +kernel
theorem dX10_lot_29 : decode cX10_lot 29 = .ok (.ifCond .le 7, 3) := by decide +kernel
theorem dX10_lot_32 : decode cX10_lot 32 = .ok (.lconst 0, 1) := by decide +kernel
theorem dX10_lot_33 : decode cX10_lot 33 = .ok (.goto 14, 3) := by decide +kernel
theorem dX10_lot_36 : decode cX10_lot 36 = .ok (.aload_n 0, 1) := by decide +kernel
theorem dX10_lot_37 : decode cX10_lot 37 = .ok (.getfield 19, 3) := by decide +kernel
theorem dX10_lot_40 : decode cX10_lot 40 = .ok (.aload_n 0, 1) := by decide +kernel
theorem dX10_lot_41 : decode cX10_lot 41 = .ok (.iload_n 1, 1) := by decide +kernel
theorem dX10_lot_42 : decode cX10_lot 42 = .ok (.iload_n 2, 1) := by decide +kernel
theorem dX10_lot_43 : decode cX10_lot 43 = .ok (.invokevirtual 194, 3) := by decide +kernel
theorem dX10_lot_46 : decode cX10_lot 46 = .ok (.laload, 1) := by decide +kernel
theorem dX10_lot_47 : decode cX10_lot 47 = .ok (.lreturn, 1) := by decide +kernel
theorem dX10_account_0 : decode cX10_account 0 = .ok (.aload_n 0, 1) := by decide +kernel
theorem dX10_account_1 : decode cX10_account 1 = .ok (.aload_n 0, 1) := by decide +kernel
theorem dX10_account_2 : decode cX10_account 2 = .ok (.iload_n 1, 1) := by decide +kernel
theorem dX10_account_3 : decode cX10_account 3 = .ok (.invokevirtual 184, 3) := by decide +kernel
theorem dX10_account_6 : decode cX10_account 6 = .ok (.ifCond .ne 7, 3) := by decide +kernel
theorem dX10_account_9 : decode cX10_account 9 = .ok (.iconst 1, 1) := by decide +kernel
theorem dX10_account_10 : decode cX10_account 10 = .ok (.goto 20, 3) := by decide +kernel
theorem dX10_account_13 : decode cX10_account 13 = .ok (.iload_n 2, 1) := by decide +kernel
theorem dX10_account_14 : decode cX10_account 14 = .ok (.i2l, 1) := by decide +kernel
theorem dX10_account_15 : decode cX10_account 15 = .ok (.lconst 0, 1) := by decide +kernel
theorem dX10_account_16 : decode cX10_account 16 = .ok (.ldc2_w 162, 3) := by decide +kernel
theorem dX10_account_19 : decode cX10_account 19 = .ok (.invokestatic 104, 3) := by decide +kernel
theorem dX10_account_22 : decode cX10_account 22 = .ok (.ifCond .ne 7, 3) := by decide +kernel
theorem dX10_account_25 : decode cX10_account 25 = .ok (.iconst 2, 1) := by decide +kernel
theorem dX10_account_26 : decode cX10_account 26 = .ok (.goto 4, 3) := by decide +kernel
theorem dX10_account_29 : decode cX10_account 29 = .ok (.iconst 0, 1) := by decide +kernel
theorem dX10_account_30 : decode cX10_account 30 = .ok (.putfield 63, 3) := by decide +kernel
theorem dX10_account_33 : decode cX10_account 33 = .ok (.aload_n 0, 1) := by decide +kernel
theorem dX10_account_34 : decode cX10_account 34 = .ok (.getfield 63, 3) := by decide +kernel
theorem dX10_account_37 : decode cX10_account 37 = .ok (.ifCond .le 7, 3) := by decide +kernel
theorem dX10_account_40 : decode cX10_account 40 = .ok (.lconst 0, 1) := by decide +kernel
theorem dX10_account_41 : decode cX10_account 41 = .ok (.goto 14, 3) := by decide +kernel
theorem dX10_account_44 : decode cX10_account 44 = .ok (.aload_n 0, 1) := by decide +kernel
theorem dX10_account_45 : decode cX10_account 45 = .ok (.getfield 19, 3) := by decide +kernel
theorem dX10_account_48 : decode cX10_account 48 = .ok (.aload_n 0, 1) := by decide +kernel
theorem dX10_account_49 : decode cX10_account 49 = .ok (.iload_n 1, 1) := by decide +kernel
theorem dX10_account_50 : decode cX10_account 50 = .ok (.iload_n 2, 1) := by decide +kernel
theorem dX10_account_51 : decode cX10_account 51 = .ok (.invokevirtual 197, 3) := by decide +kernel
theorem dX10_account_54 : decode cX10_account 54 = .ok (.laload, 1) := by decide +kernel
theorem dX10_account_55 : decode cX10_account 55 = .ok (.lreturn, 1) := by decide +kernel
theorem dX10_expiring_0 : decode cX10_expiring 0 = .ok (.aload_n 0, 1) := by decide +kernel
theorem dX10_expiring_1 : decode cX10_expiring 1 = .ok (.getfield 7, 3) := by decide +kernel
theorem dX10_expiring_4 : decode cX10_expiring 4 = .ok (.iconst 5, 1) := by decide +kernel
theorem dX10_expiring_5 : decode cX10_expiring 5 = .ok (.iaload, 1) := by decide +kernel
theorem dX10_expiring_6 : decode cX10_expiring 6 = .ok (.aload_n 0, 1) := by decide +kernel
theorem dX10_expiring_7 : decode cX10_expiring 7 = .ok (.getfield 7, 3) := by decide +kernel
theorem dX10_expiring_10 : decode cX10_expiring 10 = .ok (.iconst 1, 1) := by decide +kernel
theorem dX10_expiring_11 : decode cX10_expiring 11 = .ok (.iaload, 1) := by decide +kernel
theorem dX10_expiring_12 : decode cX10_expiring 12 = .ok (.isub, 1) := by decide +kernel
theorem dX10_expiring_13 : decode cX10_expiring 13 = .ok (.istore_n 2, 1) := by decide +kernel
theorem dX10_expiring_14 : decode cX10_expiring 14 = .ok (.aload_n 0, 1) := by decide +kernel
theorem dX10_expiring_15 : decode cX10_expiring 15 = .ok (.iload_n 1, 1) := by decide +kernel
theorem dX10_expiring_16 : decode cX10_expiring 16 = .ok (.invokevirtual 208, 3) := by decide +kernel
theorem dX10_expiring_19 : decode cX10_expiring 19 = .ok (.ifCond .ne 7, 3) := by decide +kernel
theorem dX10_expiring_22 : decode cX10_expiring 22 = .ok (.iload_n 2, 1) := by decide +kernel
theorem dX10_expiring_23 : decode cX10_expiring 23 = .ok (.ifCond .ge 5, 3) := by decide +kernel
theorem dX10_expiring_26 : decode cX10_expiring 26 = .ok (.lconst 0, 1) := by decide +kernel
theorem dX10_expiring_27 : decode cX10_expiring 27 = .ok (.lreturn, 1) := by decide +kernel
theorem dX10_expiring_28 : decode cX10_expiring 28 = .ok (.aload_n 0, 1) := by decide +kernel
theorem dX10_expiring_29 : decode cX10_expiring 29 = .ok (.getfield 19, 3) := by decide +kernel
theorem dX10_expiring_32 : decode cX10_expiring 32 = .ok (.aload_n 0, 1) := by decide +kernel
theorem dX10_expiring_33 : decode cX10_expiring 33 = .ok (.iload_n 1, 1) := by decide +kernel
theorem dX10_expiring_34 : decode cX10_expiring 34 = .ok (.iload_n 2, 1) := by decide +kernel
theorem dX10_expiring_35 : decode cX10_expiring 35 = .ok (.invokevirtual 194, 3) := by decide +kernel
theorem dX10_expiring_38 : decode cX10_expiring 38 = .ok (.laload, 1) := by decide +kernel
theorem dX10_expiring_39 : decode cX10_expiring 39 = .ok (.aload_n 0, 1) := by decide +kernel
theorem dX10_expiring_40 : decode cX10_expiring 40 = .ok (.getfield 19, 3) := by decide +kernel
theorem dX10_expiring_43 : decode cX10_expiring 43 = .ok (.aload_n 0, 1) := by decide +kernel
theorem dX10_expiring_44 : decode cX10_expiring 44 = .ok (.iload_n 1, 1) := by decide +kernel
theorem dX10_expiring_45 : decode cX10_expiring 45 = .ok (.iconst 1, 1) := by decide +kernel
theorem dX10_expiring_46 : decode cX10_expiring 46 = .ok (.invokevirtual 197, 3) := by decide +kernel
theorem dX10_expiring_49 : decode cX10_expiring 49 = .ok (.laload, 1) := by decide +kernel
theorem dX10_expiring_50 : decode cX10_expiring 50 = .ok (.lsub, 1) := by decide +kernel
theorem dX10_expiring_51 : decode cX10_expiring 51 = .ok (.lstore_n 3, 1) := by decide +kernel
theorem dX10_expiring_52 : decode cX10_expiring 52 = .ok (.lload_n 3, 1) := by decide +kernel
theorem dX10_expiring_53 : decode cX10_expiring 53 = .ok (.lconst 0, 1) := by decide +kernel
theorem dX10_expiring_54 : decode cX10_expiring 54 = .ok (.lcmp, 1) := by decide +kernel
theorem dX10_expiring_55 : decode cX10_expiring 55 = .ok (.ifCond .le 7, 3) := by decide +kernel
theorem dX10_expiring_58 : decode cX10_expiring 58 = .ok (.lload_n 3, 1) := by decide +kernel
theorem dX10_expiring_59 : decode cX10_expiring 59 = .ok (.goto 4, 3) := by decide +kernel
theorem dX10_expiring_62 : decode cX10_expiring 62 = .ok (.lconst 0, 1) := by decide +kernel
theorem dX10_expiring_63 : decode cX10_expiring 63 = .ok (.lreturn, 1) := by decide +kernel
theorem dX10_pays_0 : decode cX10_pays 0 = .ok (.lload_n 1, 1) := by decide +kernel
theorem dX10_pays_1 : decode cX10_pays 1 = .ok (.lstore_n 3, 1) := by decide +kernel
theorem dX10_pays_2 : decode cX10_pays 2 = .ok (.iconst 0, 1) := by decide +kernel
theorem dX10_pays_3 : decode cX10_pays 3 = .ok (.istore 5, 2) := by decide +kernel
theorem dX10_pays_5 : decode cX10_pays 5 = .ok (.iload 5, 2) := by decide +kernel
theorem dX10_pays_7 : decode cX10_pays 7 = .ok (.bipush 84, 2) := by decide +kernel
theorem dX10_pays_9 : decode cX10_pays 9 = .ok (.if_icmp .ge 57, 3) := by decide +kernel
theorem dX10_pays_12 : decode cX10_pays 12 = .ok (.lload_n 3, 1) := by decide +kernel
theorem dX10_pays_13 : decode cX10_pays 13 = .ok (.lconst 0, 1) := by decide +kernel
theorem dX10_pays_14 : decode cX10_pays 14 = .ok (.lcmp, 1) := by decide +kernel
theorem dX10_pays_15 : decode cX10_pays 15 = .ok (.ifCond .le 51, 3) := by decide +kernel
theorem dX10_pays_18 : decode cX10_pays 18 = .ok (.aload_n 0, 1) := by decide +kernel
theorem dX10_pays_19 : decode cX10_pays 19 = .ok (.getfield 52, 3) := by decide +kernel
theorem dX10_pays_22 : decode cX10_pays 22 = .ok (.iload 5, 2) := by decide +kernel
theorem dX10_pays_24 : decode cX10_pays 24 = .ok (.laload, 1) := by decide +kernel
theorem dX10_pays_25 : decode cX10_pays 25 = .ok (.lload_n 3, 1) := by decide +kernel
theorem dX10_pays_26 : decode cX10_pays 26 = .ok (.lcmp, 1) := by decide +kernel
theorem dX10_pays_27 : decode cX10_pays 27 = .ok (.ifCond .ge 13, 3) := by decide +kernel
theorem dX10_pays_30 : decode cX10_pays 30 = .ok (.aload_n 0, 1) := by decide +kernel
theorem dX10_pays_31 : decode cX10_pays 31 = .ok (.getfield 52, 3) := by decide +kernel
theorem dX10_pays_34 : decode cX10_pays 34 = .ok (.iload 5, 2) := by decide +kernel
theorem dX10_pays_36 : decode cX10_pays 36 = .ok (.laload, 1) := by decide +kernel
theorem dX10_pays_37 : decode cX10_pays 37 = .ok (.goto 4, 3) := by decide +kernel
theorem dX10_pays_40 : decode cX10_pays 40 = .ok (.lload_n 3, 1) := by decide +kernel
theorem dX10_pays_41 : decode cX10_pays 41 = .ok (.lstore 6, 2) := by decide +kernel
theorem dX10_pays_43 : decode cX10_pays 43 = .ok (.aload_n 0, 1) := by decide +kernel
theorem dX10_pays_44 : decode cX10_pays 44 = .ok (.getfield 52, 3) := by decide +kernel
theorem dX10_pays_47 : decode cX10_pays 47 = .ok (.iload 5, 2) := by decide +kernel
theorem dX10_pays_49 : decode cX10_pays 49 = .ok (.dup2, 1) := by decide +kernel
theorem dX10_pays_50 : decode cX10_pays 50 = .ok (.laload, 1) := by decide +kernel
theorem dX10_pays_51 : decode cX10_pays 51 = .ok (.lload 6, 2) := by decide +kernel
theorem dX10_pays_53 : decode cX10_pays 53 = .ok (.lsub, 1) := by decide +kernel
theorem dX10_pays_54 : decode cX10_pays 54 = .ok (.lastore, 1) := by decide +kernel
theorem dX10_pays_55 : decode cX10_pays 55 = .ok (.lload_n 3, 1) := by decide +kernel
theorem dX10_pays_56 : decode cX10_pays 56 = .ok (.lload 6, 2) := by decide +kernel
theorem dX10_pays_58 : decode cX10_pays 58 = .ok (.lsub, 1) := by decide +kernel
theorem dX10_pays_59 : decode cX10_pays 59 = .ok (.lstore_n 3, 1) := by decide +kernel
theorem dX10_pays_60 : decode cX10_pays 60 = .ok (.iinc 5 1, 3) := by decide +kernel
theorem dX10_pays_63 : decode cX10_pays 63 = .ok (.goto (-58), 3) := by decide +kernel
theorem dX10_pays_66 : decode cX10_pays 66 = .ok (.lload_n 3, 1) := by decide +kernel
theorem dX10_pays_67 : decode cX10_pays 67 = .ok (.lconst 0, 1) := by decide +kernel
theorem dX10_pays_68 : decode cX10_pays 68 = .ok (.lcmp, 1) := by decide +kernel
theorem dX10_pays_69 : decode cX10_pays 69 = .ok (.ifCond .ne 7, 3) := by decide +kernel
theorem dX10_pays_72 : decode cX10_pays 72 = .ok (.iconst 1, 1) := by decide +kernel
theorem dX10_pays_73 : decode cX10_pays 73 = .ok (.goto 4, 3) := by decide +kernel
theorem dX10_pays_76 : decode cX10_pays 76 = .ok (.iconst 0, 1) := by decide +kernel
theorem dX10_pays_77 : decode cX10_pays 77 = .ok (.ireturn, 1) := by decide +kernel
theorem dX10_monthsCovered_0 : decode cX10_monthsCovered 0 = .ok (.aload_n 0, 1) := by decide +kernel
theorem dX10_monthsCovered_1 : decode cX10_monthsCovered 1 = .ok (.aload_n 0, 1) := by decide +kernel
theorem dX10_monthsCovered_2 : decode cX10_monthsCovered 2 = .ok (.iload_n 1, 1) := by decide +kernel
theorem dX10_monthsCovered_3 : decode cX10_monthsCovered 3 = .ok (.invokevirtual 184, 3) := by decide +kernel
theorem dX10_monthsCovered_6 : decode cX10_monthsCovered 6 = .ok (.ifCond .ne 7, 3) := by decide +kernel
theorem dX10_monthsCovered_9 : decode cX10_monthsCovered 9 = .ok (.iconst 1, 1) := by decide +kernel
theorem dX10_monthsCovered_10 : decode cX10_monthsCovered 10 = .ok (.goto 14, 3) := by decide +kernel
theorem dX10_monthsCovered_13 : decode cX10_monthsCovered 13 = .ok (.lload_n 2, 1) := by decide +kernel
theorem dX10_monthsCovered_14 : decode cX10_monthsCovered 14 = .ok (.lconst 1, 1) := by decide +kernel
theorem dX10_monthsCovered_15 : decode cX10_monthsCovered 15 = .ok (.lcmp, 1) := by decide +kernel
theorem dX10_monthsCovered_16 : decode cX10_monthsCovered 16 = .ok (.ifCond .ge 7, 3) := by decide +kernel
theorem dX10_monthsCovered_19 : decode cX10_monthsCovered 19 = .ok (.iconst 2, 1) := by decide +kernel
theorem dX10_monthsCovered_20 : decode cX10_monthsCovered 20 = .ok (.goto 4, 3) := by decide +kernel
theorem dX10_monthsCovered_23 : decode cX10_monthsCovered 23 = .ok (.iconst 0, 1) := by decide +kernel
theorem dX10_monthsCovered_24 : decode cX10_monthsCovered 24 = .ok (.putfield 63, 3) := by decide +kernel
theorem dX10_monthsCovered_27 : decode cX10_monthsCovered 27 = .ok (.aload_n 0, 1) := by decide +kernel
theorem dX10_monthsCovered_28 : decode cX10_monthsCovered 28 = .ok (.getfield 63, 3) := by decide +kernel
theorem dX10_monthsCovered_31 : decode cX10_monthsCovered 31 = .ok (.ifCond .le 5, 3) := by decide +kernel
theorem dX10_monthsCovered_34 : decode cX10_monthsCovered 34 = .ok (.iconst 0, 1) := by decide +kernel
theorem dX10_monthsCovered_35 : decode cX10_monthsCovered 35 = .ok (.ireturn, 1) := by decide +kernel
theorem dX10_monthsCovered_36 : decode cX10_monthsCovered 36 = .ok (.iconst 0, 1) := by decide +kernel
theorem dX10_monthsCovered_37 : decode cX10_monthsCovered 37 = .ok (.istore 4, 2) := by decide +kernel
theorem dX10_monthsCovered_39 : decode cX10_monthsCovered 39 = .ok (.iload 4, 2) := by decide +kernel
theorem dX10_monthsCovered_41 : decode cX10_monthsCovered 41 = .ok (.bipush 84, 2) := by decide +kernel
theorem dX10_monthsCovered_43 : decode cX10_monthsCovered 43 = .ok (.if_icmp .ge 39, 3) := by decide +kernel
theorem dX10_monthsCovered_46 : decode cX10_monthsCovered 46 = .ok (.aload_n 0, 1) := by decide +kernel
theorem dX10_monthsCovered_47 : decode cX10_monthsCovered 47 = .ok (.getfield 52, 3) := by decide +kernel
theorem dX10_monthsCovered_50 : decode cX10_monthsCovered 50 = .ok (.iload 4, 2) := by decide +kernel
theorem dX10_monthsCovered_52 : decode cX10_monthsCovered 52 = .ok (.iload 4, 2) := by decide +kernel
theorem dX10_monthsCovered_54 : decode cX10_monthsCovered 54 = .ok (.bipush 60, 2) := by decide +kernel
theorem dX10_monthsCovered_56 : decode cX10_monthsCovered 56 = .ok (.if_icmp .ge 18, 3) := by decide +kernel
theorem dX10_monthsCovered_59 : decode cX10_monthsCovered 59 = .ok (.aload_n 0, 1) := by decide +kernel
theorem dX10_monthsCovered_60 : decode cX10_monthsCovered 60 = .ok (.getfield 19, 3) := by decide +kernel
theorem dX10_monthsCovered_63 : decode cX10_monthsCovered 63 = .ok (.aload_n 0, 1) := by decide +kernel
theorem dX10_monthsCovered_64 : decode cX10_monthsCovered 64 = .ok (.iload_n 1, 1) := by decide +kernel
theorem dX10_monthsCovered_65 : decode cX10_monthsCovered 65 = .ok (.iload 4, 2) := by decide +kernel
theorem dX10_monthsCovered_67 : decode cX10_monthsCovered 67 = .ok (.invokevirtual 194, 3) := by decide +kernel
theorem dX10_monthsCovered_70 : decode cX10_monthsCovered 70 = .ok (.laload, 1) := by decide +kernel
theorem dX10_monthsCovered_71 : decode cX10_monthsCovered 71 = .ok (.goto 4, 3) := by decide +kernel
theorem dX10_monthsCovered_74 : decode cX10_monthsCovered 74 = .ok (.lconst 0, 1) := by decide +kernel
theorem dX10_monthsCovered_75 : decode cX10_monthsCovered 75 = .ok (.lastore, 1) := by decide +kernel
theorem dX10_monthsCovered_76 : decode cX10_monthsCovered 76 = .ok (.iinc 4 1, 3) := by decide +kernel
theorem dX10_monthsCovered_79 : decode cX10_monthsCovered 79 = .ok (.goto (-40), 3) := by decide +kernel
theorem dX10_monthsCovered_82 : decode cX10_monthsCovered 82 = .ok (.iconst 0, 1) := by decide +kernel
theorem dX10_monthsCovered_83 : decode cX10_monthsCovered 83 = .ok (.istore 4, 2) := by decide +kernel
theorem dX10_monthsCovered_85 : decode cX10_monthsCovered 85 = .ok (.aload_n 0, 1) := by decide +kernel
theorem dX10_monthsCovered_86 : decode cX10_monthsCovered 86 = .ok (.lload_n 2, 1) := by decide +kernel
theorem dX10_monthsCovered_87 : decode cX10_monthsCovered 87 = .ok (.invokevirtual 261, 3) := by decide +kernel
theorem dX10_monthsCovered_90 : decode cX10_monthsCovered 90 = .ok (.ifCond .eq 48, 3) := by decide +kernel
theorem dX10_monthsCovered_93 : decode cX10_monthsCovered 93 = .ok (.aload_n 0, 1) := by decide +kernel
theorem dX10_monthsCovered_94 : decode cX10_monthsCovered 94 = .ok (.getfield 7, 3) := by decide +kernel
theorem dX10_monthsCovered_97 : decode cX10_monthsCovered 97 = .ok (.iconst 5, 1) := by decide +kernel
theorem dX10_monthsCovered_98 : decode cX10_monthsCovered 98 = .ok (.iaload, 1) := by decide +kernel
theorem dX10_monthsCovered_99 : decode cX10_monthsCovered 99 = .ok (.iload 4, 2) := by decide +kernel
theorem dX10_monthsCovered_101 : decode cX10_monthsCovered 101 = .ok (.iadd, 1) := by decide +kernel
theorem dX10_monthsCovered_102 : decode cX10_monthsCovered 102 = .ok (.aload_n 0, 1) := by decide +kernel
theorem dX10_monthsCovered_103 : decode cX10_monthsCovered 103 = .ok (.getfield 7, 3) := by decide +kernel
theorem dX10_monthsCovered_106 : decode cX10_monthsCovered 106 = .ok (.iconst 1, 1) := by decide +kernel
theorem dX10_monthsCovered_107 : decode cX10_monthsCovered 107 = .ok (.iaload, 1) := by decide +kernel
theorem dX10_monthsCovered_108 : decode cX10_monthsCovered 108 = .ok (.isub, 1) := by decide +kernel
theorem dX10_monthsCovered_109 : decode cX10_monthsCovered 109 = .ok (.istore 5, 2) := by decide +kernel
theorem dX10_monthsCovered_111 : decode cX10_monthsCovered 111 = .ok (.iload 5, 2) := by decide +kernel
theorem dX10_monthsCovered_113 : decode cX10_monthsCovered 113 = .ok (.i2l, 1) := by decide +kernel
theorem dX10_monthsCovered_114 : decode cX10_monthsCovered 114 = .ok (.lconst 0, 1) := by decide +kernel
theorem dX10_monthsCovered_115 : decode cX10_monthsCovered 115 = .ok (.ldc2_w 269, 3) := by decide +kernel
theorem dX10_monthsCovered_118 : decode cX10_monthsCovered 118 = .ok (.invokestatic 104, 3) := by decide +kernel
theorem dX10_monthsCovered_121 : decode cX10_monthsCovered 121 = .ok (.ifCond .eq 11, 3) := by decide +kernel
theorem dX10_monthsCovered_124 : decode cX10_monthsCovered 124 = .ok (.aload_n 0, 1) := by decide +kernel
theorem dX10_monthsCovered_125 : decode cX10_monthsCovered 125 = .ok (.getfield 52, 3) := by decide +kernel
theorem dX10_monthsCovered_128 : decode cX10_monthsCovered 128 = .ok (.iload 5, 2) := by decide +kernel
theorem dX10_monthsCovered_130 : decode cX10_monthsCovered 130 = .ok (.lconst 0, 1) := by decide +kernel
theorem dX10_monthsCovered_131 : decode cX10_monthsCovered 131 = .ok (.lastore, 1) := by decide +kernel
theorem dX10_monthsCovered_132 : decode cX10_monthsCovered 132 = .ok (.iinc 4 1, 3) := by decide +kernel
theorem dX10_monthsCovered_135 : decode cX10_monthsCovered 135 = .ok (.goto (-50), 3) := by decide +kernel
theorem dX10_monthsCovered_138 : decode cX10_monthsCovered 138 = .ok (.iload 4, 2) := by decide +kernel
theorem dX10_monthsCovered_140 : decode cX10_monthsCovered 140 = .ok (.ireturn, 1) := by decide +kernel
theorem dX10_fund_0 : decode cX10_fund 0 = .ok (.aload_n 0, 1) := by decide +kernel
theorem dX10_fund_1 : decode cX10_fund 1 = .ok (.iconst 0, 1) := by decide +kernel
theorem dX10_fund_2 : decode cX10_fund 2 = .ok (.putfield 63, 3) := by decide +kernel
theorem dX10_fund_5 : decode cX10_fund 5 = .ok (.aload_n 0, 1) := by decide +kernel
theorem dX10_fund_6 : decode cX10_fund 6 = .ok (.getfield 19, 3) := by decide +kernel
theorem dX10_fund_9 : decode cX10_fund 9 = .ok (.iconst 0, 1) := by decide +kernel
theorem dX10_fund_10 : decode cX10_fund 10 = .ok (.laload, 1) := by decide +kernel
theorem dX10_fund_11 : decode cX10_fund 11 = .ok (.lreturn, 1) := by decide +kernel
theorem dX10_operatorAccount_0 : decode cX10_operatorAccount 0 = .ok (.aload_n 0, 1) := by decide +kernel
theorem dX10_operatorAccount_1 : decode cX10_operatorAccount 1 = .ok (.iconst 0, 1) := by decide +kernel
theorem dX10_operatorAccount_2 : decode cX10_operatorAccount 2 = .ok (.putfield 63, 3) := by decide +kernel
theorem dX10_operatorAccount_5 : decode cX10_operatorAccount 5 = .ok (.aload_n 0, 1) := by decide +kernel
theorem dX10_operatorAccount_6 : decode cX10_operatorAccount 6 = .ok (.getfield 19, 3) := by decide +kernel
theorem dX10_operatorAccount_9 : decode cX10_operatorAccount 9 = .ok (.iconst 1, 1) := by decide +kernel
theorem dX10_operatorAccount_10 : decode cX10_operatorAccount 10 = .ok (.laload, 1) := by decide +kernel
theorem dX10_operatorAccount_11 : decode cX10_operatorAccount 11 = .ok (.lreturn, 1) := by decide +kernel
theorem dX10_correct_0 : decode cX10_correct 0 = .ok (.aload_n 0, 1) := by decide +kernel
theorem dX10_correct_1 : decode cX10_correct 1 = .ok (.iload_n 1, 1) := by decide +kernel
theorem dX10_correct_2 : decode cX10_correct 2 = .ok (.i2l, 1) := by decide +kernel
theorem dX10_correct_3 : decode cX10_correct 3 = .ok (.lconst 0, 1) := by decide +kernel
theorem dX10_correct_4 : decode cX10_correct 4 = .ok (.aload_n 0, 1) := by decide +kernel
theorem dX10_correct_5 : decode cX10_correct 5 = .ok (.getfield 7, 3) := by decide +kernel
theorem dX10_correct_8 : decode cX10_correct 8 = .ok (.iconst 5, 1) := by decide +kernel
theorem dX10_correct_9 : decode cX10_correct 9 = .ok (.iaload, 1) := by decide +kernel
theorem dX10_correct_10 : decode cX10_correct 10 = .ok (.iconst 1, 1) := by decide +kernel
theorem dX10_correct_11 : decode cX10_correct 11 = .ok (.isub, 1) := by decide +kernel
theorem dX10_correct_12 : decode cX10_correct 12 = .ok (.i2l, 1) := by decide +kernel
theorem dX10_correct_13 : decode cX10_correct 13 = .ok (.invokestatic 104, 3) := by decide +kernel
theorem dX10_correct_16 : decode cX10_correct 16 = .ok (.ifCond .eq 21, 3) := by decide +kernel
theorem dX10_correct_19 : decode cX10_correct 19 = .ok (.iload_n 2, 1) := by decide +kernel
theorem dX10_correct_20 : decode cX10_correct 20 = .ok (.i2l, 1) := by decide +kernel
theorem dX10_correct_21 : decode cX10_correct 21 = .ok (.lconst 0, 1) := by decide +kernel
theorem dX10_correct_22 : decode cX10_correct 22 = .ok (.aload_n 0, 1) := by decide +kernel
theorem dX10_correct_23 : decode cX10_correct 23 = .ok (.getfield 7, 3) := by decide +kernel
theorem dX10_correct_26 : decode cX10_correct 26 = .ok (.iconst 4, 1) := by decide +kernel
theorem dX10_correct_27 : decode cX10_correct 27 = .ok (.iaload, 1) := by decide +kernel
theorem dX10_correct_28 : decode cX10_correct 28 = .ok (.iconst 1, 1) := by decide +kernel
theorem dX10_correct_29 : decode cX10_correct 29 = .ok (.isub, 1) := by decide +kernel
theorem dX10_correct_30 : decode cX10_correct 30 = .ok (.i2l, 1) := by decide +kernel
theorem dX10_correct_31 : decode cX10_correct 31 = .ok (.invokestatic 104, 3) := by decide +kernel
theorem dX10_correct_34 : decode cX10_correct 34 = .ok (.ifCond .ne 7, 3) := by decide +kernel
theorem dX10_correct_37 : decode cX10_correct 37 = .ok (.iconst 1, 1) := by decide +kernel
theorem dX10_correct_38 : decode cX10_correct 38 = .ok (.goto 20, 3) := by decide +kernel
theorem dX10_correct_41 : decode cX10_correct 41 = .ok (.iload_n 3, 1) := by decide +kernel
theorem dX10_correct_42 : decode cX10_correct 42 = .ok (.i2l, 1) := by decide +kernel
theorem dX10_correct_43 : decode cX10_correct 43 = .ok (.lconst 0, 1) := by decide +kernel
theorem dX10_correct_44 : decode cX10_correct 44 = .ok (.ldc2_w 219, 3) := by decide +kernel
theorem dX10_correct_47 : decode cX10_correct 47 = .ok (.invokestatic 104, 3) := by decide +kernel
theorem dX10_correct_50 : decode cX10_correct 50 = .ok (.ifCond .ne 7, 3) := by decide +kernel
theorem dX10_correct_53 : decode cX10_correct 53 = .ok (.iconst 2, 1) := by decide +kernel
theorem dX10_correct_54 : decode cX10_correct 54 = .ok (.goto 4, 3) := by decide +kernel
theorem dX10_correct_57 : decode cX10_correct 57 = .ok (.iconst 0, 1) := by decide +kernel
theorem dX10_correct_58 : decode cX10_correct 58 = .ok (.putfield 63, 3) := by decide +kernel
theorem dX10_correct_61 : decode cX10_correct 61 = .ok (.aload_n 0, 1) := by decide +kernel
theorem dX10_correct_62 : decode cX10_correct 62 = .ok (.getfield 63, 3) := by decide +kernel
theorem dX10_correct_65 : decode cX10_correct 65 = .ok (.ifCond .le 5, 3) := by decide +kernel
theorem dX10_correct_68 : decode cX10_correct 68 = .ok (.iconst 0, 1) := by decide +kernel
theorem dX10_correct_69 : decode cX10_correct 69 = .ok (.ireturn, 1) := by decide +kernel
theorem dX10_correct_70 : decode cX10_correct 70 = .ok (.aload_n 0, 1) := by decide +kernel
theorem dX10_correct_71 : decode cX10_correct 71 = .ok (.invokevirtual 157, 3) := by decide +kernel
theorem dX10_correct_74 : decode cX10_correct 74 = .ok (.aload_n 0, 1) := by decide +kernel
theorem dX10_correct_75 : decode cX10_correct 75 = .ok (.getfield 7, 3) := by decide +kernel
theorem dX10_correct_78 : decode cX10_correct 78 = .ok (.sipush 1348, 3) := by decide +kernel
theorem dX10_correct_81 : decode cX10_correct 81 = .ok (.iconst 4, 1) := by decide +kernel
theorem dX10_correct_82 : decode cX10_correct 82 = .ok (.iload_n 1, 1) := by decide +kernel
theorem dX10_correct_83 : decode cX10_correct 83 = .ok (.imul, 1) := by decide +kernel
theorem dX10_correct_84 : decode cX10_correct 84 = .ok (.iadd, 1) := by decide +kernel
theorem dX10_correct_85 : decode cX10_correct 85 = .ok (.iload_n 2, 1) := by decide +kernel
theorem dX10_correct_86 : decode cX10_correct 86 = .ok (.iadd, 1) := by decide +kernel
theorem dX10_correct_87 : decode cX10_correct 87 = .ok (.iload_n 3, 1) := by decide +kernel
theorem dX10_correct_88 : decode cX10_correct 88 = .ok (.iastore, 1) := by decide +kernel
theorem dX10_correct_89 : decode cX10_correct 89 = .ok (.aload_n 0, 1) := by decide +kernel
theorem dX10_correct_90 : decode cX10_correct 90 = .ok (.getfield 7, 3) := by decide +kernel
theorem dX10_correct_93 : decode cX10_correct 93 = .ok (.aload_n 0, 1) := by decide +kernel
theorem dX10_correct_94 : decode cX10_correct 94 = .ok (.iload_n 1, 1) := by decide +kernel
theorem dX10_correct_95 : decode cX10_correct 95 = .ok (.iload_n 2, 1) := by decide +kernel
theorem dX10_correct_96 : decode cX10_correct 96 = .ok (.invokevirtual 221, 3) := by decide +kernel
theorem dX10_correct_99 : decode cX10_correct 99 = .ok (.iaload, 1) := by decide +kernel
theorem dX10_correct_100 : decode cX10_correct 100 = .ok (.ireturn, 1) := by decide +kernel
theorem dX10_truesUp_0 : decode cX10_truesUp 0 = .ok (.aload_n 0, 1) := by decide +kernel
theorem dX10_truesUp_1 : decode cX10_truesUp 1 = .ok (.lload_n 2, 1) := by decide +kernel
theorem dX10_truesUp_2 : decode cX10_truesUp 2 = .ok (.lconst 0, 1) := by decide +kernel
theorem dX10_truesUp_3 : decode cX10_truesUp 3 = .ok (.lcmp, 1) := by decide +kernel
theorem dX10_truesUp_4 : decode cX10_truesUp 4 = .ok (.ifCond .ge 8, 3) := by decide +kernel
theorem dX10_truesUp_7 : decode cX10_truesUp 7 = .ok (.lload_n 2, 1) := by decide +kernel
theorem dX10_truesUp_8 : decode cX10_truesUp 8 = .ok (.lneg, 1) := by decide +kernel
theorem dX10_truesUp_9 : decode cX10_truesUp 9 = .ok (.goto 4, 3) := by decide +kernel
theorem dX10_truesUp_12 : decode cX10_truesUp 12 = .ok (.lload_n 2, 1) := by decide +kernel
theorem dX10_truesUp_13 : decode cX10_truesUp 13 = .ok (.iload_n 1, 1) := by decide +kernel
theorem dX10_truesUp_14 : decode cX10_truesUp 14 = .ok (.iconst 0, 1) := by decide +kernel
theorem dX10_truesUp_15 : decode cX10_truesUp 15 = .ok (.invokevirtual 240, 3) := by decide +kernel
theorem dX10_truesUp_18 : decode cX10_truesUp 18 = .ok (.lload_n 2, 1) := by decide +kernel
theorem dX10_truesUp_19 : decode cX10_truesUp 19 = .ok (.lconst 0, 1) := by decide +kernel
theorem dX10_truesUp_20 : decode cX10_truesUp 20 = .ok (.lcmp, 1) := by decide +kernel
theorem dX10_truesUp_21 : decode cX10_truesUp 21 = .ok (.ifCond .ge 9, 3) := by decide +kernel
theorem dX10_truesUp_24 : decode cX10_truesUp 24 = .ok (.ldc2_w 271, 3) := by decide +kernel
theorem dX10_truesUp_27 : decode cX10_truesUp 27 = .ok (.goto 4, 3) := by decide +kernel
theorem dX10_truesUp_30 : decode cX10_truesUp 30 = .ok (.lconst 1, 1) := by decide +kernel
theorem dX10_truesUp_31 : decode cX10_truesUp 31 = .ok (.lstore 4, 2) := by decide +kernel
theorem dX10_truesUp_33 : decode cX10_truesUp 33 = .ok (.aload_n 0, 1) := by decide +kernel
theorem dX10_truesUp_34 : decode cX10_truesUp 34 = .ok (.getfield 19, 3) := by decide +kernel
theorem dX10_truesUp_37 : decode cX10_truesUp 37 = .ok (.iconst 1, 1) := by decide +kernel
theorem dX10_truesUp_38 : decode cX10_truesUp 38 = .ok (.dup2, 1) := by decide +kernel
theorem dX10_truesUp_39 : decode cX10_truesUp 39 = .ok (.laload, 1) := by decide +kernel
theorem dX10_truesUp_40 : decode cX10_truesUp 40 = .ok (.lload 4, 2) := by decide +kernel
theorem dX10_truesUp_42 : decode cX10_truesUp 42 = .ok (.aload_n 0, 1) := by decide +kernel
theorem dX10_truesUp_43 : decode cX10_truesUp 43 = .ok (.getfield 36, 3) := by decide +kernel
theorem dX10_truesUp_46 : decode cX10_truesUp 46 = .ok (.aload_n 0, 1) := by decide +kernel
theorem dX10_truesUp_47 : decode cX10_truesUp 47 = .ok (.getfield 7, 3) := by decide +kernel
theorem dX10_truesUp_50 : decode cX10_truesUp 50 = .ok (.bipush 7, 2) := by decide +kernel
theorem dX10_truesUp_52 : decode cX10_truesUp 52 = .ok (.iaload, 1) := by decide +kernel
theorem dX10_truesUp_53 : decode cX10_truesUp 53 = .ok (.laload, 1) := by decide +kernel
theorem dX10_truesUp_54 : decode cX10_truesUp 54 = .ok (.lmul, 1) := by decide +kernel
theorem dX10_truesUp_55 : decode cX10_truesUp 55 = .ok (.ladd, 1) := by decide +kernel
theorem dX10_truesUp_56 : decode cX10_truesUp 56 = .ok (.lastore, 1) := by decide +kernel
theorem dX10_truesUp_57 : decode cX10_truesUp 57 = .ok (.iconst 0, 1) := by decide +kernel
theorem dX10_truesUp_58 : decode cX10_truesUp 58 = .ok (.istore 6, 2) := by decide +kernel
theorem dX10_truesUp_60 : decode cX10_truesUp 60 = .ok (.iload 6, 2) := by decide +kernel
theorem dX10_truesUp_62 : decode cX10_truesUp 62 = .ok (.aload_n 0, 1) := by decide +kernel
theorem dX10_truesUp_63 : decode cX10_truesUp 63 = .ok (.getfield 7, 3) := by decide +kernel
theorem dX10_truesUp_66 : decode cX10_truesUp 66 = .ok (.bipush 7, 2) := by decide +kernel
theorem dX10_truesUp_68 : decode cX10_truesUp 68 = .ok (.iaload, 1) := by decide +kernel
theorem dX10_truesUp_69 : decode cX10_truesUp 69 = .ok (.if_icmp .ge 91, 3) := by decide +kernel
theorem dX10_truesUp_72 : decode cX10_truesUp 72 = .ok (.aload_n 0, 1) := by decide +kernel
theorem dX10_truesUp_73 : decode cX10_truesUp 73 = .ok (.iload 6, 2) := by decide +kernel
theorem dX10_truesUp_75 : decode cX10_truesUp 75 = .ok (.invokevirtual 187, 3) := by decide +kernel
theorem dX10_truesUp_78 : decode cX10_truesUp 78 = .ok (.ifCond .ne 25, 3) := by decide +kernel
theorem dX10_truesUp_81 : decode cX10_truesUp 81 = .ok (.aload_n 0, 1) := by decide +kernel
theorem dX10_truesUp_82 : decode cX10_truesUp 82 = .ok (.getfield 19, 3) := by decide +kernel
theorem dX10_truesUp_85 : decode cX10_truesUp 85 = .ok (.iconst 0, 1) := by decide +kernel
theorem dX10_truesUp_86 : decode cX10_truesUp 86 = .ok (.dup2, 1) := by decide +kernel
theorem dX10_truesUp_87 : decode cX10_truesUp 87 = .ok (.laload, 1) := by decide +kernel
theorem dX10_truesUp_88 : decode cX10_truesUp 88 = .ok (.lload 4, 2) := by decide +kernel
theorem dX10_truesUp_90 : decode cX10_truesUp 90 = .ok (.aload_n 0, 1) := by decide +kernel
theorem dX10_truesUp_91 : decode cX10_truesUp 91 = .ok (.getfield 36, 3) := by decide +kernel
theorem dX10_truesUp_94 : decode cX10_truesUp 94 = .ok (.iload 6, 2) := by decide +kernel
theorem dX10_truesUp_96 : decode cX10_truesUp 96 = .ok (.laload, 1) := by decide +kernel
theorem dX10_truesUp_97 : decode cX10_truesUp 97 = .ok (.lmul, 1) := by decide +kernel
theorem dX10_truesUp_98 : decode cX10_truesUp 98 = .ok (.ladd, 1) := by decide +kernel
theorem dX10_truesUp_99 : decode cX10_truesUp 99 = .ok (.lastore, 1) := by decide +kernel
theorem dX10_truesUp_100 : decode cX10_truesUp 100 = .ok (.goto 54, 3) := by decide +kernel
theorem dX10_truesUp_103 : decode cX10_truesUp 103 = .ok (.lload_n 2, 1) := by decide +kernel
theorem dX10_truesUp_104 : decode cX10_truesUp 104 = .ok (.lconst 0, 1) := by decide +kernel
theorem dX10_truesUp_105 : decode cX10_truesUp 105 = .ok (.lcmp, 1) := by decide +kernel
theorem dX10_truesUp_106 : decode cX10_truesUp 106 = .ok (.ifCond .le 19, 3) := by decide +kernel
theorem dX10_truesUp_109 : decode cX10_truesUp 109 = .ok (.aload_n 0, 1) := by decide +kernel
theorem dX10_truesUp_110 : decode cX10_truesUp 110 = .ok (.iload 6, 2) := by decide +kernel
theorem dX10_truesUp_112 : decode cX10_truesUp 112 = .ok (.aload_n 0, 1) := by decide +kernel
theorem dX10_truesUp_113 : decode cX10_truesUp 113 = .ok (.getfield 36, 3) := by decide +kernel
theorem dX10_truesUp_116 : decode cX10_truesUp 116 = .ok (.iload 6, 2) := by decide +kernel
theorem dX10_truesUp_118 : decode cX10_truesUp 118 = .ok (.laload, 1) := by decide +kernel
theorem dX10_truesUp_119 : decode cX10_truesUp 119 = .ok (.invokevirtual 233, 3) := by decide +kernel
theorem dX10_truesUp_122 : decode cX10_truesUp 122 = .ok (.goto 32, 3) := by decide +kernel
theorem dX10_truesUp_125 : decode cX10_truesUp 125 = .ok (.aload_n 0, 1) := by decide +kernel
theorem dX10_truesUp_126 : decode cX10_truesUp 126 = .ok (.getfield 19, 3) := by decide +kernel
theorem dX10_truesUp_129 : decode cX10_truesUp 129 = .ok (.aload_n 0, 1) := by decide +kernel
theorem dX10_truesUp_130 : decode cX10_truesUp 130 = .ok (.iload 6, 2) := by decide +kernel
theorem dX10_truesUp_132 : decode cX10_truesUp 132 = .ok (.iconst 0, 1) := by decide +kernel
theorem dX10_truesUp_133 : decode cX10_truesUp 133 = .ok (.invokevirtual 197, 3) := by decide +kernel
theorem dX10_truesUp_136 : decode cX10_truesUp 136 = .ok (.dup2, 1) := by decide +kernel
theorem dX10_truesUp_137 : decode cX10_truesUp 137 = .ok (.laload, 1) := by decide +kernel
theorem dX10_truesUp_138 : decode cX10_truesUp 138 = .ok (.aload_n 0, 1) := by decide +kernel
theorem dX10_truesUp_139 : decode cX10_truesUp 139 = .ok (.iload 6, 2) := by decide +kernel
theorem dX10_truesUp_141 : decode cX10_truesUp 141 = .ok (.aload_n 0, 1) := by decide +kernel
theorem dX10_truesUp_142 : decode cX10_truesUp 142 = .ok (.getfield 36, 3) := by decide +kernel
theorem dX10_truesUp_145 : decode cX10_truesUp 145 = .ok (.iload 6, 2) := by decide +kernel
theorem dX10_truesUp_147 : decode cX10_truesUp 147 = .ok (.laload, 1) := by decide +kernel
theorem dX10_truesUp_148 : decode cX10_truesUp 148 = .ok (.iconst 1, 1) := by decide +kernel
theorem dX10_truesUp_149 : decode cX10_truesUp 149 = .ok (.invokevirtual 200, 3) := by decide +kernel
theorem dX10_truesUp_152 : decode cX10_truesUp 152 = .ok (.ladd, 1) := by decide +kernel
theorem dX10_truesUp_153 : decode cX10_truesUp 153 = .ok (.lastore, 1) := by decide +kernel
theorem dX10_truesUp_154 : decode cX10_truesUp 154 = .ok (.iinc 6 1, 3) := by decide +kernel
theorem dX10_truesUp_157 : decode cX10_truesUp 157 = .ok (.goto (-97), 3) := by decide +kernel
theorem dX10_truesUp_160 : decode cX10_truesUp 160 = .ok (.return_, 1) := by decide +kernel
theorem dX10_trueUp_0 : decode cX10_trueUp 0 = .ok (.aload_n 0, 1) := by decide +kernel
theorem dX10_trueUp_1 : decode cX10_trueUp 1 = .ok (.iconst 0, 1) := by decide +kernel
theorem dX10_trueUp_2 : decode cX10_trueUp 2 = .ok (.putfield 63, 3) := by decide +kernel
theorem dX10_trueUp_5 : decode cX10_trueUp 5 = .ok (.aload_n 0, 1) := by decide +kernel
theorem dX10_trueUp_6 : decode cX10_trueUp 6 = .ok (.invokevirtual 157, 3) := by decide +kernel
theorem dX10_trueUp_9 : decode cX10_trueUp 9 = .ok (.lconst 0, 1) := by decide +kernel
theorem dX10_trueUp_10 : decode cX10_trueUp 10 = .ok (.lstore_n 1, 1) := by decide +kernel
theorem dX10_trueUp_11 : decode cX10_trueUp 11 = .ok (.iconst 0, 1) := by decide +kernel
theorem dX10_trueUp_12 : decode cX10_trueUp 12 = .ok (.istore_n 3, 1) := by decide +kernel
theorem dX10_trueUp_13 : decode cX10_trueUp 13 = .ok (.iload_n 3, 1) := by decide +kernel
theorem dX10_trueUp_14 : decode cX10_trueUp 14 = .ok (.aload_n 0, 1) := by decide +kernel
theorem dX10_trueUp_15 : decode cX10_trueUp 15 = .ok (.getfield 7, 3) := by decide +kernel
theorem dX10_trueUp_18 : decode cX10_trueUp 18 = .ok (.iconst 5, 1) := by decide +kernel
theorem dX10_trueUp_19 : decode cX10_trueUp 19 = .ok (.iaload, 1) := by decide +kernel
theorem dX10_trueUp_20 : decode cX10_trueUp 20 = .ok (.if_icmp .ge 110, 3) := by decide +kernel
theorem dX10_trueUp_23 : decode cX10_trueUp 23 = .ok (.aload_n 0, 1) := by decide +kernel
theorem dX10_trueUp_24 : decode cX10_trueUp 24 = .ok (.iload_n 3, 1) := by decide +kernel
theorem dX10_trueUp_25 : decode cX10_trueUp 25 = .ok (.invokevirtual 237, 3) := by decide +kernel
theorem dX10_trueUp_28 : decode cX10_trueUp 28 = .ok (.lstore 4, 2) := by decide +kernel
theorem dX10_trueUp_30 : decode cX10_trueUp 30 = .ok (.iconst 0, 1) := by decide +kernel
theorem dX10_trueUp_31 : decode cX10_trueUp 31 = .ok (.istore 6, 2) := by decide +kernel
theorem dX10_trueUp_33 : decode cX10_trueUp 33 = .ok (.iload 6, 2) := by decide +kernel
theorem dX10_trueUp_35 : decode cX10_trueUp 35 = .ok (.iconst 4, 1) := by decide +kernel
theorem dX10_trueUp_36 : decode cX10_trueUp 36 = .ok (.if_icmp .ge 59, 3) := by decide +kernel
theorem dX10_trueUp_39 : decode cX10_trueUp 39 = .ok (.sipush 1348, 3) := by decide +kernel
theorem dX10_trueUp_42 : decode cX10_trueUp 42 = .ok (.iconst 4, 1) := by decide +kernel
theorem dX10_trueUp_43 : decode cX10_trueUp 43 = .ok (.iload_n 3, 1) := by decide +kernel
theorem dX10_trueUp_44 : decode cX10_trueUp 44 = .ok (.imul, 1) := by decide +kernel
theorem dX10_trueUp_45 : decode cX10_trueUp 45 = .ok (.iadd, 1) := by decide +kernel
theorem dX10_trueUp_46 : decode cX10_trueUp 46 = .ok (.iload 6, 2) := by decide +kernel
theorem dX10_trueUp_48 : decode cX10_trueUp 48 = .ok (.iadd, 1) := by decide +kernel
theorem dX10_trueUp_49 : decode cX10_trueUp 49 = .ok (.istore 7, 2) := by decide +kernel
theorem dX10_trueUp_51 : decode cX10_trueUp 51 = .ok (.aload_n 0, 1) := by decide +kernel
theorem dX10_trueUp_52 : decode cX10_trueUp 52 = .ok (.getfield 7, 3) := by decide +kernel
theorem dX10_trueUp_55 : decode cX10_trueUp 55 = .ok (.iload 7, 2) := by decide +kernel
theorem dX10_trueUp_57 : decode cX10_trueUp 57 = .ok (.iaload, 1) := by decide +kernel
theorem dX10_trueUp_58 : decode cX10_trueUp 58 = .ok (.iconst (-1), 1) := by decide +kernel
theorem dX10_trueUp_59 : decode cX10_trueUp 59 = .ok (.if_icmp .eq 22, 3) := by decide +kernel
theorem dX10_trueUp_62 : decode cX10_trueUp 62 = .ok (.aload_n 0, 1) := by decide +kernel
theorem dX10_trueUp_63 : decode cX10_trueUp 63 = .ok (.getfield 7, 3) := by decide +kernel
theorem dX10_trueUp_66 : decode cX10_trueUp 66 = .ok (.aload_n 0, 1) := by decide +kernel
theorem dX10_trueUp_67 : decode cX10_trueUp 67 = .ok (.iload_n 3, 1) := by decide +kernel
theorem dX10_trueUp_68 : decode cX10_trueUp 68 = .ok (.iload 6, 2) := by decide +kernel
theorem dX10_trueUp_70 : decode cX10_trueUp 70 = .ok (.invokevirtual 221, 3) := by decide +kernel
theorem dX10_trueUp_73 : decode cX10_trueUp 73 = .ok (.aload_n 0, 1) := by decide +kernel
theorem dX10_trueUp_74 : decode cX10_trueUp 74 = .ok (.getfield 7, 3) := by decide +kernel
theorem dX10_trueUp_77 : decode cX10_trueUp 77 = .ok (.iload 7, 2) := by decide +kernel
theorem dX10_trueUp_79 : decode cX10_trueUp 79 = .ok (.iaload, 1) := by decide +kernel
theorem dX10_trueUp_80 : decode cX10_trueUp 80 = .ok (.iastore, 1) := by decide +kernel
theorem dX10_trueUp_81 : decode cX10_trueUp 81 = .ok (.aload_n 0, 1) := by decide +kernel
theorem dX10_trueUp_82 : decode cX10_trueUp 82 = .ok (.getfield 7, 3) := by decide +kernel
theorem dX10_trueUp_85 : decode cX10_trueUp 85 = .ok (.iload 7, 2) := by decide +kernel
theorem dX10_trueUp_87 : decode cX10_trueUp 87 = .ok (.iconst (-1), 1) := by decide +kernel
theorem dX10_trueUp_88 : decode cX10_trueUp 88 = .ok (.iastore, 1) := by decide +kernel
theorem dX10_trueUp_89 : decode cX10_trueUp 89 = .ok (.iinc 6 1, 3) := by decide +kernel
theorem dX10_trueUp_92 : decode cX10_trueUp 92 = .ok (.goto (-59), 3) := by decide +kernel
theorem dX10_trueUp_95 : decode cX10_trueUp 95 = .ok (.aload_n 0, 1) := by decide +kernel
theorem dX10_trueUp_96 : decode cX10_trueUp 96 = .ok (.iload_n 3, 1) := by decide +kernel
theorem dX10_trueUp_97 : decode cX10_trueUp 97 = .ok (.invokevirtual 237, 3) := by decide +kernel
theorem dX10_trueUp_100 : decode cX10_trueUp 100 = .ok (.lload 4, 2) := by decide +kernel
theorem dX10_trueUp_102 : decode cX10_trueUp 102 = .ok (.lsub, 1) := by decide +kernel
theorem dX10_trueUp_103 : decode cX10_trueUp 103 = .ok (.lstore 6, 2) := by decide +kernel
theorem dX10_trueUp_105 : decode cX10_trueUp 105 = .ok (.lload 6, 2) := by decide +kernel
theorem dX10_trueUp_107 : decode cX10_trueUp 107 = .ok (.lconst 0, 1) := by decide +kernel
theorem dX10_trueUp_108 : decode cX10_trueUp 108 = .ok (.lcmp, 1) := by decide +kernel
theorem dX10_trueUp_109 : decode cX10_trueUp 109 = .ok (.ifCond .eq 10, 3) := by decide +kernel
theorem dX10_trueUp_112 : decode cX10_trueUp 112 = .ok (.aload_n 0, 1) := by decide +kernel
theorem dX10_trueUp_113 : decode cX10_trueUp 113 = .ok (.iload_n 3, 1) := by decide +kernel
theorem dX10_trueUp_114 : decode cX10_trueUp 114 = .ok (.lload 6, 2) := by decide +kernel
theorem dX10_trueUp_116 : decode cX10_trueUp 116 = .ok (.invokevirtual 273, 3) := by decide +kernel
theorem dX10_trueUp_119 : decode cX10_trueUp 119 = .ok (.lload_n 1, 1) := by decide +kernel
theorem dX10_trueUp_120 : decode cX10_trueUp 120 = .ok (.lload 6, 2) := by decide +kernel
theorem dX10_trueUp_122 : decode cX10_trueUp 122 = .ok (.ladd, 1) := by decide +kernel
theorem dX10_trueUp_123 : decode cX10_trueUp 123 = .ok (.lstore_n 1, 1) := by decide +kernel
theorem dX10_trueUp_124 : decode cX10_trueUp 124 = .ok (.iinc 3 1, 3) := by decide +kernel
theorem dX10_trueUp_127 : decode cX10_trueUp 127 = .ok (.goto (-114), 3) := by decide +kernel
theorem dX10_trueUp_130 : decode cX10_trueUp 130 = .ok (.lload_n 1, 1) := by decide +kernel
theorem dX10_trueUp_131 : decode cX10_trueUp 131 = .ok (.lreturn, 1) := by decide +kernel
theorem dX10_shareFund_0 : decode cX10_shareFund 0 = .ok (.lconst 0, 1) := by decide +kernel
theorem dX10_shareFund_1 : decode cX10_shareFund 1 = .ok (.lstore_n 1, 1) := by decide +kernel
theorem dX10_shareFund_2 : decode cX10_shareFund 2 = .ok (.iconst 0, 1) := by decide +kernel
theorem dX10_shareFund_3 : decode cX10_shareFund 3 = .ok (.istore_n 3, 1) := by decide +kernel
theorem dX10_shareFund_4 : decode cX10_shareFund 4 = .ok (.iload_n 3, 1) := by decide +kernel
theorem dX10_shareFund_5 : decode cX10_shareFund 5 = .ok (.aload_n 0, 1) := by decide +kernel
theorem dX10_shareFund_6 : decode cX10_shareFund 6 = .ok (.getfield 7, 3) := by decide +kernel
theorem dX10_shareFund_9 : decode cX10_shareFund 9 = .ok (.bipush 7, 2) := by decide +kernel
theorem dX10_shareFund_11 : decode cX10_shareFund 11 = .ok (.iaload, 1) := by decide +kernel
theorem dX10_shareFund_12 : decode cX10_shareFund 12 = .ok (.if_icmp .ge 31, 3) := by decide +kernel
theorem dX10_shareFund_15 : decode cX10_shareFund 15 = .ok (.aload_n 0, 1) := by decide +kernel
theorem dX10_shareFund_16 : decode cX10_shareFund 16 = .ok (.getfield 33, 3) := by decide +kernel
theorem dX10_shareFund_19 : decode cX10_shareFund 19 = .ok (.iload_n 3, 1) := by decide +kernel
theorem dX10_shareFund_20 : decode cX10_shareFund 20 = .ok (.aload_n 0, 1) := by decide +kernel
theorem dX10_shareFund_21 : decode cX10_shareFund 21 = .ok (.iload_n 3, 1) := by decide +kernel
theorem dX10_shareFund_22 : decode cX10_shareFund 22 = .ok (.iconst 4, 1) := by decide +kernel
theorem dX10_shareFund_23 : decode cX10_shareFund 23 = .ok (.invokevirtual 169, 3) := by decide +kernel
theorem dX10_shareFund_26 : decode cX10_shareFund 26 = .ok (.i2l, 1) := by decide +kernel
theorem dX10_shareFund_27 : decode cX10_shareFund 27 = .ok (.lastore, 1) := by decide +kernel
theorem dX10_shareFund_28 : decode cX10_shareFund 28 = .ok (.lload_n 1, 1) := by decide +kernel
theorem dX10_shareFund_29 : decode cX10_shareFund 29 = .ok (.aload_n 0, 1) := by decide +kernel
theorem dX10_shareFund_30 : decode cX10_shareFund 30 = .ok (.getfield 33, 3) := by decide +kernel
theorem dX10_shareFund_33 : decode cX10_shareFund 33 = .ok (.iload_n 3, 1) := by decide +kernel
theorem dX10_shareFund_34 : decode cX10_shareFund 34 = .ok (.laload, 1) := by decide +kernel
theorem dX10_shareFund_35 : decode cX10_shareFund 35 = .ok (.ladd, 1) := by decide +kernel
theorem dX10_shareFund_36 : decode cX10_shareFund 36 = .ok (.lstore_n 1, 1) := by decide +kernel
theorem dX10_shareFund_37 : decode cX10_shareFund 37 = .ok (.iinc 3 1, 3) := by decide +kernel
theorem dX10_shareFund_40 : decode cX10_shareFund 40 = .ok (.goto (-36), 3) := by decide +kernel
theorem dX10_shareFund_43 : decode cX10_shareFund 43 = .ok (.aload_n 0, 1) := by decide +kernel
theorem dX10_shareFund_44 : decode cX10_shareFund 44 = .ok (.aload_n 0, 1) := by decide +kernel
theorem dX10_shareFund_45 : decode cX10_shareFund 45 = .ok (.getfield 19, 3) := by decide +kernel
theorem dX10_shareFund_48 : decode cX10_shareFund 48 = .ok (.iconst 0, 1) := by decide +kernel
theorem dX10_shareFund_49 : decode cX10_shareFund 49 = .ok (.laload, 1) := by decide +kernel
theorem dX10_shareFund_50 : decode cX10_shareFund 50 = .ok (.lconst 0, 1) := by decide +kernel
theorem dX10_shareFund_51 : decode cX10_shareFund 51 = .ok (.lcmp, 1) := by decide +kernel
theorem dX10_shareFund_52 : decode cX10_shareFund 52 = .ok (.ifCond .le 9, 3) := by decide +kernel
theorem dX10_shareFund_55 : decode cX10_shareFund 55 = .ok (.lload_n 1, 1) := by decide +kernel
theorem dX10_shareFund_56 : decode cX10_shareFund 56 = .ok (.lconst 0, 1) := by decide +kernel
theorem dX10_shareFund_57 : decode cX10_shareFund 57 = .ok (.lcmp, 1) := by decide +kernel
theorem dX10_shareFund_58 : decode cX10_shareFund 58 = .ok (.ifCond .ne 7, 3) := by decide +kernel
theorem dX10_shareFund_61 : decode cX10_shareFund 61 = .ok (.iconst 1, 1) := by decide +kernel
theorem dX10_shareFund_62 : decode cX10_shareFund 62 = .ok (.goto 4, 3) := by decide +kernel
theorem dX10_shareFund_65 : decode cX10_shareFund 65 = .ok (.iconst 0, 1) := by decide +kernel
theorem dX10_shareFund_66 : decode cX10_shareFund 66 = .ok (.putfield 63, 3) := by decide +kernel
theorem dX10_shareFund_69 : decode cX10_shareFund 69 = .ok (.aload_n 0, 1) := by decide +kernel
theorem dX10_shareFund_70 : decode cX10_shareFund 70 = .ok (.getfield 63, 3) := by decide +kernel
theorem dX10_shareFund_73 : decode cX10_shareFund 73 = .ok (.ifCond .le 5, 3) := by decide +kernel
theorem dX10_shareFund_76 : decode cX10_shareFund 76 = .ok (.lconst 0, 1) := by decide +kernel
theorem dX10_shareFund_77 : decode cX10_shareFund 77 = .ok (.lreturn, 1) := by decide +kernel
theorem dX10_shareFund_78 : decode cX10_shareFund 78 = .ok (.aload_n 0, 1) := by decide +kernel
theorem dX10_shareFund_79 : decode cX10_shareFund 79 = .ok (.invokevirtual 157, 3) := by decide +kernel
theorem dX10_shareFund_82 : decode cX10_shareFund 82 = .ok (.aload_n 0, 1) := by decide +kernel
theorem dX10_shareFund_83 : decode cX10_shareFund 83 = .ok (.getfield 19, 3) := by decide +kernel
theorem dX10_shareFund_86 : decode cX10_shareFund 86 = .ok (.iconst 0, 1) := by decide +kernel
theorem dX10_shareFund_87 : decode cX10_shareFund 87 = .ok (.laload, 1) := by decide +kernel
theorem dX10_shareFund_88 : decode cX10_shareFund 88 = .ok (.lstore_n 3, 1) := by decide +kernel
theorem dX10_shareFund_89 : decode cX10_shareFund 89 = .ok (.aload_n 0, 1) := by decide +kernel
theorem dX10_shareFund_90 : decode cX10_shareFund 90 = .ok (.lload_n 3, 1) := by decide +kernel
theorem dX10_shareFund_91 : decode cX10_shareFund 91 = .ok (.aload_n 0, 1) := by decide +kernel
theorem dX10_shareFund_92 : decode cX10_shareFund 92 = .ok (.getfield 7, 3) := by decide +kernel
theorem dX10_shareFund_95 : decode cX10_shareFund 95 = .ok (.bipush 7, 2) := by decide +kernel
theorem dX10_shareFund_97 : decode cX10_shareFund 97 = .ok (.iaload, 1) := by decide +kernel
theorem dX10_shareFund_98 : decode cX10_shareFund 98 = .ok (.lload_n 1, 1) := by decide +kernel
theorem dX10_shareFund_99 : decode cX10_shareFund 99 = .ok (.invokevirtual 226, 3) := by decide +kernel
theorem dX10_shareFund_102 : decode cX10_shareFund 102 = .ok (.aload_n 0, 1) := by decide +kernel
theorem dX10_shareFund_103 : decode cX10_shareFund 103 = .ok (.getfield 19, 3) := by decide +kernel
theorem dX10_shareFund_106 : decode cX10_shareFund 106 = .ok (.iconst 0, 1) := by decide +kernel
theorem dX10_shareFund_107 : decode cX10_shareFund 107 = .ok (.lconst 0, 1) := by decide +kernel
theorem dX10_shareFund_108 : decode cX10_shareFund 108 = .ok (.lastore, 1) := by decide +kernel
theorem dX10_shareFund_109 : decode cX10_shareFund 109 = .ok (.iconst 0, 1) := by decide +kernel
theorem dX10_shareFund_110 : decode cX10_shareFund 110 = .ok (.istore 5, 2) := by decide +kernel
theorem dX10_shareFund_112 : decode cX10_shareFund 112 = .ok (.iload 5, 2) := by decide +kernel
theorem dX10_shareFund_114 : decode cX10_shareFund 114 = .ok (.aload_n 0, 1) := by decide +kernel
theorem dX10_shareFund_115 : decode cX10_shareFund 115 = .ok (.getfield 7, 3) := by decide +kernel
theorem dX10_shareFund_118 : decode cX10_shareFund 118 = .ok (.bipush 7, 2) := by decide +kernel
theorem dX10_shareFund_120 : decode cX10_shareFund 120 = .ok (.iaload, 1) := by decide +kernel
theorem dX10_shareFund_121 : decode cX10_shareFund 121 = .ok (.if_icmp .ge 31, 3) := by decide +kernel
theorem dX10_shareFund_124 : decode cX10_shareFund 124 = .ok (.aload_n 0, 1) := by decide +kernel
theorem dX10_shareFund_125 : decode cX10_shareFund 125 = .ok (.iload 5, 2) := by decide +kernel
theorem dX10_shareFund_127 : decode cX10_shareFund 127 = .ok (.invokevirtual 187, 3) := by decide +kernel
theorem dX10_shareFund_130 : decode cX10_shareFund 130 = .ok (.ifCond .eq 16, 3) := by decide +kernel
theorem dX10_shareFund_133 : decode cX10_shareFund 133 = .ok (.aload_n 0, 1) := by decide +kernel
theorem dX10_shareFund_134 : decode cX10_shareFund 134 = .ok (.iload 5, 2) := by decide +kernel
theorem dX10_shareFund_136 : decode cX10_shareFund 136 = .ok (.aload_n 0, 1) := by decide +kernel
theorem dX10_shareFund_137 : decode cX10_shareFund 137 = .ok (.getfield 36, 3) := by decide +kernel
theorem dX10_shareFund_140 : decode cX10_shareFund 140 = .ok (.iload 5, 2) := by decide +kernel
theorem dX10_shareFund_142 : decode cX10_shareFund 142 = .ok (.laload, 1) := by decide +kernel
theorem dX10_shareFund_143 : decode cX10_shareFund 143 = .ok (.invokevirtual 233, 3) := by decide +kernel
theorem dX10_shareFund_146 : decode cX10_shareFund 146 = .ok (.iinc 5 1, 3) := by decide +kernel
theorem dX10_shareFund_149 : decode cX10_shareFund 149 = .ok (.goto (-37), 3) := by decide +kernel
theorem dX10_shareFund_152 : decode cX10_shareFund 152 = .ok (.lload_n 3, 1) := by decide +kernel
theorem dX10_shareFund_153 : decode cX10_shareFund 153 = .ok (.lreturn, 1) := by decide +kernel
theorem dX10_tells_0 : decode cX10_tells 0 = .ok (.aload_n 0, 1) := by decide +kernel
theorem dX10_tells_1 : decode cX10_tells 1 = .ok (.getfield 55, 3) := by decide +kernel
theorem dX10_tells_4 : decode cX10_tells 4 = .ok (.aload_n 0, 1) := by decide +kernel
theorem dX10_tells_5 : decode cX10_tells 5 = .ok (.getfield 276, 3) := by decide +kernel
theorem dX10_tells_8 : decode cX10_tells 8 = .ok (.iload_n 1, 1) := by decide +kernel
theorem dX10_tells_9 : decode cX10_tells 9 = .ok (.i2b, 1) := by decide +kernel
theorem dX10_tells_10 : decode cX10_tells 10 = .ok (.bastore, 1) := by decide +kernel
theorem dX10_tells_11 : decode cX10_tells 11 = .ok (.aload_n 0, 1) := by decide +kernel
theorem dX10_tells_12 : decode cX10_tells 12 = .ok (.dup, 1) := by decide +kernel
theorem dX10_tells_13 : decode cX10_tells 13 = .ok (.getfield 276, 3) := by decide +kernel
theorem dX10_tells_16 : decode cX10_tells 16 = .ok (.iconst 1, 1) := by decide +kernel
theorem dX10_tells_17 : decode cX10_tells 17 = .ok (.iadd, 1) := by decide +kernel
theorem dX10_tells_18 : decode cX10_tells 18 = .ok (.putfield 276, 3) := by decide +kernel
theorem dX10_tells_21 : decode cX10_tells 21 = .ok (.return_, 1) := by decide +kernel
theorem dX10_tellsNumber_0 : decode cX10_tellsNumber 0 = .ok (.lload_n 1, 1) := by decide +kernel
theorem dX10_tellsNumber_1 : decode cX10_tellsNumber 1 = .ok (.ldc2_w 121, 3) := by decide +kernel
theorem dX10_tellsNumber_4 : decode cX10_tellsNumber 4 = .ok (.lcmp, 1) := by decide +kernel
theorem dX10_tellsNumber_5 : decode cX10_tellsNumber 5 = .ok (.ifCond .lt 12, 3) := by decide +kernel
theorem dX10_tellsNumber_8 : decode cX10_tellsNumber 8 = .ok (.aload_n 0, 1) := by decide +kernel
theorem dX10_tellsNumber_9 : decode cX10_tellsNumber 9 = .ok (.lload_n 1, 1) := by decide +kernel
theorem dX10_tellsNumber_10 : decode cX10_tellsNumber 10 = .ok (.ldc2_w 121, 3) := by decide +kernel
theorem dX10_tellsNumber_13 : decode cX10_tellsNumber 13 = .ok (.ldiv, 1) := by decide +kernel
theorem dX10_tellsNumber_14 : decode cX10_tellsNumber 14 = .ok (.invokevirtual 279, 3) := by decide +kernel
theorem dX10_tellsNumber_17 : decode cX10_tellsNumber 17 = .ok (.aload_n 0, 1) := by decide +kernel
theorem dX10_tellsNumber_18 : decode cX10_tellsNumber 18 = .ok (.bipush 48, 2) := by decide +kernel
theorem dX10_tellsNumber_20 : decode cX10_tellsNumber 20 = .ok (.lload_n 1, 1) := by decide +kernel
theorem dX10_tellsNumber_21 : decode cX10_tellsNumber 21 = .ok (.ldc2_w 121, 3) := by decide +kernel
theorem dX10_tellsNumber_24 : decode cX10_tellsNumber 24 = .ok (.lrem, 1) := by decide +kernel
theorem dX10_tellsNumber_25 : decode cX10_tellsNumber 25 = .ok (.l2i, 1) := by decide +kernel
theorem dX10_tellsNumber_26 : decode cX10_tellsNumber 26 = .ok (.iadd, 1) := by decide +kernel
theorem dX10_tellsNumber_27 : decode cX10_tellsNumber 27 = .ok (.invokevirtual 283, 3) := by decide +kernel
theorem dX10_tellsNumber_30 : decode cX10_tellsNumber 30 = .ok (.return_, 1) := by decide +kernel
theorem dX10_tellsWord_0 : decode cX10_tellsWord 0 = .ok (.iload_n 1, 1) := by decide +kernel
theorem dX10_tellsWord_1 : decode cX10_tellsWord 1 = .ok (.istore_n 3, 1) := by decide +kernel
theorem dX10_tellsWord_2 : decode cX10_tellsWord 2 = .ok (.iload_n 3, 1) := by decide +kernel
theorem dX10_tellsWord_3 : decode cX10_tellsWord 3 = .ok (.iload_n 2, 1) := by decide +kernel
theorem dX10_tellsWord_4 : decode cX10_tellsWord 4 = .ok (.if_icmp .ge 20, 3) := by decide +kernel
theorem dX10_tellsWord_7 : decode cX10_tellsWord 7 = .ok (.aload_n 0, 1) := by decide +kernel
theorem dX10_tellsWord_8 : decode cX10_tellsWord 8 = .ok (.ldc_w 286, 3) := by decide +kernel
theorem dX10_tellsWord_11 : decode cX10_tellsWord 11 = .ok (.iload_n 3, 1) := by decide +kernel
theorem dX10_tellsWord_12 : decode cX10_tellsWord 12 = .ok (.invokevirtual 83, 3) := by decide +kernel
theorem dX10_tellsWord_15 : decode cX10_tellsWord 15 = .ok (.invokevirtual 283, 3) := by decide +kernel
theorem dX10_tellsWord_18 : decode cX10_tellsWord 18 = .ok (.iinc 3 1, 3) := by decide +kernel
theorem dX10_tellsWord_21 : decode cX10_tellsWord 21 = .ok (.goto (-19), 3) := by decide +kernel
theorem dX10_tellsWord_24 : decode cX10_tellsWord 24 = .ok (.aload_n 0, 1) := by decide +kernel
theorem dX10_tellsWord_25 : decode cX10_tellsWord 25 = .ok (.bipush 32, 2) := by decide +kernel
theorem dX10_tellsWord_27 : decode cX10_tellsWord 27 = .ok (.invokevirtual 283, 3) := by decide +kernel
theorem dX10_tellsWord_30 : decode cX10_tellsWord 30 = .ok (.return_, 1) := by decide +kernel
theorem dX10_tellsCents_0 : decode cX10_tellsCents 0 = .ok (.aload_n 0, 1) := by decide +kernel
theorem dX10_tellsCents_1 : decode cX10_tellsCents 1 = .ok (.lload_n 1, 1) := by decide +kernel
theorem dX10_tellsCents_2 : decode cX10_tellsCents 2 = .ok (.ldc2_w 288, 3) := by decide +kernel
theorem dX10_tellsCents_5 : decode cX10_tellsCents 5 = .ok (.ldiv, 1) := by decide +kernel
theorem dX10_tellsCents_6 : decode cX10_tellsCents 6 = .ok (.invokevirtual 279, 3) := by decide +kernel
theorem dX10_tellsCents_9 : decode cX10_tellsCents 9 = .ok (.aload_n 0, 1) := by decide +kernel
theorem dX10_tellsCents_10 : decode cX10_tellsCents 10 = .ok (.bipush 46, 2) := by decide +kernel
theorem dX10_tellsCents_12 : decode cX10_tellsCents 12 = .ok (.invokevirtual 283, 3) := by decide +kernel
theorem dX10_tellsCents_15 : decode cX10_tellsCents 15 = .ok (.bipush 100, 2) := by decide +kernel
theorem dX10_tellsCents_17 : decode cX10_tellsCents 17 = .ok (.istore_n 3, 1) := by decide +kernel
theorem dX10_tellsCents_18 : decode cX10_tellsCents 18 = .ok (.iload_n 3, 1) := by decide +kernel
theorem dX10_tellsCents_19 : decode cX10_tellsCents 19 = .ok (.ifCond .le 27, 3) := by decide +kernel
theorem dX10_tellsCents_22 : decode cX10_tellsCents 22 = .ok (.aload_n 0, 1) := by decide +kernel
theorem dX10_tellsCents_23 : decode cX10_tellsCents 23 = .ok (.bipush 48, 2) := by decide +kernel
theorem dX10_tellsCents_25 : decode cX10_tellsCents 25 = .ok (.lload_n 1, 1) := by decide +kernel
theorem dX10_tellsCents_26 : decode cX10_tellsCents 26 = .ok (.iload_n 3, 1) := by decide +kernel
theorem dX10_tellsCents_27 : decode cX10_tellsCents 27 = .ok (.i2l, 1) := by decide +kernel
theorem dX10_tellsCents_28 : decode cX10_tellsCents 28 = .ok (.ldiv, 1) := by decide +kernel
theorem dX10_tellsCents_29 : decode cX10_tellsCents 29 = .ok (.ldc2_w 121, 3) := by decide +kernel
theorem dX10_tellsCents_32 : decode cX10_tellsCents 32 = .ok (.lrem, 1) := by decide +kernel
theorem dX10_tellsCents_33 : decode cX10_tellsCents 33 = .ok (.l2i, 1) := by decide +kernel
theorem dX10_tellsCents_34 : decode cX10_tellsCents 34 = .ok (.iadd, 1) := by decide +kernel
theorem dX10_tellsCents_35 : decode cX10_tellsCents 35 = .ok (.invokevirtual 283, 3) := by decide +kernel
theorem dX10_tellsCents_38 : decode cX10_tellsCents 38 = .ok (.iload_n 3, 1) := by decide +kernel
theorem dX10_tellsCents_39 : decode cX10_tellsCents 39 = .ok (.bipush 10, 2) := by decide +kernel
theorem dX10_tellsCents_41 : decode cX10_tellsCents 41 = .ok (.idiv, 1) := by decide +kernel
theorem dX10_tellsCents_42 : decode cX10_tellsCents 42 = .ok (.istore_n 3, 1) := by decide +kernel
theorem dX10_tellsCents_43 : decode cX10_tellsCents 43 = .ok (.goto (-25), 3) := by decide +kernel
theorem dX10_tellsCents_46 : decode cX10_tellsCents 46 = .ok (.return_, 1) := by decide +kernel
theorem dX10_describe_0 : decode cX10_describe 0 = .ok (.aload_n 0, 1) := by decide +kernel
theorem dX10_describe_1 : decode cX10_describe 1 = .ok (.iload_n 1, 1) := by decide +kernel
theorem dX10_describe_2 : decode cX10_describe 2 = .ok (.invokevirtual 208, 3) := by decide +kernel
theorem dX10_describe_5 : decode cX10_describe 5 = .ok (.ifCond .eq 5, 3) := by decide +kernel
theorem dX10_describe_8 : decode cX10_describe 8 = .ok (.iconst 0, 1) := by decide +kernel
theorem dX10_describe_9 : decode cX10_describe 9 = .ok (.ireturn, 1) := by decide +kernel
theorem dX10_describe_10 : decode cX10_describe 10 = .ok (.aload_n 0, 1) := by decide +kernel
theorem dX10_describe_11 : decode cX10_describe 11 = .ok (.iconst 0, 1) := by decide +kernel
theorem dX10_describe_12 : decode cX10_describe 12 = .ok (.putfield 276, 3) := by decide +kernel
theorem dX10_describe_15 : decode cX10_describe 15 = .ok (.aload_n 0, 1) := by decide +kernel
theorem dX10_describe_16 : decode cX10_describe 16 = .ok (.iload_n 1, 1) := by decide +kernel
theorem dX10_describe_17 : decode cX10_describe 17 = .ok (.i2l, 1) := by decide +kernel
theorem dX10_describe_18 : decode cX10_describe 18 = .ok (.invokevirtual 279, 3) := by decide +kernel
theorem dX10_describe_21 : decode cX10_describe 21 = .ok (.aload_n 0, 1) := by decide +kernel
theorem dX10_describe_22 : decode cX10_describe 22 = .ok (.bipush 58, 2) := by decide +kernel
theorem dX10_describe_24 : decode cX10_describe 24 = .ok (.invokevirtual 283, 3) := by decide +kernel
theorem dX10_describe_27 : decode cX10_describe 27 = .ok (.aload_n 0, 1) := by decide +kernel
theorem dX10_describe_28 : decode cX10_describe 28 = .ok (.iload_n 1, 1) := by decide +kernel
theorem dX10_describe_29 : decode cX10_describe 29 = .ok (.iconst 3, 1) := by decide +kernel
theorem dX10_describe_30 : decode cX10_describe 30 = .ok (.invokevirtual 169, 3) := by decide +kernel
theorem dX10_describe_33 : decode cX10_describe 33 = .ok (.ifCond .ne 40, 3) := by decide +kernel
theorem dX10_describe_36 : decode cX10_describe 36 = .ok (.aload_n 0, 1) := by decide +kernel
theorem dX10_describe_37 : decode cX10_describe 37 = .ok (.iconst 0, 1) := by decide +kernel
theorem dX10_describe_38 : decode cX10_describe 38 = .ok (.bipush 7, 2) := by decide +kernel
theorem dX10_describe_40 : decode cX10_describe 40 = .ok (.invokevirtual 290, 3) := by decide +kernel
theorem dX10_describe_43 : decode cX10_describe 43 = .ok (.aload_n 0, 1) := by decide +kernel
theorem dX10_describe_44 : decode cX10_describe 44 = .ok (.aload_n 0, 1) := by decide +kernel
theorem dX10_describe_45 : decode cX10_describe 45 = .ok (.iload_n 1, 1) := by decide +kernel
theorem dX10_describe_46 : decode cX10_describe 46 = .ok (.invokevirtual 211, 3) := by decide +kernel
theorem dX10_describe_49 : decode cX10_describe 49 = .ok (.i2l, 1) := by decide +kernel
theorem dX10_describe_50 : decode cX10_describe 50 = .ok (.invokevirtual 279, 3) := by decide +kernel
theorem dX10_describe_53 : decode cX10_describe 53 = .ok (.aload_n 0, 1) := by decide +kernel
theorem dX10_describe_54 : decode cX10_describe 54 = .ok (.bipush 32, 2) := by decide +kernel
theorem dX10_describe_56 : decode cX10_describe 56 = .ok (.invokevirtual 283, 3) := by decide +kernel
theorem dX10_describe_59 : decode cX10_describe 59 = .ok (.aload_n 0, 1) := by decide +kernel
theorem dX10_describe_60 : decode cX10_describe 60 = .ok (.aload_n 0, 1) := by decide +kernel
theorem dX10_describe_61 : decode cX10_describe 61 = .ok (.iload_n 1, 1) := by decide +kernel
theorem dX10_describe_62 : decode cX10_describe 62 = .ok (.iconst 1, 1) := by decide +kernel
theorem dX10_describe_63 : decode cX10_describe 63 = .ok (.invokevirtual 169, 3) := by decide +kernel
theorem dX10_describe_66 : decode cX10_describe 66 = .ok (.i2l, 1) := by decide +kernel
theorem dX10_describe_67 : decode cX10_describe 67 = .ok (.invokevirtual 279, 3) := by decide +kernel
theorem dX10_describe_70 : decode cX10_describe 70 = .ok (.goto 78, 3) := by decide +kernel
theorem dX10_describe_73 : decode cX10_describe 73 = .ok (.aload_n 0, 1) := by decide +kernel
theorem dX10_describe_74 : decode cX10_describe 74 = .ok (.iload_n 1, 1) := by decide +kernel
theorem dX10_describe_75 : decode cX10_describe 75 = .ok (.iconst 3, 1) := by decide +kernel
theorem dX10_describe_76 : decode cX10_describe 76 = .ok (.invokevirtual 169, 3) := by decide +kernel
theorem dX10_describe_79 : decode cX10_describe 79 = .ok (.iconst 2, 1) := by decide +kernel
theorem dX10_describe_80 : decode cX10_describe 80 = .ok (.if_icmp .ne 29, 3) := by decide +kernel
theorem dX10_describe_83 : decode cX10_describe 83 = .ok (.aload_n 0, 1) := by decide +kernel
theorem dX10_describe_84 : decode cX10_describe 84 = .ok (.bipush 13, 2) := by decide +kernel
theorem dX10_describe_86 : decode cX10_describe 86 = .ok (.bipush 17, 2) := by decide +kernel
theorem dX10_describe_88 : decode cX10_describe 88 = .ok (.invokevirtual 290, 3) := by decide +kernel
theorem dX10_describe_91 : decode cX10_describe 91 = .ok (.aload_n 0, 1) := by decide +kernel
theorem dX10_describe_92 : decode cX10_describe 92 = .ok (.aload_n 0, 1) := by decide +kernel
theorem dX10_describe_93 : decode cX10_describe 93 = .ok (.getfield 19, 3) := by decide +kernel
theorem dX10_describe_96 : decode cX10_describe 96 = .ok (.aload_n 0, 1) := by decide +kernel
theorem dX10_describe_97 : decode cX10_describe 97 = .ok (.iload_n 1, 1) := by decide +kernel
theorem dX10_describe_98 : decode cX10_describe 98 = .ok (.iconst 3, 1) := by decide +kernel
theorem dX10_describe_99 : decode cX10_describe 99 = .ok (.invokevirtual 197, 3) := by decide +kernel
theorem dX10_describe_102 : decode cX10_describe 102 = .ok (.laload, 1) := by decide +kernel
theorem dX10_describe_103 : decode cX10_describe 103 = .ok (.invokevirtual 294, 3) := by decide +kernel
theorem dX10_describe_106 : decode cX10_describe 106 = .ok (.goto 42, 3) := by decide +kernel
theorem dX10_describe_109 : decode cX10_describe 109 = .ok (.aload_n 0, 1) := by decide +kernel
theorem dX10_describe_110 : decode cX10_describe 110 = .ok (.bipush 7, 2) := by decide +kernel
theorem dX10_describe_112 : decode cX10_describe 112 = .ok (.bipush 13, 2) := by decide +kernel
theorem dX10_describe_114 : decode cX10_describe 114 = .ok (.invokevirtual 290, 3) := by decide +kernel
theorem dX10_describe_117 : decode cX10_describe 117 = .ok (.aload_n 0, 1) := by decide +kernel
theorem dX10_describe_118 : decode cX10_describe 118 = .ok (.aload_n 0, 1) := by decide +kernel
theorem dX10_describe_119 : decode cX10_describe 119 = .ok (.iload_n 1, 1) := by decide +kernel
theorem dX10_describe_120 : decode cX10_describe 120 = .ok (.iconst 4, 1) := by decide +kernel
theorem dX10_describe_121 : decode cX10_describe 121 = .ok (.invokevirtual 169, 3) := by decide +kernel
theorem dX10_describe_124 : decode cX10_describe 124 = .ok (.i2l, 1) := by decide +kernel
theorem dX10_describe_125 : decode cX10_describe 125 = .ok (.invokevirtual 279, 3) := by decide +kernel
theorem dX10_describe_128 : decode cX10_describe 128 = .ok (.aload_n 0, 1) := by decide +kernel
theorem dX10_describe_129 : decode cX10_describe 129 = .ok (.bipush 32, 2) := by decide +kernel
theorem dX10_describe_131 : decode cX10_describe 131 = .ok (.invokevirtual 283, 3) := by decide +kernel
theorem dX10_describe_134 : decode cX10_describe 134 = .ok (.aload_n 0, 1) := by decide +kernel
theorem dX10_describe_135 : decode cX10_describe 135 = .ok (.aload_n 0, 1) := by decide +kernel
theorem dX10_describe_136 : decode cX10_describe 136 = .ok (.iload_n 1, 1) := by decide +kernel
theorem dX10_describe_137 : decode cX10_describe 137 = .ok (.invokevirtual 204, 3) := by decide +kernel
theorem dX10_describe_140 : decode cX10_describe 140 = .ok (.invokevirtual 294, 3) := by decide +kernel
theorem dX10_describe_143 : decode cX10_describe 143 = .ok (.aload_n 0, 1) := by decide +kernel
theorem dX10_describe_144 : decode cX10_describe 144 = .ok (.iload_n 1, 1) := by decide +kernel
theorem dX10_describe_145 : decode cX10_describe 145 = .ok (.invokevirtual 297, 3) := by decide +kernel
theorem dX10_describe_148 : decode cX10_describe 148 = .ok (.aload_n 0, 1) := by decide +kernel
theorem dX10_describe_149 : decode cX10_describe 149 = .ok (.getfield 276, 3) := by decide +kernel
theorem dX10_describe_152 : decode cX10_describe 152 = .ok (.ireturn, 1) := by decide +kernel
theorem dX10_tellsAssignment_0 : decode cX10_tellsAssignment 0 = .ok (.aload_n 0, 1) := by decide +kernel
theorem dX10_tellsAssignment_1 : decode cX10_tellsAssignment 1 = .ok (.iload_n 1, 1) := by decide +kernel
theorem dX10_tellsAssignment_2 : decode cX10_tellsAssignment 2 = .ok (.iconst 5, 1) := by decide +kernel
theorem dX10_tellsAssignment_3 : decode cX10_tellsAssignment 3 = .ok (.invokevirtual 169, 3) := by decide +kernel
theorem dX10_tellsAssignment_6 : decode cX10_tellsAssignment 6 = .ok (.iconst (-1), 1) := by decide +kernel
theorem dX10_tellsAssignment_7 : decode cX10_tellsAssignment 7 = .ok (.if_icmp .ne 4, 3) := by decide +kernel
theorem dX10_tellsAssignment_10 : decode cX10_tellsAssignment 10 = .ok (.return_, 1) := by decide +kernel
theorem dX10_tellsAssignment_11 : decode cX10_tellsAssignment 11 = .ok (.aload_n 0, 1) := by decide +kernel
theorem dX10_tellsAssignment_12 : decode cX10_tellsAssignment 12 = .ok (.bipush 32, 2) := by decide +kernel
theorem dX10_tellsAssignment_14 : decode cX10_tellsAssignment 14 = .ok (.invokevirtual 283, 3) := by decide +kernel
theorem dX10_tellsAssignment_17 : decode cX10_tellsAssignment 17 = .ok (.aload_n 0, 1) := by decide +kernel
theorem dX10_tellsAssignment_18 : decode cX10_tellsAssignment 18 = .ok (.bipush 45, 2) := by decide +kernel
theorem dX10_tellsAssignment_20 : decode cX10_tellsAssignment 20 = .ok (.invokevirtual 283, 3) := by decide +kernel
theorem dX10_tellsAssignment_23 : decode cX10_tellsAssignment 23 = .ok (.aload_n 0, 1) := by decide +kernel
theorem dX10_tellsAssignment_24 : decode cX10_tellsAssignment 24 = .ok (.bipush 62, 2) := by decide +kernel
theorem dX10_tellsAssignment_26 : decode cX10_tellsAssignment 26 = .ok (.invokevirtual 283, 3) := by decide +kernel
theorem dX10_tellsAssignment_29 : decode cX10_tellsAssignment 29 = .ok (.aload_n 0, 1) := by decide +kernel
theorem dX10_tellsAssignment_30 : decode cX10_tellsAssignment 30 = .ok (.aload_n 0, 1) := by decide +kernel
theorem dX10_tellsAssignment_31 : decode cX10_tellsAssignment 31 = .ok (.iload_n 1, 1) := by decide +kernel
theorem dX10_tellsAssignment_32 : decode cX10_tellsAssignment 32 = .ok (.iconst 5, 1) := by decide +kernel
theorem dX10_tellsAssignment_33 : decode cX10_tellsAssignment 33 = .ok (.invokevirtual 169, 3) := by decide +kernel
theorem dX10_tellsAssignment_36 : decode cX10_tellsAssignment 36 = .ok (.i2l, 1) := by decide +kernel
theorem dX10_tellsAssignment_37 : decode cX10_tellsAssignment 37 = .ok (.invokevirtual 279, 3) := by decide +kernel
theorem dX10_tellsAssignment_40 : decode cX10_tellsAssignment 40 = .ok (.aload_n 0, 1) := by decide +kernel
theorem dX10_tellsAssignment_41 : decode cX10_tellsAssignment 41 = .ok (.bipush 58, 2) := by decide +kernel
theorem dX10_tellsAssignment_43 : decode cX10_tellsAssignment 43 = .ok (.invokevirtual 283, 3) := by decide +kernel
theorem dX10_tellsAssignment_46 : decode cX10_tellsAssignment 46 = .ok (.aload_n 0, 1) := by decide +kernel
theorem dX10_tellsAssignment_47 : decode cX10_tellsAssignment 47 = .ok (.aload_n 0, 1) := by decide +kernel
theorem dX10_tellsAssignment_48 : decode cX10_tellsAssignment 48 = .ok (.iload_n 1, 1) := by decide +kernel
theorem dX10_tellsAssignment_49 : decode cX10_tellsAssignment 49 = .ok (.bipush 6, 2) := by decide +kernel
theorem dX10_tellsAssignment_51 : decode cX10_tellsAssignment 51 = .ok (.invokevirtual 169, 3) := by decide +kernel
theorem dX10_tellsAssignment_54 : decode cX10_tellsAssignment 54 = .ok (.i2l, 1) := by decide +kernel
theorem dX10_tellsAssignment_55 : decode cX10_tellsAssignment 55 = .ok (.invokevirtual 279, 3) := by decide +kernel
theorem dX10_tellsAssignment_58 : decode cX10_tellsAssignment 58 = .ok (.aload_n 0, 1) := by decide +kernel
theorem dX10_tellsAssignment_59 : decode cX10_tellsAssignment 59 = .ok (.bipush 37, 2) := by decide +kernel
theorem dX10_tellsAssignment_61 : decode cX10_tellsAssignment 61 = .ok (.invokevirtual 283, 3) := by decide +kernel
theorem dX10_tellsAssignment_64 : decode cX10_tellsAssignment 64 = .ok (.return_, 1) := by decide +kernel
theorem dX10_describedByte_0 : decode cX10_describedByte 0 = .ok (.aload_n 0, 1) := by decide +kernel
theorem dX10_describedByte_1 : decode cX10_describedByte 1 = .ok (.iload_n 1, 1) := by decide +kernel
theorem dX10_describedByte_2 : decode cX10_describedByte 2 = .ok (.i2l, 1) := by decide +kernel
theorem dX10_describedByte_3 : decode cX10_describedByte 3 = .ok (.lconst 0, 1) := by decide +kernel
theorem dX10_describedByte_4 : decode cX10_describedByte 4 = .ok (.aload_n 0, 1) := by decide +kernel
theorem dX10_describedByte_5 : decode cX10_describedByte 5 = .ok (.getfield 276, 3) := by decide +kernel
theorem dX10_describedByte_8 : decode cX10_describedByte 8 = .ok (.iconst 1, 1) := by decide +kernel
theorem dX10_describedByte_9 : decode cX10_describedByte 9 = .ok (.isub, 1) := by decide +kernel
theorem dX10_describedByte_10 : decode cX10_describedByte 10 = .ok (.i2l, 1) := by decide +kernel
theorem dX10_describedByte_11 : decode cX10_describedByte 11 = .ok (.invokestatic 104, 3) := by decide +kernel
theorem dX10_describedByte_14 : decode cX10_describedByte 14 = .ok (.ifCond .eq 7, 3) := by decide +kernel
theorem dX10_describedByte_17 : decode cX10_describedByte 17 = .ok (.iconst 0, 1) := by decide +kernel
theorem dX10_describedByte_18 : decode cX10_describedByte 18 = .ok (.goto 4, 3) := by decide +kernel
theorem dX10_describedByte_21 : decode cX10_describedByte 21 = .ok (.iconst 1, 1) := by decide +kernel
theorem dX10_describedByte_22 : decode cX10_describedByte 22 = .ok (.putfield 63, 3) := by decide +kernel
theorem dX10_describedByte_25 : decode cX10_describedByte 25 = .ok (.aload_n 0, 1) := by decide +kernel
theorem dX10_describedByte_26 : decode cX10_describedByte 26 = .ok (.getfield 63, 3) := by decide +kernel
theorem dX10_describedByte_29 : decode cX10_describedByte 29 = .ok (.ifCond .le 7, 3) := by decide +kernel
theorem dX10_describedByte_32 : decode cX10_describedByte 32 = .ok (.iconst 0, 1) := by decide +kernel
theorem dX10_describedByte_33 : decode cX10_describedByte 33 = .ok (.goto 9, 3) := by decide +kernel
theorem dX10_describedByte_36 : decode cX10_describedByte 36 = .ok (.aload_n 0, 1) := by decide +kernel
theorem dX10_describedByte_37 : decode cX10_describedByte 37 = .ok (.getfield 55, 3) := by decide +kernel
theorem dX10_describedByte_40 : decode cX10_describedByte 40 = .ok (.iload_n 1, 1) := by decide +kernel
theorem dX10_describedByte_41 : decode cX10_describedByte 41 = .ok (.baload, 1) := by decide +kernel
theorem dX10_describedByte_42 : decode cX10_describedByte 42 = .ok (.ireturn, 1) := by decide +kernel
