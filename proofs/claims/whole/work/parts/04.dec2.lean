theorem dX10_thing_8 : decode cX10_thing 8 = .ok (.invokevirtual 116, 3) := by decide +kernel
theorem dX10_thing_11 : decode cX10_thing 11 = .ok (.ifCond .ne 13, 3) := by decide +kernel
theorem dX10_thing_14 : decode cX10_thing 14 = .ok (.new 119, 3) := by decide +kernel
theorem dX10_thing_17 : decode cX10_thing 17 = .ok (.dup, 1) := by decide +kernel
theorem dX10_thing_18 : decode cX10_thing 18 = .ok (.ldc 121, 2) := by decide +kernel
theorem dX10_thing_20 : decode cX10_thing 20 = .ok (.invokespecial 123, 3) := by decide +kernel
theorem dX10_thing_23 : decode cX10_thing 23 = .ok (.athrow, 1) := by decide +kernel
theorem dX10_thing_24 : decode cX10_thing 24 = .ok (.iload_n 2, 1) := by decide +kernel
theorem dX10_thing_25 : decode cX10_thing 25 = .ok (.ifCond .eq 18, 3) := by decide +kernel
theorem dX10_thing_28 : decode cX10_thing 28 = .ok (.iload_n 2, 1) := by decide +kernel
theorem dX10_thing_29 : decode cX10_thing 29 = .ok (.iconst 1, 1) := by decide +kernel
theorem dX10_thing_30 : decode cX10_thing 30 = .ok (.if_icmp .eq 13, 3) := by decide +kernel
theorem dX10_thing_33 : decode cX10_thing 33 = .ok (.new 43, 3) := by decide +kernel
theorem dX10_thing_36 : decode cX10_thing 36 = .ok (.dup, 1) := by decide +kernel
theorem dX10_thing_37 : decode cX10_thing 37 = .ok (.ldc 223, 2) := by decide +kernel
theorem dX10_thing_39 : decode cX10_thing 39 = .ok (.invokespecial 47, 3) := by decide +kernel
theorem dX10_thing_42 : decode cX10_thing 42 = .ok (.athrow, 1) := by decide +kernel
theorem dX10_thing_43 : decode cX10_thing 43 = .ok (.iload_n 2, 1) := by decide +kernel
theorem dX10_thing_44 : decode cX10_thing 44 = .ok (.ifCond .ne 17, 3) := by decide +kernel
theorem dX10_thing_47 : decode cX10_thing 47 = .ok (.aload_n 0, 1) := by decide +kernel
theorem dX10_thing_48 : decode cX10_thing 48 = .ok (.getfield 12, 3) := by decide +kernel
theorem dX10_thing_51 : decode cX10_thing 51 = .ok (.getfield 66, 3) := by decide +kernel
theorem dX10_thing_54 : decode cX10_thing 54 = .ok (.iload_n 1, 1) := by decide +kernel
theorem dX10_thing_55 : decode cX10_thing 55 = .ok (.invokevirtual 225, 3) := by decide +kernel
theorem dX10_thing_58 : decode cX10_thing 58 = .ok (.goto 14, 3) := by decide +kernel
theorem dX10_thing_61 : decode cX10_thing 61 = .ok (.aload_n 0, 1) := by decide +kernel
theorem dX10_thing_62 : decode cX10_thing 62 = .ok (.getfield 12, 3) := by decide +kernel
theorem dX10_thing_65 : decode cX10_thing 65 = .ok (.getfield 66, 3) := by decide +kernel
theorem dX10_thing_68 : decode cX10_thing 68 = .ok (.iload_n 1, 1) := by decide +kernel
theorem dX10_thing_69 : decode cX10_thing 69 = .ok (.invokevirtual 228, 3) := by decide +kernel
theorem dX10_thing_72 : decode cX10_thing 72 = .ok (.ireturn, 1) := by decide +kernel
theorem dX10_angle_0 : decode cX10_angle 0 = .ok (.iload_n 1, 1) := by decide +kernel
theorem dX10_angle_1 : decode cX10_angle 1 = .ok (.ifCond .lt 17, 3) := by decide +kernel
theorem dX10_angle_4 : decode cX10_angle 4 = .ok (.iload_n 1, 1) := by decide +kernel
theorem dX10_angle_5 : decode cX10_angle 5 = .ok (.aload_n 0, 1) := by decide +kernel
theorem dX10_angle_6 : decode cX10_angle 6 = .ok (.getfield 12, 3) := by decide +kernel
theorem dX10_angle_9 : decode cX10_angle 9 = .ok (.getfield 66, 3) := by decide +kernel
theorem dX10_angle_12 : decode cX10_angle 12 = .ok (.getfield 133, 3) := by decide +kernel
theorem dX10_angle_15 : decode cX10_angle 15 = .ok (.if_icmp .lt 13, 3) := by decide +kernel
theorem dX10_angle_18 : decode cX10_angle 18 = .ok (.new 119, 3) := by decide +kernel
theorem dX10_angle_21 : decode cX10_angle 21 = .ok (.dup, 1) := by decide +kernel
theorem dX10_angle_22 : decode cX10_angle 22 = .ok (.ldc 231, 2) := by decide +kernel
theorem dX10_angle_24 : decode cX10_angle 24 = .ok (.invokespecial 123, 3) := by decide +kernel
theorem dX10_angle_27 : decode cX10_angle 27 = .ok (.athrow, 1) := by decide +kernel
theorem dX10_angle_28 : decode cX10_angle 28 = .ok (.aload_n 0, 1) := by decide +kernel
theorem dX10_angle_29 : decode cX10_angle 29 = .ok (.getfield 12, 3) := by decide +kernel
theorem dX10_angle_32 : decode cX10_angle 32 = .ok (.getfield 66, 3) := by decide +kernel
theorem dX10_angle_35 : decode cX10_angle 35 = .ok (.iload_n 1, 1) := by decide +kernel
theorem dX10_angle_36 : decode cX10_angle 36 = .ok (.invokevirtual 233, 3) := by decide +kernel
theorem dX10_angle_39 : decode cX10_angle 39 = .ok (.ireturn, 1) := by decide +kernel
theorem dX10_tank_0 : decode cX10_tank 0 = .ok (.aload_n 0, 1) := by decide +kernel
theorem dX10_tank_1 : decode cX10_tank 1 = .ok (.getfield 12, 3) := by decide +kernel
theorem dX10_tank_4 : decode cX10_tank 4 = .ok (.getfield 66, 3) := by decide +kernel
theorem dX10_tank_7 : decode cX10_tank 7 = .ok (.astore_n 2, 1) := by decide +kernel
theorem dX10_tank_8 : decode cX10_tank 8 = .ok (.iload_n 1, 1) := by decide +kernel
theorem dX10_tank_9 : decode cX10_tank 9 = .ok (.tableswitch 123 0 11 #[63, 68, 73, 78, 83, 88, 93, 98, 103, 108, 113, 118], 63) := by decide +kernel
theorem dX10_tank_72 : decode cX10_tank 72 = .ok (.aload_n 2, 1) := by decide +kernel
theorem dX10_tank_73 : decode cX10_tank 73 = .ok (.getfield 236, 3) := by decide +kernel
theorem dX10_tank_76 : decode cX10_tank 76 = .ok (.ireturn, 1) := by decide +kernel
theorem dX10_tank_77 : decode cX10_tank 77 = .ok (.aload_n 2, 1) := by decide +kernel
theorem dX10_tank_78 : decode cX10_tank 78 = .ok (.getfield 75, 3) := by decide +kernel
theorem dX10_tank_81 : decode cX10_tank 81 = .ok (.ireturn, 1) := by decide +kernel
theorem dX10_tank_82 : decode cX10_tank 82 = .ok (.aload_n 2, 1) := by decide +kernel
theorem dX10_tank_83 : decode cX10_tank 83 = .ok (.getfield 83, 3) := by decide +kernel
theorem dX10_tank_86 : decode cX10_tank 86 = .ok (.ireturn, 1) := by decide +kernel
theorem dX10_tank_87 : decode cX10_tank 87 = .ok (.aload_n 2, 1) := by decide +kernel
theorem dX10_tank_88 : decode cX10_tank 88 = .ok (.getfield 91, 3) := by decide +kernel
theorem dX10_tank_91 : decode cX10_tank 91 = .ok (.ireturn, 1) := by decide +kernel
theorem dX10_tank_92 : decode cX10_tank 92 = .ok (.aload_n 2, 1) := by decide +kernel
theorem dX10_tank_93 : decode cX10_tank 93 = .ok (.getfield 113, 3) := by decide +kernel
theorem dX10_tank_96 : decode cX10_tank 96 = .ok (.ireturn, 1) := by decide +kernel
theorem dX10_tank_97 : decode cX10_tank 97 = .ok (.aload_n 2, 1) := by decide +kernel
theorem dX10_tank_98 : decode cX10_tank 98 = .ok (.getfield 133, 3) := by decide +kernel
theorem dX10_tank_101 : decode cX10_tank 101 = .ok (.ireturn, 1) := by decide +kernel
theorem dX10_tank_102 : decode cX10_tank 102 = .ok (.aload_n 2, 1) := by decide +kernel
theorem dX10_tank_103 : decode cX10_tank 103 = .ok (.getfield 239, 3) := by decide +kernel
theorem dX10_tank_106 : decode cX10_tank 106 = .ok (.ireturn, 1) := by decide +kernel
theorem dX10_tank_107 : decode cX10_tank 107 = .ok (.aload_n 2, 1) := by decide +kernel
theorem dX10_tank_108 : decode cX10_tank 108 = .ok (.getfield 242, 3) := by decide +kernel
theorem dX10_tank_111 : decode cX10_tank 111 = .ok (.ireturn, 1) := by decide +kernel
theorem dX10_tank_112 : decode cX10_tank 112 = .ok (.aload_n 2, 1) := by decide +kernel
theorem dX10_tank_113 : decode cX10_tank 113 = .ok (.getfield 245, 3) := by decide +kernel
theorem dX10_tank_116 : decode cX10_tank 116 = .ok (.ireturn, 1) := by decide +kernel
theorem dX10_tank_117 : decode cX10_tank 117 = .ok (.aload_n 2, 1) := by decide +kernel
theorem dX10_tank_118 : decode cX10_tank 118 = .ok (.getfield 248, 3) := by decide +kernel
theorem dX10_tank_121 : decode cX10_tank 121 = .ok (.ireturn, 1) := by decide +kernel
theorem dX10_tank_122 : decode cX10_tank 122 = .ok (.aload_n 2, 1) := by decide +kernel
theorem dX10_tank_123 : decode cX10_tank 123 = .ok (.getfield 251, 3) := by decide +kernel
theorem dX10_tank_126 : decode cX10_tank 126 = .ok (.ireturn, 1) := by decide +kernel
theorem dX10_tank_127 : decode cX10_tank 127 = .ok (.aload_n 2, 1) := by decide +kernel
theorem dX10_tank_128 : decode cX10_tank 128 = .ok (.getfield 160, 3) := by decide +kernel
theorem dX10_tank_131 : decode cX10_tank 131 = .ok (.ireturn, 1) := by decide +kernel
theorem dX10_tank_132 : decode cX10_tank 132 = .ok (.new 43, 3) := by decide +kernel
theorem dX10_tank_135 : decode cX10_tank 135 = .ok (.dup, 1) := by decide +kernel
theorem dX10_tank_136 : decode cX10_tank 136 = .ok (.ldc 223, 2) := by decide +kernel
theorem dX10_tank_138 : decode cX10_tank 138 = .ok (.invokespecial 47, 3) := by decide +kernel
theorem dX10_tank_141 : decode cX10_tank 141 = .ok (.athrow, 1) := by decide +kernel
theorem dX10_setting_0 : decode cX10_setting 0 = .ok (.iload_n 1, 1) := by decide +kernel
theorem dX10_setting_1 : decode cX10_setting 1 = .ok (.invokestatic 254, 3) := by decide +kernel
theorem dX10_setting_4 : decode cX10_setting 4 = .ok (.ifCond .ne 13, 3) := by decide +kernel
theorem dX10_setting_7 : decode cX10_setting 7 = .ok (.new 43, 3) := by decide +kernel
theorem dX10_setting_10 : decode cX10_setting 10 = .ok (.dup, 1) := by decide +kernel
theorem dX10_setting_11 : decode cX10_setting 11 = .ok (.ldc 223, 2) := by decide +kernel
theorem dX10_setting_13 : decode cX10_setting 13 = .ok (.invokespecial 47, 3) := by decide +kernel
theorem dX10_setting_16 : decode cX10_setting 16 = .ok (.athrow, 1) := by decide +kernel
theorem dX10_setting_17 : decode cX10_setting 17 = .ok (.aload_n 0, 1) := by decide +kernel
theorem dX10_setting_18 : decode cX10_setting 18 = .ok (.getfield 12, 3) := by decide +kernel
theorem dX10_setting_21 : decode cX10_setting 21 = .ok (.getfield 140, 3) := by decide +kernel
theorem dX10_setting_24 : decode cX10_setting 24 = .ok (.iload_n 1, 1) := by decide +kernel
theorem dX10_setting_25 : decode cX10_setting 25 = .ok (.invokevirtual 151, 3) := by decide +kernel
theorem dX10_setting_28 : decode cX10_setting 28 = .ok (.ireturn, 1) := by decide +kernel
theorem dX10_gauge_0 : decode cX10_gauge 0 = .ok (.aload_n 0, 1) := by decide +kernel
theorem dX10_gauge_1 : decode cX10_gauge 1 = .ok (.getfield 12, 3) := by decide +kernel
theorem dX10_gauge_4 : decode cX10_gauge 4 = .ok (.getfield 53, 3) := by decide +kernel
theorem dX10_gauge_7 : decode cX10_gauge 7 = .ok (.astore_n 2, 1) := by decide +kernel
theorem dX10_gauge_8 : decode cX10_gauge 8 = .ok (.iload_n 1, 1) := by decide +kernel
theorem dX10_gauge_9 : decode cX10_gauge 9 = .ok (.tableswitch 166 0 12 #[67, 72, 77, 82, 97, 102, 107, 118, 129, 134, 139, 156, 161], 67) := by decide +kernel
theorem dX10_gauge_76 : decode cX10_gauge 76 = .ok (.aload_n 2, 1) := by decide +kernel
theorem dX10_gauge_77 : decode cX10_gauge 77 = .ok (.getfield 57, 3) := by decide +kernel
theorem dX10_gauge_80 : decode cX10_gauge 80 = .ok (.ireturn, 1) := by decide +kernel
theorem dX10_gauge_81 : decode cX10_gauge 81 = .ok (.aload_n 2, 1) := by decide +kernel
theorem dX10_gauge_82 : decode cX10_gauge 82 = .ok (.getfield 198, 3) := by decide +kernel
theorem dX10_gauge_85 : decode cX10_gauge 85 = .ok (.ireturn, 1) := by decide +kernel
theorem dX10_gauge_86 : decode cX10_gauge 86 = .ok (.aload_n 2, 1) := by decide +kernel
theorem dX10_gauge_87 : decode cX10_gauge 87 = .ok (.getfield 257, 3) := by decide +kernel
theorem dX10_gauge_90 : decode cX10_gauge 90 = .ok (.ireturn, 1) := by decide +kernel
theorem dX10_gauge_91 : decode cX10_gauge 91 = .ok (.aload_n 2, 1) := by decide +kernel
theorem dX10_gauge_92 : decode cX10_gauge 92 = .ok (.aload_n 0, 1) := by decide +kernel
theorem dX10_gauge_93 : decode cX10_gauge 93 = .ok (.getfield 12, 3) := by decide +kernel
theorem dX10_gauge_96 : decode cX10_gauge 96 = .ok (.getfield 66, 3) := by decide +kernel
theorem dX10_gauge_99 : decode cX10_gauge 99 = .ok (.getfield 236, 3) := by decide +kernel
theorem dX10_gauge_102 : decode cX10_gauge 102 = .ok (.invokevirtual 260, 3) := by decide +kernel
theorem dX10_gauge_105 : decode cX10_gauge 105 = .ok (.ireturn, 1) := by decide +kernel
theorem dX10_gauge_106 : decode cX10_gauge 106 = .ok (.aload_n 2, 1) := by decide +kernel
theorem dX10_gauge_107 : decode cX10_gauge 107 = .ok (.getfield 263, 3) := by decide +kernel
theorem dX10_gauge_110 : decode cX10_gauge 110 = .ok (.ireturn, 1) := by decide +kernel
theorem dX10_gauge_111 : decode cX10_gauge 111 = .ok (.aload_n 2, 1) := by decide +kernel
theorem dX10_gauge_112 : decode cX10_gauge 112 = .ok (.getfield 266, 3) := by decide +kernel
theorem dX10_gauge_115 : decode cX10_gauge 115 = .ok (.ireturn, 1) := by decide +kernel
theorem dX10_gauge_116 : decode cX10_gauge 116 = .ok (.aload_n 0, 1) := by decide +kernel
theorem dX10_gauge_117 : decode cX10_gauge 117 = .ok (.getfield 12, 3) := by decide +kernel
theorem dX10_gauge_120 : decode cX10_gauge 120 = .ok (.getfield 168, 3) := by decide +kernel
theorem dX10_gauge_123 : decode cX10_gauge 123 = .ok (.getfield 189, 3) := by decide +kernel
theorem dX10_gauge_126 : decode cX10_gauge 126 = .ok (.ireturn, 1) := by decide +kernel
theorem dX10_gauge_127 : decode cX10_gauge 127 = .ok (.aload_n 0, 1) := by decide +kernel
theorem dX10_gauge_128 : decode cX10_gauge 128 = .ok (.getfield 12, 3) := by decide +kernel
theorem dX10_gauge_131 : decode cX10_gauge 131 = .ok (.getfield 206, 3) := by decide +kernel
theorem dX10_gauge_134 : decode cX10_gauge 134 = .ok (.getfield 269, 3) := by decide +kernel
theorem dX10_gauge_137 : decode cX10_gauge 137 = .ok (.ireturn, 1) := by decide +kernel
theorem dX10_gauge_138 : decode cX10_gauge 138 = .ok (.aload_n 2, 1) := by decide +kernel
theorem dX10_gauge_139 : decode cX10_gauge 139 = .ok (.getfield 270, 3) := by decide +kernel
theorem dX10_gauge_142 : decode cX10_gauge 142 = .ok (.ireturn, 1) := by decide +kernel
theorem dX10_gauge_143 : decode cX10_gauge 143 = .ok (.aload_n 2, 1) := by decide +kernel
theorem dX10_gauge_144 : decode cX10_gauge 144 = .ok (.invokevirtual 271, 3) := by decide +kernel
theorem dX10_gauge_147 : decode cX10_gauge 147 = .ok (.ireturn, 1) := by decide +kernel
theorem dX10_gauge_148 : decode cX10_gauge 148 = .ok (.aload_n 2, 1) := by decide +kernel
theorem dX10_gauge_149 : decode cX10_gauge 149 = .ok (.aload_n 0, 1) := by decide +kernel
theorem dX10_gauge_150 : decode cX10_gauge 150 = .ok (.getfield 12, 3) := by decide +kernel
theorem dX10_gauge_153 : decode cX10_gauge 153 = .ok (.getfield 140, 3) := by decide +kernel
theorem dX10_gauge_156 : decode cX10_gauge 156 = .ok (.bipush 6, 2) := by decide +kernel
theorem dX10_gauge_158 : decode cX10_gauge 158 = .ok (.invokevirtual 151, 3) := by decide +kernel
theorem dX10_gauge_161 : decode cX10_gauge 161 = .ok (.invokevirtual 275, 3) := by decide +kernel
theorem dX10_gauge_164 : decode cX10_gauge 164 = .ok (.ireturn, 1) := by decide +kernel
theorem dX10_gauge_165 : decode cX10_gauge 165 = .ok (.aload_n 2, 1) := by decide +kernel
theorem dX10_gauge_166 : decode cX10_gauge 166 = .ok (.getfield 278, 3) := by decide +kernel
theorem dX10_gauge_169 : decode cX10_gauge 169 = .ok (.ireturn, 1) := by decide +kernel
theorem dX10_gauge_170 : decode cX10_gauge 170 = .ok (.aload_n 2, 1) := by decide +kernel
theorem dX10_gauge_171 : decode cX10_gauge 171 = .ok (.getfield 281, 3) := by decide +kernel
theorem dX10_gauge_174 : decode cX10_gauge 174 = .ok (.ireturn, 1) := by decide +kernel
theorem dX10_gauge_175 : decode cX10_gauge 175 = .ok (.new 43, 3) := by decide +kernel
theorem dX10_gauge_178 : decode cX10_gauge 178 = .ok (.dup, 1) := by decide +kernel
theorem dX10_gauge_179 : decode cX10_gauge 179 = .ok (.ldc 223, 2) := by decide +kernel
theorem dX10_gauge_181 : decode cX10_gauge 181 = .ok (.invokespecial 47, 3) := by decide +kernel
theorem dX10_gauge_184 : decode cX10_gauge 184 = .ok (.athrow, 1) := by decide +kernel
theorem dX10_meanPick_0 : decode cX10_meanPick 0 = .ok (.aload_n 0, 1) := by decide +kernel
theorem dX10_meanPick_1 : decode cX10_meanPick 1 = .ok (.getfield 12, 3) := by decide +kernel
theorem dX10_meanPick_4 : decode cX10_meanPick 4 = .ok (.getfield 53, 3) := by decide +kernel
theorem dX10_meanPick_7 : decode cX10_meanPick 7 = .ok (.invokevirtual 271, 3) := by decide +kernel
theorem dX10_meanPick_10 : decode cX10_meanPick 10 = .ok (.istore_n 1, 1) := by decide +kernel
theorem dX10_meanPick_11 : decode cX10_meanPick 11 = .ok (.iload_n 1, 1) := by decide +kernel
theorem dX10_meanPick_12 : decode cX10_meanPick 12 = .ok (.ifCond .le 20, 3) := by decide +kernel
theorem dX10_meanPick_15 : decode cX10_meanPick 15 = .ok (.aload_n 0, 1) := by decide +kernel
theorem dX10_meanPick_16 : decode cX10_meanPick 16 = .ok (.getfield 12, 3) := by decide +kernel
theorem dX10_meanPick_19 : decode cX10_meanPick 19 = .ok (.getfield 53, 3) := by decide +kernel
theorem dX10_meanPick_22 : decode cX10_meanPick 22 = .ok (.invokevirtual 284, 3) := by decide +kernel
theorem dX10_meanPick_25 : decode cX10_meanPick 25 = .ok (.i2d, 1) := by decide +kernel
theorem dX10_meanPick_26 : decode cX10_meanPick 26 = .ok (.iload_n 1, 1) := by decide +kernel
theorem dX10_meanPick_27 : decode cX10_meanPick 27 = .ok (.i2d, 1) := by decide +kernel
theorem dX10_meanPick_28 : decode cX10_meanPick 28 = .ok (.ddiv, 1) := by decide +kernel
theorem dX10_meanPick_29 : decode cX10_meanPick 29 = .ok (.goto 6, 3) := by decide +kernel
theorem dX10_meanPick_32 : decode cX10_meanPick 32 = .ok (.ldc2_w 287, 3) := by decide +kernel
theorem dX10_meanPick_35 : decode cX10_meanPick 35 = .ok (.dreturn, 1) := by decide +kernel
theorem dX10_toldAfter_0 : decode cX10_toldAfter 0 = .ok (.iload_n 1, 1) := by decide +kernel
theorem dX10_toldAfter_1 : decode cX10_toldAfter 1 = .ok (.ifCond .lt 10, 3) := by decide +kernel
theorem dX10_toldAfter_4 : decode cX10_toldAfter 4 = .ok (.iload_n 1, 1) := by decide +kernel
theorem dX10_toldAfter_5 : decode cX10_toldAfter 5 = .ok (.sipush 500, 3) := by decide +kernel
theorem dX10_toldAfter_8 : decode cX10_toldAfter 8 = .ok (.if_icmp .le 14, 3) := by decide +kernel
theorem dX10_toldAfter_11 : decode cX10_toldAfter 11 = .ok (.new 43, 3) := by decide +kernel
theorem dX10_toldAfter_14 : decode cX10_toldAfter 14 = .ok (.dup, 1) := by decide +kernel
theorem dX10_toldAfter_15 : decode cX10_toldAfter 15 = .ok (.ldc_w 289, 3) := by decide +kernel
theorem dX10_toldAfter_18 : decode cX10_toldAfter 18 = .ok (.invokespecial 47, 3) := by decide +kernel
theorem dX10_toldAfter_21 : decode cX10_toldAfter 21 = .ok (.athrow, 1) := by decide +kernel
theorem dX10_toldAfter_22 : decode cX10_toldAfter 22 = .ok (.aload_n 0, 1) := by decide +kernel
theorem dX10_toldAfter_23 : decode cX10_toldAfter 23 = .ok (.getfield 16, 3) := by decide +kernel
theorem dX10_toldAfter_26 : decode cX10_toldAfter 26 = .ok (.aload_n 0, 1) := by decide +kernel
theorem dX10_toldAfter_27 : decode cX10_toldAfter 27 = .ok (.getfield 12, 3) := by decide +kernel
theorem dX10_toldAfter_30 : decode cX10_toldAfter 30 = .ok (.invokevirtual 291, 3) := by decide +kernel
theorem dX10_toldAfter_33 : decode cX10_toldAfter 33 = .ok (.iconst 0, 1) := by decide +kernel
theorem dX10_toldAfter_34 : decode cX10_toldAfter 34 = .ok (.istore_n 2, 1) := by decide +kernel
theorem dX10_toldAfter_35 : decode cX10_toldAfter 35 = .ok (.iload_n 2, 1) := by decide +kernel
theorem dX10_toldAfter_36 : decode cX10_toldAfter 36 = .ok (.iload_n 1, 1) := by decide +kernel
theorem dX10_toldAfter_37 : decode cX10_toldAfter 37 = .ok (.if_icmp .ge 31, 3) := by decide +kernel
theorem dX10_toldAfter_40 : decode cX10_toldAfter 40 = .ok (.aload_n 0, 1) := by decide +kernel
theorem dX10_toldAfter_41 : decode cX10_toldAfter 41 = .ok (.getfield 16, 3) := by decide +kernel
theorem dX10_toldAfter_44 : decode cX10_toldAfter 44 = .ok (.getfield 53, 3) := by decide +kernel
theorem dX10_toldAfter_47 : decode cX10_toldAfter 47 = .ok (.getfield 257, 3) := by decide +kernel
theorem dX10_toldAfter_50 : decode cX10_toldAfter 50 = .ok (.iconst (-1), 1) := by decide +kernel
theorem dX10_toldAfter_51 : decode cX10_toldAfter 51 = .ok (.if_icmp .ne 17, 3) := by decide +kernel
theorem dX10_toldAfter_54 : decode cX10_toldAfter 54 = .ok (.aload_n 0, 1) := by decide +kernel
theorem dX10_toldAfter_55 : decode cX10_toldAfter 55 = .ok (.getfield 16, 3) := by decide +kernel
theorem dX10_toldAfter_58 : decode cX10_toldAfter 58 = .ok (.iconst 1, 1) := by decide +kernel
theorem dX10_toldAfter_59 : decode cX10_toldAfter 59 = .ok (.invokevirtual 201, 3) := by decide +kernel
theorem dX10_toldAfter_62 : decode cX10_toldAfter 62 = .ok (.iinc 2 1, 3) := by decide +kernel
theorem dX10_toldAfter_65 : decode cX10_toldAfter 65 = .ok (.goto (-30), 3) := by decide +kernel
theorem dX10_toldAfter_68 : decode cX10_toldAfter 68 = .ok (.aload_n 0, 1) := by decide +kernel
theorem dX10_toldAfter_69 : decode cX10_toldAfter 69 = .ok (.getfield 16, 3) := by decide +kernel
theorem dX10_toldAfter_72 : decode cX10_toldAfter 72 = .ok (.getfield 53, 3) := by decide +kernel
theorem dX10_toldAfter_75 : decode cX10_toldAfter 75 = .ok (.getfield 257, 3) := by decide +kernel
theorem dX10_toldAfter_78 : decode cX10_toldAfter 78 = .ok (.iconst (-1), 1) := by decide +kernel
theorem dX10_toldAfter_79 : decode cX10_toldAfter 79 = .ok (.if_icmp .eq 7, 3) := by decide +kernel
theorem dX10_toldAfter_82 : decode cX10_toldAfter 82 = .ok (.iload_n 2, 1) := by decide +kernel
theorem dX10_toldAfter_83 : decode cX10_toldAfter 83 = .ok (.goto 4, 3) := by decide +kernel
theorem dX10_toldAfter_86 : decode cX10_toldAfter 86 = .ok (.iconst (-1), 1) := by decide +kernel
theorem dX10_toldAfter_87 : decode cX10_toldAfter 87 = .ok (.ireturn, 1) := by decide +kernel
theorem dX10_worstError_0 : decode cX10_worstError 0 = .ok (.iload_n 1, 1) := by decide +kernel
theorem dX10_worstError_1 : decode cX10_worstError 1 = .ok (.invokestatic 295, 3) := by decide +kernel
theorem dX10_worstError_4 : decode cX10_worstError 4 = .ok (.ifCond .ne 13, 3) := by decide +kernel
theorem dX10_worstError_7 : decode cX10_worstError 7 = .ok (.new 43, 3) := by decide +kernel
theorem dX10_worstError_10 : decode cX10_worstError 10 = .ok (.dup, 1) := by decide +kernel
theorem dX10_worstError_11 : decode cX10_worstError 11 = .ok (.ldc 184, 2) := by decide +kernel
theorem dX10_worstError_13 : decode cX10_worstError 13 = .ok (.invokespecial 47, 3) := by decide +kernel
theorem dX10_worstError_16 : decode cX10_worstError 16 = .ok (.athrow, 1) := by decide +kernel
theorem dX10_worstError_17 : decode cX10_worstError 17 = .ok (.aload_n 0, 1) := by decide +kernel
theorem dX10_worstError_18 : decode cX10_worstError 18 = .ok (.iload_n 1, 1) := by decide +kernel
theorem dX10_worstError_19 : decode cX10_worstError 19 = .ok (.aload_n 0, 1) := by decide +kernel
theorem dX10_worstError_20 : decode cX10_worstError 20 = .ok (.getfield 12, 3) := by decide +kernel
theorem dX10_worstError_23 : decode cX10_worstError 23 = .ok (.getfield 140, 3) := by decide +kernel
theorem dX10_worstError_26 : decode cX10_worstError 26 = .ok (.iconst 5, 1) := by decide +kernel
theorem dX10_worstError_27 : decode cX10_worstError 27 = .ok (.invokevirtual 151, 3) := by decide +kernel
theorem dX10_worstError_30 : decode cX10_worstError 30 = .ok (.invokevirtual 298, 3) := by decide +kernel
theorem dX10_worstError_33 : decode cX10_worstError 33 = .ok (.ireturn, 1) := by decide +kernel
theorem dX10_bestMode_0 : decode cX10_bestMode 0 = .ok (.iload_n 1, 1) := by decide +kernel
theorem dX10_bestMode_1 : decode cX10_bestMode 1 = .ok (.invokestatic 295, 3) := by decide +kernel
theorem dX10_bestMode_4 : decode cX10_bestMode 4 = .ok (.ifCond .ne 13, 3) := by decide +kernel
theorem dX10_bestMode_7 : decode cX10_bestMode 7 = .ok (.new 43, 3) := by decide +kernel
theorem dX10_bestMode_10 : decode cX10_bestMode 10 = .ok (.dup, 1) := by decide +kernel
theorem dX10_bestMode_11 : decode cX10_bestMode 11 = .ok (.ldc 184, 2) := by decide +kernel
theorem dX10_bestMode_13 : decode cX10_bestMode 13 = .ok (.invokespecial 47, 3) := by decide +kernel
theorem dX10_bestMode_16 : decode cX10_bestMode 16 = .ok (.athrow, 1) := by decide +kernel
theorem dX10_bestMode_17 : decode cX10_bestMode 17 = .ok (.iconst 0, 1) := by decide +kernel
theorem dX10_bestMode_18 : decode cX10_bestMode 18 = .ok (.istore_n 2, 1) := by decide +kernel
theorem dX10_bestMode_19 : decode cX10_bestMode 19 = .ok (.aload_n 0, 1) := by decide +kernel
theorem dX10_bestMode_20 : decode cX10_bestMode 20 = .ok (.iload_n 1, 1) := by decide +kernel
theorem dX10_bestMode_21 : decode cX10_bestMode 21 = .ok (.iconst 0, 1) := by decide +kernel
theorem dX10_bestMode_22 : decode cX10_bestMode 22 = .ok (.invokevirtual 298, 3) := by decide +kernel
theorem dX10_bestMode_25 : decode cX10_bestMode 25 = .ok (.istore_n 3, 1) := by decide +kernel
theorem dX10_bestMode_26 : decode cX10_bestMode 26 = .ok (.iconst 1, 1) := by decide +kernel
theorem dX10_bestMode_27 : decode cX10_bestMode 27 = .ok (.istore 4, 2) := by decide +kernel
theorem dX10_bestMode_29 : decode cX10_bestMode 29 = .ok (.iload 4, 2) := by decide +kernel
theorem dX10_bestMode_31 : decode cX10_bestMode 31 = .ok (.iconst 3, 1) := by decide +kernel
theorem dX10_bestMode_32 : decode cX10_bestMode 32 = .ok (.if_icmp .ge 30, 3) := by decide +kernel
theorem dX10_bestMode_35 : decode cX10_bestMode 35 = .ok (.aload_n 0, 1) := by decide +kernel
theorem dX10_bestMode_36 : decode cX10_bestMode 36 = .ok (.iload_n 1, 1) := by decide +kernel
theorem dX10_bestMode_37 : decode cX10_bestMode 37 = .ok (.iload 4, 2) := by decide +kernel
theorem dX10_bestMode_39 : decode cX10_bestMode 39 = .ok (.invokevirtual 298, 3) := by decide +kernel
theorem dX10_bestMode_42 : decode cX10_bestMode 42 = .ok (.istore 5, 2) := by decide +kernel
theorem dX10_bestMode_44 : decode cX10_bestMode 44 = .ok (.iload 5, 2) := by decide +kernel
theorem dX10_bestMode_46 : decode cX10_bestMode 46 = .ok (.iload_n 3, 1) := by decide +kernel
theorem dX10_bestMode_47 : decode cX10_bestMode 47 = .ok (.if_icmp .ge 9, 3) := by decide +kernel
theorem dX10_bestMode_50 : decode cX10_bestMode 50 = .ok (.iload 4, 2) := by decide +kernel
theorem dX10_bestMode_52 : decode cX10_bestMode 52 = .ok (.istore_n 2, 1) := by decide +kernel
theorem dX10_bestMode_53 : decode cX10_bestMode 53 = .ok (.iload 5, 2) := by decide +kernel
theorem dX10_bestMode_55 : decode cX10_bestMode 55 = .ok (.istore_n 3, 1) := by decide +kernel
theorem dX10_bestMode_56 : decode cX10_bestMode 56 = .ok (.iinc 4 1, 3) := by decide +kernel
theorem dX10_bestMode_59 : decode cX10_bestMode 59 = .ok (.goto (-30), 3) := by decide +kernel
theorem dX10_bestMode_62 : decode cX10_bestMode 62 = .ok (.iload_n 2, 1) := by decide +kernel
theorem dX10_bestMode_63 : decode cX10_bestMode 63 = .ok (.ireturn, 1) := by decide +kernel
theorem dX10_type_0 : decode cX10_type 0 = .ok (.iload_n 1, 1) := by decide +kernel
theorem dX10_type_1 : decode cX10_type 1 = .ok (.ifCond .lt 9, 3) := by decide +kernel
theorem dX10_type_4 : decode cX10_type 4 = .ok (.iload_n 1, 1) := by decide +kernel
theorem dX10_type_5 : decode cX10_type 5 = .ok (.bipush 127, 2) := by decide +kernel
theorem dX10_type_7 : decode cX10_type 7 = .ok (.if_icmp .le 14, 3) := by decide +kernel
theorem dX10_type_10 : decode cX10_type 10 = .ok (.new 43, 3) := by decide +kernel
theorem dX10_type_13 : decode cX10_type 13 = .ok (.dup, 1) := by decide +kernel
theorem dX10_type_14 : decode cX10_type 14 = .ok (.ldc_w 301, 3) := by decide +kernel
theorem dX10_type_17 : decode cX10_type 17 = .ok (.invokespecial 47, 3) := by decide +kernel
theorem dX10_type_20 : decode cX10_type 20 = .ok (.athrow, 1) := by decide +kernel
theorem dX10_type_21 : decode cX10_type 21 = .ok (.aload_n 0, 1) := by decide +kernel
theorem dX10_type_22 : decode cX10_type 22 = .ok (.getfield 33, 3) := by decide +kernel
theorem dX10_type_25 : decode cX10_type 25 = .ok (.invokevirtual 303, 3) := by decide +kernel
theorem dX10_type_28 : decode cX10_type 28 = .ok (.ifCond .eq 14, 3) := by decide +kernel
theorem dX10_type_31 : decode cX10_type 31 = .ok (.new 104, 3) := by decide +kernel
theorem dX10_type_34 : decode cX10_type 34 = .ok (.dup, 1) := by decide +kernel
theorem dX10_type_35 : decode cX10_type 35 = .ok (.ldc_w 306, 3) := by decide +kernel
theorem dX10_type_38 : decode cX10_type 38 = .ok (.invokespecial 108, 3) := by decide +kernel
theorem dX10_type_41 : decode cX10_type 41 = .ok (.athrow, 1) := by decide +kernel
theorem dX10_type_42 : decode cX10_type 42 = .ok (.aload_n 0, 1) := by decide +kernel
theorem dX10_type_43 : decode cX10_type 43 = .ok (.getfield 33, 3) := by decide +kernel
theorem dX10_type_46 : decode cX10_type 46 = .ok (.iload_n 1, 1) := by decide +kernel
theorem dX10_type_47 : decode cX10_type 47 = .ok (.invokevirtual 308, 3) := by decide +kernel
theorem dX10_type_50 : decode cX10_type 50 = .ok (.aload_n 0, 1) := by decide +kernel
theorem dX10_type_51 : decode cX10_type 51 = .ok (.getfield 33, 3) := by decide +kernel
theorem dX10_type_54 : decode cX10_type 54 = .ok (.getfield 311, 3) := by decide +kernel
theorem dX10_type_57 : decode cX10_type 57 = .ok (.ireturn, 1) := by decide +kernel
theorem dX10_clearCommands_0 : decode cX10_clearCommands 0 = .ok (.aload_n 0, 1) := by decide +kernel
theorem dX10_clearCommands_1 : decode cX10_clearCommands 1 = .ok (.getfield 33, 3) := by decide +kernel
theorem dX10_clearCommands_4 : decode cX10_clearCommands 4 = .ok (.getfield 311, 3) := by decide +kernel
theorem dX10_clearCommands_7 : decode cX10_clearCommands 7 = .ok (.istore_n 1, 1) := by decide +kernel
theorem dX10_clearCommands_8 : decode cX10_clearCommands 8 = .ok (.aload_n 0, 1) := by decide +kernel
theorem dX10_clearCommands_9 : decode cX10_clearCommands 9 = .ok (.getfield 33, 3) := by decide +kernel
theorem dX10_clearCommands_12 : decode cX10_clearCommands 12 = .ok (.iconst 0, 1) := by decide +kernel
theorem dX10_clearCommands_13 : decode cX10_clearCommands 13 = .ok (.putfield 311, 3) := by decide +kernel
theorem dX10_clearCommands_16 : decode cX10_clearCommands 16 = .ok (.iload_n 1, 1) := by decide +kernel
theorem dX10_clearCommands_17 : decode cX10_clearCommands 17 = .ok (.ireturn, 1) := by decide +kernel
theorem dX10_runCommands_0 : decode cX10_runCommands 0 = .ok (.aload_n 0, 1) := by decide +kernel
theorem dX10_runCommands_1 : decode cX10_runCommands 1 = .ok (.getfield 33, 3) := by decide +kernel
theorem dX10_runCommands_4 : decode cX10_runCommands 4 = .ok (.invokevirtual 314, 3) := by decide +kernel
theorem dX10_runCommands_7 : decode cX10_runCommands 7 = .ok (.istore_n 1, 1) := by decide +kernel
theorem dX10_runCommands_8 : decode cX10_runCommands 8 = .ok (.iload_n 1, 1) := by decide +kernel
theorem dX10_runCommands_9 : decode cX10_runCommands 9 = .ok (.iconst (-1), 1) := by decide +kernel
theorem dX10_runCommands_10 : decode cX10_runCommands 10 = .ok (.if_icmp .eq 8, 3) := by decide +kernel
theorem dX10_runCommands_13 : decode cX10_runCommands 13 = .ok (.bipush (-10), 2) := by decide +kernel
theorem dX10_runCommands_15 : decode cX10_runCommands 15 = .ok (.iload_n 1, 1) := by decide +kernel
theorem dX10_runCommands_16 : decode cX10_runCommands 16 = .ok (.isub, 1) := by decide +kernel
theorem dX10_runCommands_17 : decode cX10_runCommands 17 = .ok (.ireturn, 1) := by decide +kernel
theorem dX10_runCommands_18 : decode cX10_runCommands 18 = .ok (.aload_n 0, 1) := by decide +kernel
theorem dX10_runCommands_19 : decode cX10_runCommands 19 = .ok (.invokevirtual 50, 3) := by decide +kernel
theorem dX10_runCommands_22 : decode cX10_runCommands 22 = .ok (.iconst 0, 1) := by decide +kernel
theorem dX10_runCommands_23 : decode cX10_runCommands 23 = .ok (.istore_n 2, 1) := by decide +kernel
theorem dX10_runCommands_24 : decode cX10_runCommands 24 = .ok (.aload_n 0, 1) := by decide +kernel
theorem dX10_runCommands_25 : decode cX10_runCommands 25 = .ok (.getfield 33, 3) := by decide +kernel
theorem dX10_runCommands_28 : decode cX10_runCommands 28 = .ok (.invokevirtual 317, 3) := by decide +kernel
theorem dX10_runCommands_31 : decode cX10_runCommands 31 = .ok (.iload_n 2, 1) := by decide +kernel
theorem dX10_runCommands_32 : decode cX10_runCommands 32 = .ok (.sipush 150, 3) := by decide +kernel
theorem dX10_runCommands_35 : decode cX10_runCommands 35 = .ok (.if_icmp .ge 36, 3) := by decide +kernel
theorem dX10_runCommands_38 : decode cX10_runCommands 38 = .ok (.aload_n 0, 1) := by decide +kernel
theorem dX10_runCommands_39 : decode cX10_runCommands 39 = .ok (.getfield 33, 3) := by decide +kernel
theorem dX10_runCommands_42 : decode cX10_runCommands 42 = .ok (.invokevirtual 320, 3) := by decide +kernel
theorem dX10_runCommands_45 : decode cX10_runCommands 45 = .ok (.ifCond .eq 26, 3) := by decide +kernel
theorem dX10_runCommands_48 : decode cX10_runCommands 48 = .ok (.aload_n 0, 1) := by decide +kernel
theorem dX10_runCommands_49 : decode cX10_runCommands 49 = .ok (.getfield 33, 3) := by decide +kernel
theorem dX10_runCommands_52 : decode cX10_runCommands 52 = .ok (.invokevirtual 323, 3) := by decide +kernel
theorem dX10_runCommands_55 : decode cX10_runCommands 55 = .ok (.ifCond .eq 16, 3) := by decide +kernel
theorem dX10_runCommands_58 : decode cX10_runCommands 58 = .ok (.aload_n 0, 1) := by decide +kernel
theorem dX10_runCommands_59 : decode cX10_runCommands 59 = .ok (.invokevirtual 326, 3) := by decide +kernel
theorem dX10_runCommands_62 : decode cX10_runCommands 62 = .ok (.ifCond .eq 9, 3) := by decide +kernel
theorem dX10_runCommands_65 : decode cX10_runCommands 65 = .ok (.iinc 2 1, 3) := by decide +kernel
theorem dX10_runCommands_68 : decode cX10_runCommands 68 = .ok (.goto (-37), 3) := by decide +kernel
theorem dX10_runCommands_71 : decode cX10_runCommands 71 = .ok (.iload_n 2, 1) := by decide +kernel
theorem dX10_runCommands_72 : decode cX10_runCommands 72 = .ok (.ireturn, 1) := by decide +kernel
theorem dX10_undo_0 : decode cX10_undo 0 = .ok (.aload_n 0, 1) := by decide +kernel
theorem dX10_undo_1 : decode cX10_undo 1 = .ok (.getfield 27, 3) := by decide +kernel
theorem dX10_undo_4 : decode cX10_undo 4 = .ok (.iconst 1, 1) := by decide +kernel
theorem dX10_undo_5 : decode cX10_undo 5 = .ok (.if_icmp .ge 14, 3) := by decide +kernel
theorem dX10_undo_8 : decode cX10_undo 8 = .ok (.new 104, 3) := by decide +kernel
theorem dX10_undo_11 : decode cX10_undo 11 = .ok (.dup, 1) := by decide +kernel
theorem dX10_undo_12 : decode cX10_undo 12 = .ok (.ldc_w 329, 3) := by decide +kernel
theorem dX10_undo_15 : decode cX10_undo 15 = .ok (.invokespecial 108, 3) := by decide +kernel
theorem dX10_undo_18 : decode cX10_undo 18 = .ok (.athrow, 1) := by decide +kernel
theorem dX10_undo_19 : decode cX10_undo 19 = .ok (.aload_n 0, 1) := by decide +kernel
theorem dX10_undo_20 : decode cX10_undo 20 = .ok (.aload_n 0, 1) := by decide +kernel
theorem dX10_undo_21 : decode cX10_undo 21 = .ok (.getfield 23, 3) := by decide +kernel
theorem dX10_undo_24 : decode cX10_undo 24 = .ok (.invokevirtual 331, 3) := by decide +kernel
theorem dX10_undo_27 : decode cX10_undo 27 = .ok (.aload_n 0, 1) := by decide +kernel
theorem dX10_undo_28 : decode cX10_undo 28 = .ok (.getfield 12, 3) := by decide +kernel
theorem dX10_undo_31 : decode cX10_undo 31 = .ok (.invokestatic 335, 3) := by decide +kernel
theorem dX10_undo_34 : decode cX10_undo 34 = .ok (.aload_n 0, 1) := by decide +kernel
theorem dX10_undo_35 : decode cX10_undo 35 = .ok (.aload_n 0, 1) := by decide +kernel
theorem dX10_undo_36 : decode cX10_undo 36 = .ok (.getfield 23, 3) := by decide +kernel
theorem dX10_undo_39 : decode cX10_undo 39 = .ok (.ifCond .le 12, 3) := by decide +kernel
theorem dX10_undo_42 : decode cX10_undo 42 = .ok (.aload_n 0, 1) := by decide +kernel
theorem dX10_undo_43 : decode cX10_undo 43 = .ok (.getfield 23, 3) := by decide +kernel
theorem dX10_undo_46 : decode cX10_undo 46 = .ok (.iconst 1, 1) := by decide +kernel
theorem dX10_undo_47 : decode cX10_undo 47 = .ok (.isub, 1) := by decide +kernel
theorem dX10_undo_48 : decode cX10_undo 48 = .ok (.goto 10, 3) := by decide +kernel
theorem dX10_undo_51 : decode cX10_undo 51 = .ok (.aload_n 0, 1) := by decide +kernel
theorem dX10_undo_52 : decode cX10_undo 52 = .ok (.getfield 19, 3) := by decide +kernel
theorem dX10_undo_55 : decode cX10_undo 55 = .ok (.arraylength, 1) := by decide +kernel
theorem dX10_undo_56 : decode cX10_undo 56 = .ok (.iconst 1, 1) := by decide +kernel
theorem dX10_undo_57 : decode cX10_undo 57 = .ok (.isub, 1) := by decide +kernel
theorem dX10_undo_58 : decode cX10_undo 58 = .ok (.putfield 23, 3) := by decide +kernel
theorem dX10_undo_61 : decode cX10_undo 61 = .ok (.aload_n 0, 1) := by decide +kernel
theorem dX10_undo_62 : decode cX10_undo 62 = .ok (.dup, 1) := by decide +kernel
theorem dX10_undo_63 : decode cX10_undo 63 = .ok (.getfield 27, 3) := by decide +kernel
theorem dX10_undo_66 : decode cX10_undo 66 = .ok (.iconst 1, 1) := by decide +kernel
theorem dX10_undo_67 : decode cX10_undo 67 = .ok (.isub, 1) := by decide +kernel
theorem dX10_undo_68 : decode cX10_undo 68 = .ok (.putfield 27, 3) := by decide +kernel
theorem dX10_undo_71 : decode cX10_undo 71 = .ok (.aload_n 0, 1) := by decide +kernel
theorem dX10_undo_72 : decode cX10_undo 72 = .ok (.getfield 27, 3) := by decide +kernel
theorem dX10_undo_75 : decode cX10_undo 75 = .ok (.ireturn, 1) := by decide +kernel
theorem dX10_digest_0 : decode cX10_digest 0 = .ok (.ldc2_w 339, 3) := by decide +kernel
theorem dX10_digest_3 : decode cX10_digest 3 = .ok (.lstore_n 1, 1) := by decide +kernel
theorem dX10_digest_4 : decode cX10_digest 4 = .ok (.ldc2_w 341, 3) := by decide +kernel
theorem dX10_digest_7 : decode cX10_digest 7 = .ok (.lload_n 1, 1) := by decide +kernel
theorem dX10_digest_8 : decode cX10_digest 8 = .ok (.lmul, 1) := by decide +kernel
theorem dX10_digest_9 : decode cX10_digest 9 = .ok (.aload_n 0, 1) := by decide +kernel
theorem dX10_digest_10 : decode cX10_digest 10 = .ok (.getfield 27, 3) := by decide +kernel
theorem dX10_digest_13 : decode cX10_digest 13 = .ok (.i2l, 1) := by decide +kernel
theorem dX10_digest_14 : decode cX10_digest 14 = .ok (.ladd, 1) := by decide +kernel
theorem dX10_digest_15 : decode cX10_digest 15 = .ok (.lstore_n 1, 1) := by decide +kernel
theorem dX10_digest_16 : decode cX10_digest 16 = .ok (.ldc2_w 341, 3) := by decide +kernel
theorem dX10_digest_19 : decode cX10_digest 19 = .ok (.lload_n 1, 1) := by decide +kernel
theorem dX10_digest_20 : decode cX10_digest 20 = .ok (.lmul, 1) := by decide +kernel
theorem dX10_digest_21 : decode cX10_digest 21 = .ok (.aload_n 0, 1) := by decide +kernel
theorem dX10_digest_22 : decode cX10_digest 22 = .ok (.getfield 33, 3) := by decide +kernel
theorem dX10_digest_25 : decode cX10_digest 25 = .ok (.getfield 311, 3) := by decide +kernel
theorem dX10_digest_28 : decode cX10_digest 28 = .ok (.i2l, 1) := by decide +kernel
theorem dX10_digest_29 : decode cX10_digest 29 = .ok (.ladd, 1) := by decide +kernel
theorem dX10_digest_30 : decode cX10_digest 30 = .ok (.lstore_n 1, 1) := by decide +kernel
theorem dX10_digest_31 : decode cX10_digest 31 = .ok (.iconst 0, 1) := by decide +kernel
theorem dX10_digest_32 : decode cX10_digest 32 = .ok (.istore_n 3, 1) := by decide +kernel
theorem dX10_digest_33 : decode cX10_digest 33 = .ok (.iload_n 3, 1) := by decide +kernel
theorem dX10_digest_34 : decode cX10_digest 34 = .ok (.bipush 12, 2) := by decide +kernel
theorem dX10_digest_36 : decode cX10_digest 36 = .ok (.if_icmp .ge 22, 3) := by decide +kernel
theorem dX10_digest_39 : decode cX10_digest 39 = .ok (.ldc2_w 341, 3) := by decide +kernel
theorem dX10_digest_42 : decode cX10_digest 42 = .ok (.lload_n 1, 1) := by decide +kernel
theorem dX10_digest_43 : decode cX10_digest 43 = .ok (.lmul, 1) := by decide +kernel
theorem dX10_digest_44 : decode cX10_digest 44 = .ok (.aload_n 0, 1) := by decide +kernel
theorem dX10_digest_45 : decode cX10_digest 45 = .ok (.iload_n 3, 1) := by decide +kernel
theorem dX10_digest_46 : decode cX10_digest 46 = .ok (.invokevirtual 343, 3) := by decide +kernel
theorem dX10_digest_49 : decode cX10_digest 49 = .ok (.i2l, 1) := by decide +kernel
theorem dX10_digest_50 : decode cX10_digest 50 = .ok (.ladd, 1) := by decide +kernel
theorem dX10_digest_51 : decode cX10_digest 51 = .ok (.lstore_n 1, 1) := by decide +kernel
theorem dX10_digest_52 : decode cX10_digest 52 = .ok (.iinc 3 1, 3) := by decide +kernel
theorem dX10_digest_55 : decode cX10_digest 55 = .ok (.goto (-22), 3) := by decide +kernel
theorem dX10_digest_58 : decode cX10_digest 58 = .ok (.iconst 0, 1) := by decide +kernel
theorem dX10_digest_59 : decode cX10_digest 59 = .ok (.istore_n 3, 1) := by decide +kernel
theorem dX10_digest_60 : decode cX10_digest 60 = .ok (.iload_n 3, 1) := by decide +kernel
theorem dX10_digest_61 : decode cX10_digest 61 = .ok (.bipush 12, 2) := by decide +kernel
theorem dX10_digest_63 : decode cX10_digest 63 = .ok (.if_icmp .ge 22, 3) := by decide +kernel
theorem dX10_digest_66 : decode cX10_digest 66 = .ok (.ldc2_w 341, 3) := by decide +kernel
theorem dX10_digest_69 : decode cX10_digest 69 = .ok (.lload_n 1, 1) := by decide +kernel
theorem dX10_digest_70 : decode cX10_digest 70 = .ok (.lmul, 1) := by decide +kernel
theorem dX10_digest_71 : decode cX10_digest 71 = .ok (.aload_n 0, 1) := by decide +kernel
theorem dX10_digest_72 : decode cX10_digest 72 = .ok (.iload_n 3, 1) := by decide +kernel
theorem dX10_digest_73 : decode cX10_digest 73 = .ok (.invokevirtual 345, 3) := by decide +kernel
theorem dX10_digest_76 : decode cX10_digest 76 = .ok (.i2l, 1) := by decide +kernel
theorem dX10_digest_77 : decode cX10_digest 77 = .ok (.ladd, 1) := by decide +kernel
theorem dX10_digest_78 : decode cX10_digest 78 = .ok (.lstore_n 1, 1) := by decide +kernel
theorem dX10_digest_79 : decode cX10_digest 79 = .ok (.iinc 3 1, 3) := by decide +kernel
theorem dX10_digest_82 : decode cX10_digest 82 = .ok (.goto (-22), 3) := by decide +kernel
theorem dX10_digest_85 : decode cX10_digest 85 = .ok (.iconst 0, 1) := by decide +kernel
theorem dX10_digest_86 : decode cX10_digest 86 = .ok (.istore_n 3, 1) := by decide +kernel
theorem dX10_digest_87 : decode cX10_digest 87 = .ok (.iload_n 3, 1) := by decide +kernel
theorem dX10_digest_88 : decode cX10_digest 88 = .ok (.bipush 13, 2) := by decide +kernel
theorem dX10_digest_90 : decode cX10_digest 90 = .ok (.if_icmp .ge 22, 3) := by decide +kernel
theorem dX10_digest_93 : decode cX10_digest 93 = .ok (.ldc2_w 341, 3) := by decide +kernel
theorem dX10_digest_96 : decode cX10_digest 96 = .ok (.lload_n 1, 1) := by decide +kernel
theorem dX10_digest_97 : decode cX10_digest 97 = .ok (.lmul, 1) := by decide +kernel
theorem dX10_digest_98 : decode cX10_digest 98 = .ok (.aload_n 0, 1) := by decide +kernel
theorem dX10_digest_99 : decode cX10_digest 99 = .ok (.iload_n 3, 1) := by decide +kernel
theorem dX10_digest_100 : decode cX10_digest 100 = .ok (.invokevirtual 348, 3) := by decide +kernel
theorem dX10_digest_103 : decode cX10_digest 103 = .ok (.i2l, 1) := by decide +kernel
theorem dX10_digest_104 : decode cX10_digest 104 = .ok (.ladd, 1) := by decide +kernel
theorem dX10_digest_105 : decode cX10_digest 105 = .ok (.lstore_n 1, 1) := by decide +kernel
theorem dX10_digest_106 : decode cX10_digest 106 = .ok (.iinc 3 1, 3) := by decide +kernel
theorem dX10_digest_109 : decode cX10_digest 109 = .ok (.goto (-22), 3) := by decide +kernel
theorem dX10_digest_112 : decode cX10_digest 112 = .ok (.aload_n 0, 1) := by decide +kernel
theorem dX10_digest_113 : decode cX10_digest 113 = .ok (.getfield 12, 3) := by decide +kernel
theorem dX10_digest_116 : decode cX10_digest 116 = .ok (.getfield 66, 3) := by decide +kernel
theorem dX10_digest_119 : decode cX10_digest 119 = .ok (.lload_n 1, 1) := by decide +kernel
theorem dX10_digest_120 : decode cX10_digest 120 = .ok (.invokevirtual 351, 3) := by decide +kernel
theorem dX10_digest_123 : decode cX10_digest 123 = .ok (.lstore_n 1, 1) := by decide +kernel
theorem dX10_digest_124 : decode cX10_digest 124 = .ok (.aload_n 0, 1) := by decide +kernel
theorem dX10_digest_125 : decode cX10_digest 125 = .ok (.getfield 12, 3) := by decide +kernel
theorem dX10_digest_128 : decode cX10_digest 128 = .ok (.getfield 206, 3) := by decide +kernel
theorem dX10_digest_131 : decode cX10_digest 131 = .ok (.lload_n 1, 1) := by decide +kernel
theorem dX10_digest_132 : decode cX10_digest 132 = .ok (.invokevirtual 355, 3) := by decide +kernel
theorem dX10_digest_135 : decode cX10_digest 135 = .ok (.lstore_n 1, 1) := by decide +kernel
theorem dX10_digest_136 : decode cX10_digest 136 = .ok (.iconst 0, 1) := by decide +kernel
theorem dX10_digest_137 : decode cX10_digest 137 = .ok (.istore_n 3, 1) := by decide +kernel
theorem dX10_digest_138 : decode cX10_digest 138 = .ok (.iload_n 3, 1) := by decide +kernel
theorem dX10_digest_139 : decode cX10_digest 139 = .ok (.aload_n 0, 1) := by decide +kernel
theorem dX10_digest_140 : decode cX10_digest 140 = .ok (.getfield 12, 3) := by decide +kernel
theorem dX10_digest_143 : decode cX10_digest 143 = .ok (.getfield 140, 3) := by decide +kernel
theorem dX10_digest_146 : decode cX10_digest 146 = .ok (.bipush 6, 2) := by decide +kernel
theorem dX10_digest_148 : decode cX10_digest 148 = .ok (.invokevirtual 151, 3) := by decide +kernel
theorem dX10_digest_151 : decode cX10_digest 151 = .ok (.if_icmp .ge 22, 3) := by decide +kernel
theorem dX10_digest_154 : decode cX10_digest 154 = .ok (.ldc2_w 341, 3) := by decide +kernel
theorem dX10_digest_157 : decode cX10_digest 157 = .ok (.lload_n 1, 1) := by decide +kernel
theorem dX10_digest_158 : decode cX10_digest 158 = .ok (.lmul, 1) := by decide +kernel
theorem dX10_digest_159 : decode cX10_digest 159 = .ok (.aload_n 0, 1) := by decide +kernel
theorem dX10_digest_160 : decode cX10_digest 160 = .ok (.iload_n 3, 1) := by decide +kernel
theorem dX10_digest_161 : decode cX10_digest 161 = .ok (.invokevirtual 356, 3) := by decide +kernel
theorem dX10_digest_164 : decode cX10_digest 164 = .ok (.i2l, 1) := by decide +kernel
theorem dX10_digest_165 : decode cX10_digest 165 = .ok (.ladd, 1) := by decide +kernel
theorem dX10_digest_166 : decode cX10_digest 166 = .ok (.lstore_n 1, 1) := by decide +kernel
theorem dX10_digest_167 : decode cX10_digest 167 = .ok (.iinc 3 1, 3) := by decide +kernel
theorem dX10_digest_170 : decode cX10_digest 170 = .ok (.goto (-32), 3) := by decide +kernel
theorem dX10_digest_173 : decode cX10_digest 173 = .ok (.aload_n 0, 1) := by decide +kernel
theorem dX10_digest_174 : decode cX10_digest 174 = .ok (.getfield 12, 3) := by decide +kernel
theorem dX10_digest_177 : decode cX10_digest 177 = .ok (.getfield 168, 3) := by decide +kernel
theorem dX10_digest_180 : decode cX10_digest 180 = .ok (.lload_n 1, 1) := by decide +kernel
theorem dX10_digest_181 : decode cX10_digest 181 = .ok (.invokevirtual 359, 3) := by decide +kernel
theorem dX10_digest_184 : decode cX10_digest 184 = .ok (.lreturn, 1) := by decide +kernel
theorem dX10_allowsDistance_0 : decode cX10_allowsDistance 0 = .ok (.iload_n 0, 1) := by decide +kernel
theorem dX10_allowsDistance_1 : decode cX10_allowsDistance 1 = .ok (.ifCond .lt 14, 3) := by decide +kernel
theorem dX10_allowsDistance_4 : decode cX10_allowsDistance 4 = .ok (.iload_n 0, 1) := by decide +kernel
theorem dX10_allowsDistance_5 : decode cX10_allowsDistance 5 = .ok (.sipush 10000, 3) := by decide +kernel
theorem dX10_allowsDistance_8 : decode cX10_allowsDistance 8 = .ok (.if_icmp .gt 7, 3) := by decide +kernel
theorem dX10_allowsDistance_11 : decode cX10_allowsDistance 11 = .ok (.iconst 1, 1) := by decide +kernel
theorem dX10_allowsDistance_12 : decode cX10_allowsDistance 12 = .ok (.goto 4, 3) := by decide +kernel
theorem dX10_allowsDistance_15 : decode cX10_allowsDistance 15 = .ok (.iconst 0, 1) := by decide +kernel
theorem dX10_allowsDistance_16 : decode cX10_allowsDistance 16 = .ok (.ireturn, 1) := by decide +kernel
theorem dX10_allowsShooting_0 : decode cX10_allowsShooting 0 = .ok (.iload_n 0, 1) := by decide +kernel
theorem dX10_allowsShooting_1 : decode cX10_allowsShooting 1 = .ok (.iconst 1, 1) := by decide +kernel
theorem dX10_allowsShooting_2 : decode cX10_allowsShooting 2 = .ok (.if_icmp .lt 14, 3) := by decide +kernel
theorem dX10_allowsShooting_5 : decode cX10_allowsShooting 5 = .ok (.iload_n 0, 1) := by decide +kernel
theorem dX10_allowsShooting_6 : decode cX10_allowsShooting 6 = .ok (.sipush 500, 3) := by decide +kernel
theorem dX10_allowsShooting_9 : decode cX10_allowsShooting 9 = .ok (.if_icmp .gt 7, 3) := by decide +kernel
theorem dX10_allowsShooting_12 : decode cX10_allowsShooting 12 = .ok (.iconst 1, 1) := by decide +kernel
theorem dX10_allowsShooting_13 : decode cX10_allowsShooting 13 = .ok (.goto 4, 3) := by decide +kernel
theorem dX10_allowsShooting_16 : decode cX10_allowsShooting 16 = .ok (.iconst 0, 1) := by decide +kernel
theorem dX10_allowsShooting_17 : decode cX10_allowsShooting 17 = .ok (.ireturn, 1) := by decide +kernel
theorem dX10_allowsLearning_0 : decode cX10_allowsLearning 0 = .ok (.iload_n 0, 1) := by decide +kernel
theorem dX10_allowsLearning_1 : decode cX10_allowsLearning 1 = .ok (.iconst 1, 1) := by decide +kernel
theorem dX10_allowsLearning_2 : decode cX10_allowsLearning 2 = .ok (.if_icmp .lt 13, 3) := by decide +kernel
theorem dX10_allowsLearning_5 : decode cX10_allowsLearning 5 = .ok (.iload_n 0, 1) := by decide +kernel
theorem dX10_allowsLearning_6 : decode cX10_allowsLearning 6 = .ok (.bipush 50, 2) := by decide +kernel
theorem dX10_allowsLearning_8 : decode cX10_allowsLearning 8 = .ok (.if_icmp .gt 7, 3) := by decide +kernel
theorem dX10_allowsLearning_11 : decode cX10_allowsLearning 11 = .ok (.iconst 1, 1) := by decide +kernel
theorem dX10_allowsLearning_12 : decode cX10_allowsLearning 12 = .ok (.goto 4, 3) := by decide +kernel
theorem dX10_allowsLearning_15 : decode cX10_allowsLearning 15 = .ok (.iconst 0, 1) := by decide +kernel
theorem dX10_allowsLearning_16 : decode cX10_allowsLearning 16 = .ok (.ireturn, 1) := by decide +kernel
theorem dX10_allowsForecast_0 : decode cX10_allowsForecast 0 = .ok (.iload_n 0, 1) := by decide +kernel
theorem dX10_allowsForecast_1 : decode cX10_allowsForecast 1 = .ok (.iconst 1, 1) := by decide +kernel
theorem dX10_allowsForecast_2 : decode cX10_allowsForecast 2 = .ok (.if_icmp .lt 14, 3) := by decide +kernel
theorem dX10_allowsForecast_5 : decode cX10_allowsForecast 5 = .ok (.iload_n 0, 1) := by decide +kernel
theorem dX10_allowsForecast_6 : decode cX10_allowsForecast 6 = .ok (.sipush 200, 3) := by decide +kernel
theorem dX10_allowsForecast_9 : decode cX10_allowsForecast 9 = .ok (.if_icmp .gt 7, 3) := by decide +kernel
theorem dX10_allowsForecast_12 : decode cX10_allowsForecast 12 = .ok (.iconst 1, 1) := by decide +kernel
theorem dX10_allowsForecast_13 : decode cX10_allowsForecast 13 = .ok (.goto 4, 3) := by decide +kernel
theorem dX10_allowsForecast_16 : decode cX10_allowsForecast 16 = .ok (.iconst 0, 1) := by decide +kernel
theorem dX10_allowsForecast_17 : decode cX10_allowsForecast 17 = .ok (.ireturn, 1) := by decide +kernel
theorem dX10_copyRow_0 : decode cX10_copyRow 0 = .ok (.aload_n 0, 1) := by decide +kernel
theorem dX10_copyRow_1 : decode cX10_copyRow 1 = .ok (.iconst 0, 1) := by decide +kernel
theorem dX10_copyRow_2 : decode cX10_copyRow 2 = .ok (.aload_n 1, 1) := by decide +kernel
theorem dX10_copyRow_3 : decode cX10_copyRow 3 = .ok (.iconst 0, 1) := by decide +kernel
theorem dX10_copyRow_4 : decode cX10_copyRow 4 = .ok (.aload_n 0, 1) := by decide +kernel
theorem dX10_copyRow_5 : decode cX10_copyRow 5 = .ok (.arraylength, 1) := by decide +kernel
theorem dX10_copyRow_6 : decode cX10_copyRow 6 = .ok (.aload_n 1, 1) := by decide +kernel
theorem dX10_copyRow_7 : decode cX10_copyRow 7 = .ok (.arraylength, 1) := by decide +kernel
theorem dX10_copyRow_8 : decode cX10_copyRow 8 = .ok (.invokestatic 360, 3) := by decide +kernel
theorem dX10_copyRow_11 : decode cX10_copyRow 11 = .ok (.invokestatic 365, 3) := by decide +kernel
theorem dX10_copyRow_14 : decode cX10_copyRow 14 = .ok (.return_, 1) := by decide +kernel
theorem dX10_copyIfThere_0 : decode cX10_copyIfThere 0 = .ok (.aload_n 0, 1) := by decide +kernel
theorem dX10_copyIfThere_1 : decode cX10_copyIfThere 1 = .ok (.ifnull 12, 3) := by decide +kernel
theorem dX10_copyIfThere_4 : decode cX10_copyIfThere 4 = .ok (.aload_n 1, 1) := by decide +kernel
theorem dX10_copyIfThere_5 : decode cX10_copyIfThere 5 = .ok (.ifnull 8, 3) := by decide +kernel
theorem dX10_copyIfThere_8 : decode cX10_copyIfThere 8 = .ok (.aload_n 1, 1) := by decide +kernel
theorem dX10_copyIfThere_9 : decode cX10_copyIfThere 9 = .ok (.aload_n 0, 1) := by decide +kernel
theorem dX10_copyIfThere_10 : decode cX10_copyIfThere 10 = .ok (.invokevirtual 291, 3) := by decide +kernel
theorem dX10_copyIfThere_13 : decode cX10_copyIfThere 13 = .ok (.return_, 1) := by decide +kernel
theorem dX10_savedAt_0 : decode cX10_savedAt 0 = .ok (.iload_n 1, 1) := by decide +kernel
theorem dX10_savedAt_1 : decode cX10_savedAt 1 = .ok (.ifCond .lt 21, 3) := by decide +kernel
theorem dX10_savedAt_4 : decode cX10_savedAt 4 = .ok (.iload_n 1, 1) := by decide +kernel
theorem dX10_savedAt_5 : decode cX10_savedAt 5 = .ok (.aload_n 0, 1) := by decide +kernel
theorem dX10_savedAt_6 : decode cX10_savedAt 6 = .ok (.getfield 19, 3) := by decide +kernel
theorem dX10_savedAt_9 : decode cX10_savedAt 9 = .ok (.arraylength, 1) := by decide +kernel
theorem dX10_savedAt_10 : decode cX10_savedAt 10 = .ok (.if_icmp .ge 12, 3) := by decide +kernel
theorem dX10_savedAt_13 : decode cX10_savedAt 13 = .ok (.aload_n 0, 1) := by decide +kernel
theorem dX10_savedAt_14 : decode cX10_savedAt 14 = .ok (.getfield 19, 3) := by decide +kernel
theorem dX10_savedAt_17 : decode cX10_savedAt 17 = .ok (.iload_n 1, 1) := by decide +kernel
theorem dX10_savedAt_18 : decode cX10_savedAt 18 = .ok (.aaload, 1) := by decide +kernel
theorem dX10_savedAt_19 : decode cX10_savedAt 19 = .ok (.goto 4, 3) := by decide +kernel
theorem dX10_savedAt_22 : decode cX10_savedAt 22 = .ok (.aconst_null, 1) := by decide +kernel
theorem dX10_savedAt_23 : decode cX10_savedAt 23 = .ok (.areturn, 1) := by decide +kernel
theorem dX10_save_0 : decode cX10_save 0 = .ok (.aload_n 0, 1) := by decide +kernel
theorem dX10_save_1 : decode cX10_save 1 = .ok (.aload_n 0, 1) := by decide +kernel
theorem dX10_save_2 : decode cX10_save 2 = .ok (.getfield 23, 3) := by decide +kernel
theorem dX10_save_5 : decode cX10_save 5 = .ok (.iconst 1, 1) := by decide +kernel
theorem dX10_save_6 : decode cX10_save 6 = .ok (.iadd, 1) := by decide +kernel
theorem dX10_save_7 : decode cX10_save 7 = .ok (.aload_n 0, 1) := by decide +kernel
theorem dX10_save_8 : decode cX10_save 8 = .ok (.getfield 19, 3) := by decide +kernel
theorem dX10_save_11 : decode cX10_save 11 = .ok (.arraylength, 1) := by decide +kernel
theorem dX10_save_12 : decode cX10_save 12 = .ok (.if_icmp .ge 12, 3) := by decide +kernel
theorem dX10_save_15 : decode cX10_save 15 = .ok (.aload_n 0, 1) := by decide +kernel
theorem dX10_save_16 : decode cX10_save 16 = .ok (.getfield 23, 3) := by decide +kernel
theorem dX10_save_19 : decode cX10_save 19 = .ok (.iconst 1, 1) := by decide +kernel
theorem dX10_save_20 : decode cX10_save 20 = .ok (.iadd, 1) := by decide +kernel
theorem dX10_save_21 : decode cX10_save 21 = .ok (.goto 4, 3) := by decide +kernel
theorem dX10_save_24 : decode cX10_save 24 = .ok (.iconst 0, 1) := by decide +kernel
theorem dX10_save_25 : decode cX10_save 25 = .ok (.putfield 23, 3) := by decide +kernel
theorem dX10_save_28 : decode cX10_save 28 = .ok (.aload_n 0, 1) := by decide +kernel
theorem dX10_save_29 : decode cX10_save 29 = .ok (.getfield 12, 3) := by decide +kernel
theorem dX10_save_32 : decode cX10_save 32 = .ok (.aload_n 0, 1) := by decide +kernel
theorem dX10_save_33 : decode cX10_save 33 = .ok (.aload_n 0, 1) := by decide +kernel
theorem dX10_save_34 : decode cX10_save 34 = .ok (.getfield 23, 3) := by decide +kernel
theorem dX10_save_37 : decode cX10_save 37 = .ok (.invokevirtual 331, 3) := by decide +kernel
theorem dX10_save_40 : decode cX10_save 40 = .ok (.invokestatic 335, 3) := by decide +kernel
theorem dX10_save_43 : decode cX10_save 43 = .ok (.aload_n 0, 1) := by decide +kernel
theorem dX10_save_44 : decode cX10_save 44 = .ok (.getfield 27, 3) := by decide +kernel
theorem dX10_save_47 : decode cX10_save 47 = .ok (.aload_n 0, 1) := by decide +kernel
theorem dX10_save_48 : decode cX10_save 48 = .ok (.getfield 19, 3) := by decide +kernel
theorem dX10_save_51 : decode cX10_save 51 = .ok (.arraylength, 1) := by decide +kernel
theorem dX10_save_52 : decode cX10_save 52 = .ok (.if_icmp .ge 13, 3) := by decide +kernel
theorem dX10_save_55 : decode cX10_save 55 = .ok (.aload_n 0, 1) := by decide +kernel
theorem dX10_save_56 : decode cX10_save 56 = .ok (.dup, 1) := by decide +kernel
theorem dX10_save_57 : decode cX10_save 57 = .ok (.getfield 27, 3) := by decide +kernel
theorem dX10_save_60 : decode cX10_save 60 = .ok (.iconst 1, 1) := by decide +kernel
theorem dX10_save_61 : decode cX10_save 61 = .ok (.iadd, 1) := by decide +kernel
theorem dX10_save_62 : decode cX10_save 62 = .ok (.putfield 27, 3) := by decide +kernel
theorem dX10_save_65 : decode cX10_save 65 = .ok (.return_, 1) := by decide +kernel
theorem dX10_worstErrorByMode_0 : decode cX10_worstErrorByMode 0 = .ok (.aload_n 0, 1) := by decide +kernel
theorem dX10_worstErrorByMode_1 : decode cX10_worstErrorByMode 1 = .ok (.getfield 16, 3) := by decide +kernel
theorem dX10_worstErrorByMode_4 : decode cX10_worstErrorByMode 4 = .ok (.aload_n 0, 1) := by decide +kernel
theorem dX10_worstErrorByMode_5 : decode cX10_worstErrorByMode 5 = .ok (.getfield 12, 3) := by decide +kernel
theorem dX10_worstErrorByMode_8 : decode cX10_worstErrorByMode 8 = .ok (.invokevirtual 291, 3) := by decide +kernel
theorem dX10_worstErrorByMode_11 : decode cX10_worstErrorByMode 11 = .ok (.aload_n 0, 1) := by decide +kernel
theorem dX10_worstErrorByMode_12 : decode cX10_worstErrorByMode 12 = .ok (.getfield 16, 3) := by decide +kernel
theorem dX10_worstErrorByMode_15 : decode cX10_worstErrorByMode 15 = .ok (.iconst 5, 1) := by decide +kernel
theorem dX10_worstErrorByMode_16 : decode cX10_worstErrorByMode 16 = .ok (.iload_n 2, 1) := by decide +kernel
theorem dX10_worstErrorByMode_17 : decode cX10_worstErrorByMode 17 = .ok (.invokevirtual 155, 3) := by decide +kernel
theorem dX10_worstErrorByMode_20 : decode cX10_worstErrorByMode 20 = .ok (.iconst 0, 1) := by decide +kernel
theorem dX10_worstErrorByMode_21 : decode cX10_worstErrorByMode 21 = .ok (.istore_n 3, 1) := by decide +kernel
theorem dX10_worstErrorByMode_22 : decode cX10_worstErrorByMode 22 = .ok (.iconst 0, 1) := by decide +kernel
theorem dX10_worstErrorByMode_23 : decode cX10_worstErrorByMode 23 = .ok (.istore 4, 2) := by decide +kernel
theorem dX10_worstErrorByMode_25 : decode cX10_worstErrorByMode 25 = .ok (.iload 4, 2) := by decide +kernel
theorem dX10_worstErrorByMode_27 : decode cX10_worstErrorByMode 27 = .ok (.iload_n 1, 1) := by decide +kernel
theorem dX10_worstErrorByMode_28 : decode cX10_worstErrorByMode 28 = .ok (.if_icmp .ge 74, 3) := by decide +kernel
theorem dX10_worstErrorByMode_31 : decode cX10_worstErrorByMode 31 = .ok (.aload_n 0, 1) := by decide +kernel
theorem dX10_worstErrorByMode_32 : decode cX10_worstErrorByMode 32 = .ok (.getfield 16, 3) := by decide +kernel
theorem dX10_worstErrorByMode_35 : decode cX10_worstErrorByMode 35 = .ok (.iconst 1, 1) := by decide +kernel
theorem dX10_worstErrorByMode_36 : decode cX10_worstErrorByMode 36 = .ok (.invokevirtual 201, 3) := by decide +kernel
theorem dX10_worstErrorByMode_39 : decode cX10_worstErrorByMode 39 = .ok (.aload_n 0, 1) := by decide +kernel
theorem dX10_worstErrorByMode_40 : decode cX10_worstErrorByMode 40 = .ok (.getfield 16, 3) := by decide +kernel
theorem dX10_worstErrorByMode_43 : decode cX10_worstErrorByMode 43 = .ok (.getfield 53, 3) := by decide +kernel
theorem dX10_worstErrorByMode_46 : decode cX10_worstErrorByMode 46 = .ok (.getfield 257, 3) := by decide +kernel
theorem dX10_worstErrorByMode_49 : decode cX10_worstErrorByMode 49 = .ok (.iconst (-1), 1) := by decide +kernel
theorem dX10_worstErrorByMode_50 : decode cX10_worstErrorByMode 50 = .ok (.if_icmp .eq 46, 3) := by decide +kernel
theorem dX10_worstErrorByMode_53 : decode cX10_worstErrorByMode 53 = .ok (.aload_n 0, 1) := by decide +kernel
theorem dX10_worstErrorByMode_54 : decode cX10_worstErrorByMode 54 = .ok (.getfield 16, 3) := by decide +kernel
theorem dX10_worstErrorByMode_57 : decode cX10_worstErrorByMode 57 = .ok (.getfield 66, 3) := by decide +kernel
theorem dX10_worstErrorByMode_60 : decode cX10_worstErrorByMode 60 = .ok (.getfield 75, 3) := by decide +kernel
theorem dX10_worstErrorByMode_63 : decode cX10_worstErrorByMode 63 = .ok (.aload_n 0, 1) := by decide +kernel
theorem dX10_worstErrorByMode_64 : decode cX10_worstErrorByMode 64 = .ok (.getfield 16, 3) := by decide +kernel
theorem dX10_worstErrorByMode_67 : decode cX10_worstErrorByMode 67 = .ok (.getfield 53, 3) := by decide +kernel
theorem dX10_worstErrorByMode_70 : decode cX10_worstErrorByMode 70 = .ok (.aload_n 0, 1) := by decide +kernel
theorem dX10_worstErrorByMode_71 : decode cX10_worstErrorByMode 71 = .ok (.getfield 16, 3) := by decide +kernel
theorem dX10_worstErrorByMode_74 : decode cX10_worstErrorByMode 74 = .ok (.getfield 66, 3) := by decide +kernel
theorem dX10_worstErrorByMode_77 : decode cX10_worstErrorByMode 77 = .ok (.getfield 236, 3) := by decide +kernel
theorem dX10_worstErrorByMode_80 : decode cX10_worstErrorByMode 80 = .ok (.invokevirtual 260, 3) := by decide +kernel
theorem dX10_worstErrorByMode_83 : decode cX10_worstErrorByMode 83 = .ok (.isub, 1) := by decide +kernel
theorem dX10_worstErrorByMode_84 : decode cX10_worstErrorByMode 84 = .ok (.istore 5, 2) := by decide +kernel
theorem dX10_worstErrorByMode_86 : decode cX10_worstErrorByMode 86 = .ok (.iload_n 3, 1) := by decide +kernel
theorem dX10_worstErrorByMode_87 : decode cX10_worstErrorByMode 87 = .ok (.iload 5, 2) := by decide +kernel
theorem dX10_worstErrorByMode_89 : decode cX10_worstErrorByMode 89 = .ok (.invokestatic 371, 3) := by decide +kernel
theorem dX10_worstErrorByMode_92 : decode cX10_worstErrorByMode 92 = .ok (.invokestatic 374, 3) := by decide +kernel
theorem dX10_worstErrorByMode_95 : decode cX10_worstErrorByMode 95 = .ok (.istore_n 3, 1) := by decide +kernel
theorem dX10_worstErrorByMode_96 : decode cX10_worstErrorByMode 96 = .ok (.iinc 4 1, 3) := by decide +kernel
theorem dX10_worstErrorByMode_99 : decode cX10_worstErrorByMode 99 = .ok (.goto (-74), 3) := by decide +kernel
theorem dX10_worstErrorByMode_102 : decode cX10_worstErrorByMode 102 = .ok (.iload_n 3, 1) := by decide +kernel
theorem dX10_worstErrorByMode_103 : decode cX10_worstErrorByMode 103 = .ok (.ireturn, 1) := by decide +kernel
theorem dX10_carryOut_0 : decode cX10_carryOut 0 = .ok (.aload_n 0, 1) := by decide +kernel
theorem dX10_carryOut_1 : decode cX10_carryOut 1 = .ok (.getfield 33, 3) := by decide +kernel
theorem dX10_carryOut_4 : decode cX10_carryOut 4 = .ok (.getfield 377, 3) := by decide +kernel
theorem dX10_carryOut_7 : decode cX10_carryOut 7 = .ok (.astore_n 1, 1) := by decide +kernel
theorem dX10_carryOut_8 : decode cX10_carryOut 8 = .ok (.aload_n 1, 1) := by decide +kernel
theorem dX10_carryOut_9 : decode cX10_carryOut 9 = .ok (.ifnonnull 5, 3) := by decide +kernel
theorem dX10_carryOut_12 : decode cX10_carryOut 12 = .ok (.iconst 0, 1) := by decide +kernel
theorem dX10_carryOut_13 : decode cX10_carryOut 13 = .ok (.ireturn, 1) := by decide +kernel
theorem dX10_carryOut_14 : decode cX10_carryOut 14 = .ok (.aload_n 0, 1) := by decide +kernel
theorem dX10_carryOut_15 : decode cX10_carryOut 15 = .ok (.getfield 33, 3) := by decide +kernel
theorem dX10_carryOut_18 : decode cX10_carryOut 18 = .ok (.iconst 0, 1) := by decide +kernel
theorem dX10_carryOut_19 : decode cX10_carryOut 19 = .ok (.invokevirtual 381, 3) := by decide +kernel
theorem dX10_carryOut_22 : decode cX10_carryOut 22 = .ok (.istore_n 2, 1) := by decide +kernel
theorem dX10_carryOut_23 : decode cX10_carryOut 23 = .ok (.aload_n 0, 1) := by decide +kernel
theorem dX10_carryOut_24 : decode cX10_carryOut 24 = .ok (.getfield 33, 3) := by decide +kernel
theorem dX10_carryOut_27 : decode cX10_carryOut 27 = .ok (.iconst 1, 1) := by decide +kernel
theorem dX10_carryOut_28 : decode cX10_carryOut 28 = .ok (.invokevirtual 381, 3) := by decide +kernel
theorem dX10_carryOut_31 : decode cX10_carryOut 31 = .ok (.istore_n 3, 1) := by decide +kernel
theorem dX10_carryOut_32 : decode cX10_carryOut 32 = .ok (.aload_n 0, 1) := by decide +kernel
theorem dX10_carryOut_33 : decode cX10_carryOut 33 = .ok (.aload_n 1, 1) := by decide +kernel
theorem dX10_carryOut_34 : decode cX10_carryOut 34 = .ok (.iload_n 2, 1) := by decide +kernel
theorem dX10_carryOut_35 : decode cX10_carryOut 35 = .ok (.iload_n 3, 1) := by decide +kernel
theorem dX10_carryOut_36 : decode cX10_carryOut 36 = .ok (.invokevirtual 384, 3) := by decide +kernel
theorem dX10_carryOut_39 : decode cX10_carryOut 39 = .ok (.istore 4, 2) := by decide +kernel
theorem dX10_carryOut_41 : decode cX10_carryOut 41 = .ok (.iload 4, 2) := by decide +kernel
theorem dX10_carryOut_43 : decode cX10_carryOut 43 = .ok (.ifCond .eq 204, 3) := by decide +kernel
theorem dX10_carryOut_46 : decode cX10_carryOut 46 = .ok (.getstatic 388, 3) := by decide +kernel
theorem dX10_carryOut_49 : decode cX10_carryOut 49 = .ok (.aload_n 1, 1) := by decide +kernel
theorem dX10_carryOut_50 : decode cX10_carryOut 50 = .ok (.invokevirtual 394, 3) := by decide +kernel
theorem dX10_carryOut_53 : decode cX10_carryOut 53 = .ok (.iaload, 1) := by decide +kernel
theorem dX10_carryOut_54 : decode cX10_carryOut 54 = .ok (.tableswitch 191 1 9 #[50, 61, 75, 89, 103, 118, 157, 169, 180], 50) := by decide +kernel
theorem dX10_carryOut_104 : decode cX10_carryOut 104 = .ok (.aload_n 0, 1) := by decide +kernel
theorem dX10_carryOut_105 : decode cX10_carryOut 105 = .ok (.getfield 12, 3) := by decide +kernel
theorem dX10_carryOut_108 : decode cX10_carryOut 108 = .ok (.iload_n 2, 1) := by decide +kernel
theorem dX10_carryOut_109 : decode cX10_carryOut 109 = .ok (.invokevirtual 62, 3) := by decide +kernel
theorem dX10_carryOut_112 : decode cX10_carryOut 112 = .ok (.goto 135, 3) := by decide +kernel
theorem dX10_carryOut_115 : decode cX10_carryOut 115 = .ok (.aload_n 0, 1) := by decide +kernel
theorem dX10_carryOut_116 : decode cX10_carryOut 116 = .ok (.getfield 12, 3) := by decide +kernel
theorem dX10_carryOut_119 : decode cX10_carryOut 119 = .ok (.getfield 66, 3) := by decide +kernel
theorem dX10_carryOut_122 : decode cX10_carryOut 122 = .ok (.iload_n 2, 1) := by decide +kernel
theorem dX10_carryOut_123 : decode cX10_carryOut 123 = .ok (.putfield 75, 3) := by decide +kernel
theorem dX10_carryOut_126 : decode cX10_carryOut 126 = .ok (.goto 121, 3) := by decide +kernel
theorem dX10_carryOut_129 : decode cX10_carryOut 129 = .ok (.aload_n 0, 1) := by decide +kernel
theorem dX10_carryOut_130 : decode cX10_carryOut 130 = .ok (.getfield 12, 3) := by decide +kernel
theorem dX10_carryOut_133 : decode cX10_carryOut 133 = .ok (.getfield 66, 3) := by decide +kernel
theorem dX10_carryOut_136 : decode cX10_carryOut 136 = .ok (.iload_n 2, 1) := by decide +kernel
theorem dX10_carryOut_137 : decode cX10_carryOut 137 = .ok (.putfield 83, 3) := by decide +kernel
theorem dX10_carryOut_140 : decode cX10_carryOut 140 = .ok (.goto 107, 3) := by decide +kernel
theorem dX10_carryOut_143 : decode cX10_carryOut 143 = .ok (.aload_n 0, 1) := by decide +kernel
theorem dX10_carryOut_144 : decode cX10_carryOut 144 = .ok (.getfield 12, 3) := by decide +kernel
theorem dX10_carryOut_147 : decode cX10_carryOut 147 = .ok (.getfield 66, 3) := by decide +kernel
theorem dX10_carryOut_150 : decode cX10_carryOut 150 = .ok (.iload_n 2, 1) := by decide +kernel
theorem dX10_carryOut_151 : decode cX10_carryOut 151 = .ok (.putfield 91, 3) := by decide +kernel
theorem dX10_carryOut_154 : decode cX10_carryOut 154 = .ok (.goto 93, 3) := by decide +kernel
theorem dX10_carryOut_157 : decode cX10_carryOut 157 = .ok (.aload_n 0, 1) := by decide +kernel
theorem dX10_carryOut_158 : decode cX10_carryOut 158 = .ok (.getfield 12, 3) := by decide +kernel
theorem dX10_carryOut_161 : decode cX10_carryOut 161 = .ok (.getfield 66, 3) := by decide +kernel
theorem dX10_carryOut_164 : decode cX10_carryOut 164 = .ok (.iload_n 2, 1) := by decide +kernel
theorem dX10_carryOut_165 : decode cX10_carryOut 165 = .ok (.iload_n 3, 1) := by decide +kernel
theorem dX10_carryOut_166 : decode cX10_carryOut 166 = .ok (.invokevirtual 109, 3) := by decide +kernel
theorem dX10_carryOut_169 : decode cX10_carryOut 169 = .ok (.goto 78, 3) := by decide +kernel
theorem dX10_carryOut_172 : decode cX10_carryOut 172 = .ok (.aload_n 0, 1) := by decide +kernel
theorem dX10_carryOut_173 : decode cX10_carryOut 173 = .ok (.getfield 12, 3) := by decide +kernel
theorem dX10_carryOut_176 : decode cX10_carryOut 176 = .ok (.getfield 66, 3) := by decide +kernel
theorem dX10_carryOut_179 : decode cX10_carryOut 179 = .ok (.iload_n 2, 1) := by decide +kernel
theorem dX10_carryOut_180 : decode cX10_carryOut 180 = .ok (.iload_n 3, 1) := by decide +kernel
theorem dX10_carryOut_181 : decode cX10_carryOut 181 = .ok (.aload_n 0, 1) := by decide +kernel
theorem dX10_carryOut_182 : decode cX10_carryOut 182 = .ok (.getfield 33, 3) := by decide +kernel
theorem dX10_carryOut_185 : decode cX10_carryOut 185 = .ok (.iconst 2, 1) := by decide +kernel
theorem dX10_carryOut_186 : decode cX10_carryOut 186 = .ok (.invokevirtual 381, 3) := by decide +kernel
theorem dX10_carryOut_189 : decode cX10_carryOut 189 = .ok (.aload_n 0, 1) := by decide +kernel
theorem dX10_carryOut_190 : decode cX10_carryOut 190 = .ok (.getfield 33, 3) := by decide +kernel
theorem dX10_carryOut_193 : decode cX10_carryOut 193 = .ok (.iconst 3, 1) := by decide +kernel
theorem dX10_carryOut_194 : decode cX10_carryOut 194 = .ok (.invokevirtual 381, 3) := by decide +kernel
theorem dX10_carryOut_197 : decode cX10_carryOut 197 = .ok (.aload_n 0, 1) := by decide +kernel
theorem dX10_carryOut_198 : decode cX10_carryOut 198 = .ok (.getfield 33, 3) := by decide +kernel
theorem dX10_carryOut_201 : decode cX10_carryOut 201 = .ok (.iconst 4, 1) := by decide +kernel
theorem dX10_carryOut_202 : decode cX10_carryOut 202 = .ok (.invokevirtual 381, 3) := by decide +kernel
theorem dX10_carryOut_205 : decode cX10_carryOut 205 = .ok (.invokevirtual 136, 3) := by decide +kernel
theorem dX10_carryOut_208 : decode cX10_carryOut 208 = .ok (.goto 39, 3) := by decide +kernel
theorem dX10_carryOut_211 : decode cX10_carryOut 211 = .ok (.aload_n 0, 1) := by decide +kernel
theorem dX10_carryOut_212 : decode cX10_carryOut 212 = .ok (.getfield 12, 3) := by decide +kernel
theorem dX10_carryOut_215 : decode cX10_carryOut 215 = .ok (.iload_n 2, 1) := by decide +kernel
theorem dX10_carryOut_216 : decode cX10_carryOut 216 = .ok (.iload_n 3, 1) := by decide +kernel
theorem dX10_carryOut_217 : decode cX10_carryOut 217 = .ok (.invokevirtual 155, 3) := by decide +kernel
theorem dX10_carryOut_220 : decode cX10_carryOut 220 = .ok (.goto 27, 3) := by decide +kernel
theorem dX10_carryOut_223 : decode cX10_carryOut 223 = .ok (.aload_n 0, 1) := by decide +kernel
theorem dX10_carryOut_224 : decode cX10_carryOut 224 = .ok (.getfield 12, 3) := by decide +kernel
theorem dX10_carryOut_227 : decode cX10_carryOut 227 = .ok (.iload_n 2, 1) := by decide +kernel
theorem dX10_carryOut_228 : decode cX10_carryOut 228 = .ok (.invokevirtual 186, 3) := by decide +kernel
theorem dX10_carryOut_231 : decode cX10_carryOut 231 = .ok (.goto 16, 3) := by decide +kernel
theorem dX10_carryOut_234 : decode cX10_carryOut 234 = .ok (.aload_n 0, 1) := by decide +kernel
theorem dX10_carryOut_235 : decode cX10_carryOut 235 = .ok (.getfield 12, 3) := by decide +kernel
theorem dX10_carryOut_238 : decode cX10_carryOut 238 = .ok (.iload_n 2, 1) := by decide +kernel
theorem dX10_carryOut_239 : decode cX10_carryOut 239 = .ok (.invokevirtual 201, 3) := by decide +kernel
theorem dX10_carryOut_242 : decode cX10_carryOut 242 = .ok (.goto 5, 3) := by decide +kernel
theorem dX10_carryOut_245 : decode cX10_carryOut 245 = .ok (.iconst 0, 1) := by decide +kernel
theorem dX10_carryOut_246 : decode cX10_carryOut 246 = .ok (.ireturn, 1) := by decide +kernel
theorem dX10_carryOut_247 : decode cX10_carryOut 247 = .ok (.iload 4, 2) := by decide +kernel
theorem dX10_carryOut_249 : decode cX10_carryOut 249 = .ok (.ireturn, 1) := by decide +kernel
theorem dX10_mayCarryOut_0 : decode cX10_mayCarryOut 0 = .ok (.aload_n 1, 1) := by decide +kernel
theorem dX10_mayCarryOut_1 : decode cX10_mayCarryOut 1 = .ok (.ifnonnull 5, 3) := by decide +kernel
theorem dX10_mayCarryOut_4 : decode cX10_mayCarryOut 4 = .ok (.iconst 0, 1) := by decide +kernel
theorem dX10_mayCarryOut_5 : decode cX10_mayCarryOut 5 = .ok (.ireturn, 1) := by decide +kernel
theorem dX10_mayCarryOut_6 : decode cX10_mayCarryOut 6 = .ok (.getstatic 388, 3) := by decide +kernel
theorem dX10_mayCarryOut_9 : decode cX10_mayCarryOut 9 = .ok (.aload_n 1, 1) := by decide +kernel
theorem dX10_mayCarryOut_10 : decode cX10_mayCarryOut 10 = .ok (.invokevirtual 394, 3) := by decide +kernel
theorem dX10_mayCarryOut_13 : decode cX10_mayCarryOut 13 = .ok (.iaload, 1) := by decide +kernel
theorem dX10_mayCarryOut_14 : decode cX10_mayCarryOut 14 = .ok (.tableswitch 157 1 9 #[50, 55, 67, 72, 77, 104, 134, 147, 152], 50) := by decide +kernel
theorem dX10_mayCarryOut_64 : decode cX10_mayCarryOut 64 = .ok (.iload_n 2, 1) := by decide +kernel
theorem dX10_mayCarryOut_65 : decode cX10_mayCarryOut 65 = .ok (.invokestatic 37, 3) := by decide +kernel
theorem dX10_mayCarryOut_68 : decode cX10_mayCarryOut 68 = .ok (.ireturn, 1) := by decide +kernel
theorem dX10_mayCarryOut_69 : decode cX10_mayCarryOut 69 = .ok (.aload_n 0, 1) := by decide +kernel
theorem dX10_mayCarryOut_70 : decode cX10_mayCarryOut 70 = .ok (.getfield 12, 3) := by decide +kernel
theorem dX10_mayCarryOut_73 : decode cX10_mayCarryOut 73 = .ok (.getfield 66, 3) := by decide +kernel
theorem dX10_mayCarryOut_76 : decode cX10_mayCarryOut 76 = .ok (.iload_n 2, 1) := by decide +kernel
theorem dX10_mayCarryOut_77 : decode cX10_mayCarryOut 77 = .ok (.invokevirtual 70, 3) := by decide +kernel
theorem dX10_mayCarryOut_80 : decode cX10_mayCarryOut 80 = .ok (.ireturn, 1) := by decide +kernel
theorem dX10_mayCarryOut_81 : decode cX10_mayCarryOut 81 = .ok (.iload_n 2, 1) := by decide +kernel
theorem dX10_mayCarryOut_82 : decode cX10_mayCarryOut 82 = .ok (.invokestatic 78, 3) := by decide +kernel
theorem dX10_mayCarryOut_85 : decode cX10_mayCarryOut 85 = .ok (.ireturn, 1) := by decide +kernel
theorem dX10_mayCarryOut_86 : decode cX10_mayCarryOut 86 = .ok (.iload_n 2, 1) := by decide +kernel
theorem dX10_mayCarryOut_87 : decode cX10_mayCarryOut 87 = .ok (.invokestatic 86, 3) := by decide +kernel
theorem dX10_mayCarryOut_90 : decode cX10_mayCarryOut 90 = .ok (.ireturn, 1) := by decide +kernel
theorem dX10_mayCarryOut_91 : decode cX10_mayCarryOut 91 = .ok (.iload_n 2, 1) := by decide +kernel
theorem dX10_mayCarryOut_92 : decode cX10_mayCarryOut 92 = .ok (.iload_n 3, 1) := by decide +kernel
theorem dX10_mayCarryOut_93 : decode cX10_mayCarryOut 93 = .ok (.invokestatic 94, 3) := by decide +kernel
theorem dX10_mayCarryOut_96 : decode cX10_mayCarryOut 96 = .ok (.ifCond .eq 20, 3) := by decide +kernel
theorem dX10_mayCarryOut_99 : decode cX10_mayCarryOut 99 = .ok (.aload_n 0, 1) := by decide +kernel
theorem dX10_mayCarryOut_100 : decode cX10_mayCarryOut 100 = .ok (.getfield 12, 3) := by decide +kernel
theorem dX10_mayCarryOut_103 : decode cX10_mayCarryOut 103 = .ok (.getfield 66, 3) := by decide +kernel
theorem dX10_mayCarryOut_106 : decode cX10_mayCarryOut 106 = .ok (.invokevirtual 100, 3) := by decide +kernel
theorem dX10_mayCarryOut_109 : decode cX10_mayCarryOut 109 = .ok (.ifCond .eq 7, 3) := by decide +kernel
theorem dX10_mayCarryOut_112 : decode cX10_mayCarryOut 112 = .ok (.iconst 1, 1) := by decide +kernel
theorem dX10_mayCarryOut_113 : decode cX10_mayCarryOut 113 = .ok (.goto 4, 3) := by decide +kernel
theorem dX10_mayCarryOut_116 : decode cX10_mayCarryOut 116 = .ok (.iconst 0, 1) := by decide +kernel
theorem dX10_mayCarryOut_117 : decode cX10_mayCarryOut 117 = .ok (.ireturn, 1) := by decide +kernel
theorem dX10_mayCarryOut_118 : decode cX10_mayCarryOut 118 = .ok (.iload_n 2, 1) := by decide +kernel
theorem dX10_mayCarryOut_119 : decode cX10_mayCarryOut 119 = .ok (.iload_n 3, 1) := by decide +kernel
theorem dX10_mayCarryOut_120 : decode cX10_mayCarryOut 120 = .ok (.aload_n 0, 1) := by decide +kernel
theorem dX10_mayCarryOut_121 : decode cX10_mayCarryOut 121 = .ok (.getfield 33, 3) := by decide +kernel
theorem dX10_mayCarryOut_124 : decode cX10_mayCarryOut 124 = .ok (.iconst 2, 1) := by decide +kernel
theorem dX10_mayCarryOut_125 : decode cX10_mayCarryOut 125 = .ok (.invokevirtual 381, 3) := by decide +kernel
theorem dX10_mayCarryOut_128 : decode cX10_mayCarryOut 128 = .ok (.aload_n 0, 1) := by decide +kernel
theorem dX10_mayCarryOut_129 : decode cX10_mayCarryOut 129 = .ok (.getfield 33, 3) := by decide +kernel
theorem dX10_mayCarryOut_132 : decode cX10_mayCarryOut 132 = .ok (.iconst 3, 1) := by decide +kernel
theorem dX10_mayCarryOut_133 : decode cX10_mayCarryOut 133 = .ok (.invokevirtual 381, 3) := by decide +kernel
theorem dX10_mayCarryOut_136 : decode cX10_mayCarryOut 136 = .ok (.aload_n 0, 1) := by decide +kernel
theorem dX10_mayCarryOut_137 : decode cX10_mayCarryOut 137 = .ok (.getfield 33, 3) := by decide +kernel
theorem dX10_mayCarryOut_140 : decode cX10_mayCarryOut 140 = .ok (.iconst 4, 1) := by decide +kernel
theorem dX10_mayCarryOut_141 : decode cX10_mayCarryOut 141 = .ok (.invokevirtual 381, 3) := by decide +kernel
theorem dX10_mayCarryOut_144 : decode cX10_mayCarryOut 144 = .ok (.invokestatic 127, 3) := by decide +kernel
theorem dX10_mayCarryOut_147 : decode cX10_mayCarryOut 147 = .ok (.ireturn, 1) := by decide +kernel
theorem dX10_mayCarryOut_148 : decode cX10_mayCarryOut 148 = .ok (.aload_n 0, 1) := by decide +kernel
theorem dX10_mayCarryOut_149 : decode cX10_mayCarryOut 149 = .ok (.getfield 12, 3) := by decide +kernel
theorem dX10_mayCarryOut_152 : decode cX10_mayCarryOut 152 = .ok (.getfield 140, 3) := by decide +kernel
theorem dX10_mayCarryOut_155 : decode cX10_mayCarryOut 155 = .ok (.iload_n 2, 1) := by decide +kernel
theorem dX10_mayCarryOut_156 : decode cX10_mayCarryOut 156 = .ok (.iload_n 3, 1) := by decide +kernel
theorem dX10_mayCarryOut_157 : decode cX10_mayCarryOut 157 = .ok (.invokevirtual 144, 3) := by decide +kernel
theorem dX10_mayCarryOut_160 : decode cX10_mayCarryOut 160 = .ok (.ireturn, 1) := by decide +kernel
theorem dX10_mayCarryOut_161 : decode cX10_mayCarryOut 161 = .ok (.iload_n 2, 1) := by decide +kernel
theorem dX10_mayCarryOut_162 : decode cX10_mayCarryOut 162 = .ok (.invokestatic 181, 3) := by decide +kernel
theorem dX10_mayCarryOut_165 : decode cX10_mayCarryOut 165 = .ok (.ireturn, 1) := by decide +kernel
theorem dX10_mayCarryOut_166 : decode cX10_mayCarryOut 166 = .ok (.iload_n 2, 1) := by decide +kernel
theorem dX10_mayCarryOut_167 : decode cX10_mayCarryOut 167 = .ok (.invokestatic 195, 3) := by decide +kernel
theorem dX10_mayCarryOut_170 : decode cX10_mayCarryOut 170 = .ok (.ireturn, 1) := by decide +kernel
theorem dX10_mayCarryOut_171 : decode cX10_mayCarryOut 171 = .ok (.iconst 0, 1) := by decide +kernel
theorem dX10_mayCarryOut_172 : decode cX10_mayCarryOut 172 = .ok (.ireturn, 1) := by decide +kernel
theorem dX11_init_0 : decode cX11_init 0 = .ok (.aload_n 0, 1) := by decide +kernel
theorem dX11_init_1 : decode cX11_init 1 = .ok (.invokespecial 1, 3) := by decide +kernel
theorem dX11_init_4 : decode cX11_init 4 = .ok (.aload_n 0, 1) := by decide +kernel
theorem dX11_init_5 : decode cX11_init 5 = .ok (.sipush 647, 3) := by decide +kernel
theorem dX11_init_8 : decode cX11_init 8 = .ok (.newarray .int, 2) := by decide +kernel
theorem dX11_init_10 : decode cX11_init 10 = .ok (.putfield 7, 3) := by decide +kernel
theorem dX11_init_13 : decode cX11_init 13 = .ok (.aload_n 0, 1) := by decide +kernel
theorem dX11_init_14 : decode cX11_init 14 = .ok (.sipush 647, 3) := by decide +kernel
theorem dX11_init_17 : decode cX11_init 17 = .ok (.newarray .int, 2) := by decide +kernel
theorem dX11_init_19 : decode cX11_init 19 = .ok (.putfield 13, 3) := by decide +kernel
theorem dX11_init_22 : decode cX11_init 22 = .ok (.aload_n 0, 1) := by decide +kernel
theorem dX11_init_23 : decode cX11_init 23 = .ok (.sipush 2588, 3) := by decide +kernel
theorem dX11_init_26 : decode cX11_init 26 = .ok (.newarray .int, 2) := by decide +kernel
theorem dX11_init_28 : decode cX11_init 28 = .ok (.putfield 16, 3) := by decide +kernel
theorem dX11_init_31 : decode cX11_init 31 = .ok (.aload_n 0, 1) := by decide +kernel
theorem dX11_init_32 : decode cX11_init 32 = .ok (.sipush 150, 3) := by decide +kernel
theorem dX11_init_35 : decode cX11_init 35 = .ok (.newarray .byte, 2) := by decide +kernel
theorem dX11_init_37 : decode cX11_init 37 = .ok (.putfield 19, 3) := by decide +kernel
theorem dX11_init_40 : decode cX11_init 40 = .ok (.aload_n 0, 1) := by decide +kernel
theorem dX11_init_41 : decode cX11_init 41 = .ok (.iconst 5, 1) := by decide +kernel
theorem dX11_init_42 : decode cX11_init 42 = .ok (.newarray .int, 2) := by decide +kernel
theorem dX11_init_44 : decode cX11_init 44 = .ok (.putfield 23, 3) := by decide +kernel
theorem dX11_init_47 : decode cX11_init 47 = .ok (.aload_n 0, 1) := by decide +kernel
theorem dX11_init_48 : decode cX11_init 48 = .ok (.getfield 7, 3) := by decide +kernel
theorem dX11_init_51 : decode cX11_init 51 = .ok (.bipush 11, 2) := by decide +kernel
theorem dX11_init_53 : decode cX11_init 53 = .ok (.iconst 1, 1) := by decide +kernel
theorem dX11_init_54 : decode cX11_init 54 = .ok (.iastore, 1) := by decide +kernel
theorem dX11_init_55 : decode cX11_init 55 = .ok (.aload_n 0, 1) := by decide +kernel
theorem dX11_init_56 : decode cX11_init 56 = .ok (.sipush 2000, 3) := by decide +kernel
theorem dX11_init_59 : decode cX11_init 59 = .ok (.invokevirtual 26, 3) := by decide +kernel
theorem dX11_init_62 : decode cX11_init 62 = .ok (.return_, 1) := by decide +kernel
theorem dX11_thrown_0 : decode cX11_thrown 0 = .ok (.aload_n 0, 1) := by decide +kernel
theorem dX11_thrown_1 : decode cX11_thrown 1 = .ok (.getfield 30, 3) := by decide +kernel
theorem dX11_thrown_4 : decode cX11_thrown 4 = .ok (.ireturn, 1) := by decide +kernel
theorem dX11_in_0 : decode cX11_in 0 = .ok (.iload_n 0, 1) := by decide +kernel
theorem dX11_in_1 : decode cX11_in 1 = .ok (.iload_n 1, 1) := by decide +kernel
theorem dX11_in_2 : decode cX11_in 2 = .ok (.if_icmp .lt 12, 3) := by decide +kernel
theorem dX11_in_5 : decode cX11_in 5 = .ok (.iload_n 0, 1) := by decide +kernel
theorem dX11_in_6 : decode cX11_in 6 = .ok (.iload_n 2, 1) := by decide +kernel
theorem dX11_in_7 : decode cX11_in 7 = .ok (.if_icmp .gt 7, 3) := by decide +kernel
theorem dX11_in_10 : decode cX11_in 10 = .ok (.iconst 1, 1) := by decide +kernel
theorem dX11_in_11 : decode cX11_in 11 = .ok (.goto 4, 3) := by decide +kernel
theorem dX11_in_14 : decode cX11_in 14 = .ok (.iconst 0, 1) := by decide +kernel
theorem dX11_in_15 : decode cX11_in 15 = .ok (.ireturn, 1) := by decide +kernel
theorem dX11_greater_0 : decode cX11_greater 0 = .ok (.iload_n 0, 1) := by decide +kernel
theorem dX11_greater_1 : decode cX11_greater 1 = .ok (.iload_n 1, 1) := by decide +kernel
theorem dX11_greater_2 : decode cX11_greater 2 = .ok (.if_icmp .le 7, 3) := by decide +kernel
theorem dX11_greater_5 : decode cX11_greater 5 = .ok (.iload_n 0, 1) := by decide +kernel
theorem dX11_greater_6 : decode cX11_greater 6 = .ok (.goto 4, 3) := by decide +kernel
theorem dX11_greater_9 : decode cX11_greater 9 = .ok (.iload_n 1, 1) := by decide +kernel
theorem dX11_greater_10 : decode cX11_greater 10 = .ok (.ireturn, 1) := by decide +kernel
theorem dX11_apart_0 : decode cX11_apart 0 = .ok (.iload_n 0, 1) := by decide +kernel
theorem dX11_apart_1 : decode cX11_apart 1 = .ok (.iload_n 1, 1) := by decide +kernel
theorem dX11_apart_2 : decode cX11_apart 2 = .ok (.if_icmp .le 9, 3) := by decide +kernel
theorem dX11_apart_5 : decode cX11_apart 5 = .ok (.iload_n 0, 1) := by decide +kernel
theorem dX11_apart_6 : decode cX11_apart 6 = .ok (.iload_n 1, 1) := by decide +kernel
theorem dX11_apart_7 : decode cX11_apart 7 = .ok (.isub, 1) := by decide +kernel
theorem dX11_apart_8 : decode cX11_apart 8 = .ok (.goto 6, 3) := by decide +kernel
theorem dX11_apart_11 : decode cX11_apart 11 = .ok (.iload_n 1, 1) := by decide +kernel
theorem dX11_apart_12 : decode cX11_apart 12 = .ok (.iload_n 0, 1) := by decide +kernel
theorem dX11_apart_13 : decode cX11_apart 13 = .ok (.isub, 1) := by decide +kernel
theorem dX11_apart_14 : decode cX11_apart 14 = .ok (.ireturn, 1) := by decide +kernel
theorem dX11_holds_0 : decode cX11_holds 0 = .ok (.aload_n 0, 1) := by decide +kernel
theorem dX11_holds_1 : decode cX11_holds 1 = .ok (.iload_n 1, 1) := by decide +kernel
theorem dX11_holds_2 : decode cX11_holds 2 = .ok (.ifCond .eq 7, 3) := by decide +kernel
theorem dX11_holds_5 : decode cX11_holds 5 = .ok (.iconst 0, 1) := by decide +kernel
theorem dX11_holds_6 : decode cX11_holds 6 = .ok (.goto 4, 3) := by decide +kernel
theorem dX11_holds_9 : decode cX11_holds 9 = .ok (.iload_n 2, 1) := by decide +kernel
theorem dX11_holds_10 : decode cX11_holds 10 = .ok (.putfield 30, 3) := by decide +kernel
theorem dX11_holds_13 : decode cX11_holds 13 = .ok (.iload_n 1, 1) := by decide +kernel
theorem dX11_holds_14 : decode cX11_holds 14 = .ok (.ireturn, 1) := by decide +kernel
theorem dX11_save_0 : decode cX11_save 0 = .ok (.aload_n 0, 1) := by decide +kernel
theorem dX11_save_1 : decode cX11_save 1 = .ok (.getfield 34, 3) := by decide +kernel
theorem dX11_save_4 : decode cX11_save 4 = .ok (.iconst 4, 1) := by decide +kernel
theorem dX11_save_5 : decode cX11_save 5 = .ok (.if_icmp .ne 44, 3) := by decide +kernel
theorem dX11_save_8 : decode cX11_save 8 = .ok (.iconst 0, 1) := by decide +kernel
theorem dX11_save_9 : decode cX11_save 9 = .ok (.istore_n 1, 1) := by decide +kernel
theorem dX11_save_10 : decode cX11_save 10 = .ok (.iload_n 1, 1) := by decide +kernel
theorem dX11_save_11 : decode cX11_save 11 = .ok (.sipush 1941, 3) := by decide +kernel
theorem dX11_save_14 : decode cX11_save 14 = .ok (.if_icmp .ge 25, 3) := by decide +kernel
theorem dX11_save_17 : decode cX11_save 17 = .ok (.aload_n 0, 1) := by decide +kernel
theorem dX11_save_18 : decode cX11_save 18 = .ok (.getfield 16, 3) := by decide +kernel
theorem dX11_save_21 : decode cX11_save 21 = .ok (.iload_n 1, 1) := by decide +kernel
theorem dX11_save_22 : decode cX11_save 22 = .ok (.aload_n 0, 1) := by decide +kernel
theorem dX11_save_23 : decode cX11_save 23 = .ok (.getfield 16, 3) := by decide +kernel
theorem dX11_save_26 : decode cX11_save 26 = .ok (.iload_n 1, 1) := by decide +kernel
theorem dX11_save_27 : decode cX11_save 27 = .ok (.sipush 647, 3) := by decide +kernel
theorem dX11_save_30 : decode cX11_save 30 = .ok (.iadd, 1) := by decide +kernel
theorem dX11_save_31 : decode cX11_save 31 = .ok (.iaload, 1) := by decide +kernel
theorem dX11_save_32 : decode cX11_save 32 = .ok (.iastore, 1) := by decide +kernel
theorem dX11_save_33 : decode cX11_save 33 = .ok (.iinc 1 1, 3) := by decide +kernel
theorem dX11_save_36 : decode cX11_save 36 = .ok (.goto (-26), 3) := by decide +kernel
theorem dX11_save_39 : decode cX11_save 39 = .ok (.aload_n 0, 1) := by decide +kernel
theorem dX11_save_40 : decode cX11_save 40 = .ok (.dup, 1) := by decide +kernel
theorem dX11_save_41 : decode cX11_save 41 = .ok (.getfield 34, 3) := by decide +kernel
theorem dX11_save_44 : decode cX11_save 44 = .ok (.iconst 1, 1) := by decide +kernel
theorem dX11_save_45 : decode cX11_save 45 = .ok (.isub, 1) := by decide +kernel
theorem dX11_save_46 : decode cX11_save 46 = .ok (.putfield 34, 3) := by decide +kernel
theorem dX11_save_49 : decode cX11_save 49 = .ok (.iconst 0, 1) := by decide +kernel
theorem dX11_save_50 : decode cX11_save 50 = .ok (.istore_n 1, 1) := by decide +kernel
theorem dX11_save_51 : decode cX11_save 51 = .ok (.iload_n 1, 1) := by decide +kernel
theorem dX11_save_52 : decode cX11_save 52 = .ok (.sipush 647, 3) := by decide +kernel
theorem dX11_save_55 : decode cX11_save 55 = .ok (.if_icmp .ge 30, 3) := by decide +kernel
theorem dX11_save_58 : decode cX11_save 58 = .ok (.aload_n 0, 1) := by decide +kernel
theorem dX11_save_59 : decode cX11_save 59 = .ok (.getfield 16, 3) := by decide +kernel
theorem dX11_save_62 : decode cX11_save 62 = .ok (.sipush 647, 3) := by decide +kernel
theorem dX11_save_65 : decode cX11_save 65 = .ok (.aload_n 0, 1) := by decide +kernel
theorem dX11_save_66 : decode cX11_save 66 = .ok (.getfield 34, 3) := by decide +kernel
theorem dX11_save_69 : decode cX11_save 69 = .ok (.imul, 1) := by decide +kernel
theorem dX11_save_70 : decode cX11_save 70 = .ok (.iload_n 1, 1) := by decide +kernel
theorem dX11_save_71 : decode cX11_save 71 = .ok (.iadd, 1) := by decide +kernel
theorem dX11_save_72 : decode cX11_save 72 = .ok (.aload_n 0, 1) := by decide +kernel
theorem dX11_save_73 : decode cX11_save 73 = .ok (.getfield 7, 3) := by decide +kernel
theorem dX11_save_76 : decode cX11_save 76 = .ok (.iload_n 1, 1) := by decide +kernel
theorem dX11_save_77 : decode cX11_save 77 = .ok (.iaload, 1) := by decide +kernel
theorem dX11_save_78 : decode cX11_save 78 = .ok (.iastore, 1) := by decide +kernel
theorem dX11_save_79 : decode cX11_save 79 = .ok (.iinc 1 1, 3) := by decide +kernel
theorem dX11_save_82 : decode cX11_save 82 = .ok (.goto (-31), 3) := by decide +kernel
theorem dX11_save_85 : decode cX11_save 85 = .ok (.aload_n 0, 1) := by decide +kernel
theorem dX11_save_86 : decode cX11_save 86 = .ok (.dup, 1) := by decide +kernel
theorem dX11_save_87 : decode cX11_save 87 = .ok (.getfield 34, 3) := by decide +kernel
theorem dX11_save_90 : decode cX11_save 90 = .ok (.iconst 1, 1) := by decide +kernel
theorem dX11_save_91 : decode cX11_save 91 = .ok (.iadd, 1) := by decide +kernel
theorem dX11_save_92 : decode cX11_save 92 = .ok (.putfield 34, 3) := by decide +kernel
theorem dX11_save_95 : decode cX11_save 95 = .ok (.return_, 1) := by decide +kernel
theorem dX11_undo_0 : decode cX11_undo 0 = .ok (.aload_n 0, 1) := by decide +kernel
theorem dX11_undo_1 : decode cX11_undo 1 = .ok (.aload_n 0, 1) := by decide +kernel
theorem dX11_undo_2 : decode cX11_undo 2 = .ok (.getfield 34, 3) := by decide +kernel
theorem dX11_undo_5 : decode cX11_undo 5 = .ok (.ifCond .le 7, 3) := by decide +kernel
theorem dX11_undo_8 : decode cX11_undo 8 = .ok (.iconst 1, 1) := by decide +kernel
theorem dX11_undo_9 : decode cX11_undo 9 = .ok (.goto 4, 3) := by decide +kernel
theorem dX11_undo_12 : decode cX11_undo 12 = .ok (.iconst 0, 1) := by decide +kernel
theorem dX11_undo_13 : decode cX11_undo 13 = .ok (.iconst 1, 1) := by decide +kernel
theorem dX11_undo_14 : decode cX11_undo 14 = .ok (.invokevirtual 37, 3) := by decide +kernel
theorem dX11_undo_17 : decode cX11_undo 17 = .ok (.ifCond .ne 5, 3) := by decide +kernel
theorem dX11_undo_20 : decode cX11_undo 20 = .ok (.iconst 0, 1) := by decide +kernel
theorem dX11_undo_21 : decode cX11_undo 21 = .ok (.ireturn, 1) := by decide +kernel
theorem dX11_undo_22 : decode cX11_undo 22 = .ok (.aload_n 0, 1) := by decide +kernel
theorem dX11_undo_23 : decode cX11_undo 23 = .ok (.dup, 1) := by decide +kernel
theorem dX11_undo_24 : decode cX11_undo 24 = .ok (.getfield 34, 3) := by decide +kernel
theorem dX11_undo_27 : decode cX11_undo 27 = .ok (.iconst 1, 1) := by decide +kernel
theorem dX11_undo_28 : decode cX11_undo 28 = .ok (.isub, 1) := by decide +kernel
theorem dX11_undo_29 : decode cX11_undo 29 = .ok (.putfield 34, 3) := by decide +kernel
theorem dX11_undo_32 : decode cX11_undo 32 = .ok (.iconst 0, 1) := by decide +kernel
theorem dX11_undo_33 : decode cX11_undo 33 = .ok (.istore_n 1, 1) := by decide +kernel
theorem dX11_undo_34 : decode cX11_undo 34 = .ok (.iload_n 1, 1) := by decide +kernel
theorem dX11_undo_35 : decode cX11_undo 35 = .ok (.sipush 647, 3) := by decide +kernel
theorem dX11_undo_38 : decode cX11_undo 38 = .ok (.if_icmp .ge 30, 3) := by decide +kernel
theorem dX11_undo_41 : decode cX11_undo 41 = .ok (.aload_n 0, 1) := by decide +kernel
theorem dX11_undo_42 : decode cX11_undo 42 = .ok (.getfield 7, 3) := by decide +kernel
theorem dX11_undo_45 : decode cX11_undo 45 = .ok (.iload_n 1, 1) := by decide +kernel
theorem dX11_undo_46 : decode cX11_undo 46 = .ok (.aload_n 0, 1) := by decide +kernel
theorem dX11_undo_47 : decode cX11_undo 47 = .ok (.getfield 16, 3) := by decide +kernel
theorem dX11_undo_50 : decode cX11_undo 50 = .ok (.sipush 647, 3) := by decide +kernel
theorem dX11_undo_53 : decode cX11_undo 53 = .ok (.aload_n 0, 1) := by decide +kernel
theorem dX11_undo_54 : decode cX11_undo 54 = .ok (.getfield 34, 3) := by decide +kernel
theorem dX11_undo_57 : decode cX11_undo 57 = .ok (.imul, 1) := by decide +kernel
theorem dX11_undo_58 : decode cX11_undo 58 = .ok (.iload_n 1, 1) := by decide +kernel
theorem dX11_undo_59 : decode cX11_undo 59 = .ok (.iadd, 1) := by decide +kernel
theorem dX11_undo_60 : decode cX11_undo 60 = .ok (.iaload, 1) := by decide +kernel
theorem dX11_undo_61 : decode cX11_undo 61 = .ok (.iastore, 1) := by decide +kernel
theorem dX11_undo_62 : decode cX11_undo 62 = .ok (.iinc 1 1, 3) := by decide +kernel
theorem dX11_undo_65 : decode cX11_undo 65 = .ok (.goto (-31), 3) := by decide +kernel
theorem dX11_undo_68 : decode cX11_undo 68 = .ok (.aload_n 0, 1) := by decide +kernel
theorem dX11_undo_69 : decode cX11_undo 69 = .ok (.getfield 34, 3) := by decide +kernel
theorem dX11_undo_72 : decode cX11_undo 72 = .ok (.ireturn, 1) := by decide +kernel
theorem dX11_putAside_0 : decode cX11_putAside 0 = .ok (.iconst 0, 1) := by decide +kernel
theorem dX11_putAside_1 : decode cX11_putAside 1 = .ok (.istore_n 1, 1) := by decide +kernel
theorem dX11_putAside_2 : decode cX11_putAside 2 = .ok (.iload_n 1, 1) := by decide +kernel
theorem dX11_putAside_3 : decode cX11_putAside 3 = .ok (.sipush 647, 3) := by decide +kernel
theorem dX11_putAside_6 : decode cX11_putAside 6 = .ok (.if_icmp .ge 21, 3) := by decide +kernel
theorem dX11_putAside_9 : decode cX11_putAside 9 = .ok (.aload_n 0, 1) := by decide +kernel
theorem dX11_putAside_10 : decode cX11_putAside 10 = .ok (.getfield 13, 3) := by decide +kernel
theorem dX11_putAside_13 : decode cX11_putAside 13 = .ok (.iload_n 1, 1) := by decide +kernel
theorem dX11_putAside_14 : decode cX11_putAside 14 = .ok (.aload_n 0, 1) := by decide +kernel
theorem dX11_putAside_15 : decode cX11_putAside 15 = .ok (.getfield 7, 3) := by decide +kernel
theorem dX11_putAside_18 : decode cX11_putAside 18 = .ok (.iload_n 1, 1) := by decide +kernel
theorem dX11_putAside_19 : decode cX11_putAside 19 = .ok (.iaload, 1) := by decide +kernel
theorem dX11_putAside_20 : decode cX11_putAside 20 = .ok (.iastore, 1) := by decide +kernel
theorem dX11_putAside_21 : decode cX11_putAside 21 = .ok (.iinc 1 1, 3) := by decide +kernel
theorem dX11_putAside_24 : decode cX11_putAside 24 = .ok (.goto (-22), 3) := by decide +kernel
theorem dX11_putAside_27 : decode cX11_putAside 27 = .ok (.return_, 1) := by decide +kernel
theorem dX11_putBack_0 : decode cX11_putBack 0 = .ok (.iconst 0, 1) := by decide +kernel
theorem dX11_putBack_1 : decode cX11_putBack 1 = .ok (.istore_n 1, 1) := by decide +kernel
theorem dX11_putBack_2 : decode cX11_putBack 2 = .ok (.iload_n 1, 1) := by decide +kernel
theorem dX11_putBack_3 : decode cX11_putBack 3 = .ok (.sipush 647, 3) := by decide +kernel
theorem dX11_putBack_6 : decode cX11_putBack 6 = .ok (.if_icmp .ge 21, 3) := by decide +kernel
theorem dX11_putBack_9 : decode cX11_putBack 9 = .ok (.aload_n 0, 1) := by decide +kernel
theorem dX11_putBack_10 : decode cX11_putBack 10 = .ok (.getfield 7, 3) := by decide +kernel
theorem dX11_putBack_13 : decode cX11_putBack 13 = .ok (.iload_n 1, 1) := by decide +kernel
theorem dX11_putBack_14 : decode cX11_putBack 14 = .ok (.aload_n 0, 1) := by decide +kernel
theorem dX11_putBack_15 : decode cX11_putBack 15 = .ok (.getfield 13, 3) := by decide +kernel
theorem dX11_putBack_18 : decode cX11_putBack 18 = .ok (.iload_n 1, 1) := by decide +kernel
theorem dX11_putBack_19 : decode cX11_putBack 19 = .ok (.iaload, 1) := by decide +kernel
theorem dX11_putBack_20 : decode cX11_putBack 20 = .ok (.iastore, 1) := by decide +kernel
theorem dX11_putBack_21 : decode cX11_putBack 21 = .ok (.iinc 1 1, 3) := by decide +kernel
theorem dX11_putBack_24 : decode cX11_putBack 24 = .ok (.goto (-22), 3) := by decide +kernel
theorem dX11_putBack_27 : decode cX11_putBack 27 = .ok (.return_, 1) := by decide +kernel
theorem dX11_begins_0 : decode cX11_begins 0 = .ok (.aload_n 0, 1) := by decide +kernel
theorem dX11_begins_1 : decode cX11_begins 1 = .ok (.getfield 7, 3) := by decide +kernel
theorem dX11_begins_4 : decode cX11_begins 4 = .ok (.bipush 11, 2) := by decide +kernel
theorem dX11_begins_6 : decode cX11_begins 6 = .ok (.iaload, 1) := by decide +kernel
theorem dX11_begins_7 : decode cX11_begins 7 = .ok (.istore_n 2, 1) := by decide +kernel
theorem dX11_begins_8 : decode cX11_begins 8 = .ok (.iconst 0, 1) := by decide +kernel
theorem dX11_begins_9 : decode cX11_begins 9 = .ok (.istore_n 3, 1) := by decide +kernel
theorem dX11_begins_10 : decode cX11_begins 10 = .ok (.iload_n 3, 1) := by decide +kernel
theorem dX11_begins_11 : decode cX11_begins 11 = .ok (.sipush 647, 3) := by decide +kernel
theorem dX11_begins_14 : decode cX11_begins 14 = .ok (.if_icmp .ge 16, 3) := by decide +kernel
theorem dX11_begins_17 : decode cX11_begins 17 = .ok (.aload_n 0, 1) := by decide +kernel
theorem dX11_begins_18 : decode cX11_begins 18 = .ok (.getfield 7, 3) := by decide +kernel
theorem dX11_begins_21 : decode cX11_begins 21 = .ok (.iload_n 3, 1) := by decide +kernel
theorem dX11_begins_22 : decode cX11_begins 22 = .ok (.iconst 0, 1) := by decide +kernel
theorem dX11_begins_23 : decode cX11_begins 23 = .ok (.iastore, 1) := by decide +kernel
theorem dX11_begins_24 : decode cX11_begins 24 = .ok (.iinc 3 1, 3) := by decide +kernel
theorem dX11_begins_27 : decode cX11_begins 27 = .ok (.goto (-17), 3) := by decide +kernel
theorem dX11_begins_30 : decode cX11_begins 30 = .ok (.aload_n 0, 1) := by decide +kernel
theorem dX11_begins_31 : decode cX11_begins 31 = .ok (.getfield 7, 3) := by decide +kernel
theorem dX11_begins_34 : decode cX11_begins 34 = .ok (.bipush 11, 2) := by decide +kernel
theorem dX11_begins_36 : decode cX11_begins 36 = .ok (.iload_n 2, 1) := by decide +kernel
theorem dX11_begins_37 : decode cX11_begins 37 = .ok (.iastore, 1) := by decide +kernel
theorem dX11_begins_38 : decode cX11_begins 38 = .ok (.aload_n 0, 1) := by decide +kernel
theorem dX11_begins_39 : decode cX11_begins 39 = .ok (.getfield 7, 3) := by decide +kernel
theorem dX11_begins_42 : decode cX11_begins 42 = .ok (.iconst 0, 1) := by decide +kernel
theorem dX11_begins_43 : decode cX11_begins 43 = .ok (.iload_n 1, 1) := by decide +kernel
theorem dX11_begins_44 : decode cX11_begins 44 = .ok (.iastore, 1) := by decide +kernel
theorem dX11_begins_45 : decode cX11_begins 45 = .ok (.aload_n 0, 1) := by decide +kernel
theorem dX11_begins_46 : decode cX11_begins 46 = .ok (.getfield 7, 3) := by decide +kernel
theorem dX11_begins_49 : decode cX11_begins 49 = .ok (.iconst 1, 1) := by decide +kernel
theorem dX11_begins_50 : decode cX11_begins 50 = .ok (.sipush 500, 3) := by decide +kernel
theorem dX11_begins_53 : decode cX11_begins 53 = .ok (.iastore, 1) := by decide +kernel
theorem dX11_begins_54 : decode cX11_begins 54 = .ok (.aload_n 0, 1) := by decide +kernel
theorem dX11_begins_55 : decode cX11_begins 55 = .ok (.getfield 7, 3) := by decide +kernel
theorem dX11_begins_58 : decode cX11_begins 58 = .ok (.bipush 6, 2) := by decide +kernel
theorem dX11_begins_60 : decode cX11_begins 60 = .ok (.sipush 300, 3) := by decide +kernel
theorem dX11_begins_63 : decode cX11_begins 63 = .ok (.iastore, 1) := by decide +kernel
theorem dX11_begins_64 : decode cX11_begins 64 = .ok (.aload_n 0, 1) := by decide +kernel
theorem dX11_begins_65 : decode cX11_begins 65 = .ok (.getfield 7, 3) := by decide +kernel
theorem dX11_begins_68 : decode cX11_begins 68 = .ok (.bipush 7, 2) := by decide +kernel
theorem dX11_begins_70 : decode cX11_begins 70 = .ok (.sipush 600, 3) := by decide +kernel
theorem dX11_begins_73 : decode cX11_begins 73 = .ok (.iastore, 1) := by decide +kernel
theorem dX11_begins_74 : decode cX11_begins 74 = .ok (.aload_n 0, 1) := by decide +kernel
theorem dX11_begins_75 : decode cX11_begins 75 = .ok (.getfield 7, 3) := by decide +kernel
theorem dX11_begins_78 : decode cX11_begins 78 = .ok (.bipush 9, 2) := by decide +kernel
theorem dX11_begins_80 : decode cX11_begins 80 = .ok (.bipush 47, 2) := by decide +kernel
theorem dX11_begins_82 : decode cX11_begins 82 = .ok (.iastore, 1) := by decide +kernel
theorem dX11_begins_83 : decode cX11_begins 83 = .ok (.aload_n 0, 1) := by decide +kernel
theorem dX11_begins_84 : decode cX11_begins 84 = .ok (.getfield 7, 3) := by decide +kernel
theorem dX11_begins_87 : decode cX11_begins 87 = .ok (.bipush 10, 2) := by decide +kernel
theorem dX11_begins_89 : decode cX11_begins 89 = .ok (.bipush 20, 2) := by decide +kernel
theorem dX11_begins_91 : decode cX11_begins 91 = .ok (.iastore, 1) := by decide +kernel
theorem dX11_begins_92 : decode cX11_begins 92 = .ok (.aload_n 0, 1) := by decide +kernel
theorem dX11_begins_93 : decode cX11_begins 93 = .ok (.getfield 7, 3) := by decide +kernel
theorem dX11_begins_96 : decode cX11_begins 96 = .ok (.bipush 14, 2) := by decide +kernel
theorem dX11_begins_98 : decode cX11_begins 98 = .ok (.bipush 20, 2) := by decide +kernel
theorem dX11_begins_100 : decode cX11_begins 100 = .ok (.iastore, 1) := by decide +kernel
theorem dX11_begins_101 : decode cX11_begins 101 = .ok (.aload_n 0, 1) := by decide +kernel
theorem dX11_begins_102 : decode cX11_begins 102 = .ok (.getfield 7, 3) := by decide +kernel
theorem dX11_begins_105 : decode cX11_begins 105 = .ok (.bipush 15, 2) := by decide +kernel
theorem dX11_begins_107 : decode cX11_begins 107 = .ok (.iconst 2, 1) := by decide +kernel
theorem dX11_begins_108 : decode cX11_begins 108 = .ok (.iastore, 1) := by decide +kernel
theorem dX11_begins_109 : decode cX11_begins 109 = .ok (.aload_n 0, 1) := by decide +kernel
theorem dX11_begins_110 : decode cX11_begins 110 = .ok (.getfield 7, 3) := by decide +kernel
theorem dX11_begins_113 : decode cX11_begins 113 = .ok (.bipush 18, 2) := by decide +kernel
theorem dX11_begins_115 : decode cX11_begins 115 = .ok (.iconst 5, 1) := by decide +kernel
theorem dX11_begins_116 : decode cX11_begins 116 = .ok (.iastore, 1) := by decide +kernel
theorem dX11_begins_117 : decode cX11_begins 117 = .ok (.aload_n 0, 1) := by decide +kernel
theorem dX11_begins_118 : decode cX11_begins 118 = .ok (.getfield 7, 3) := by decide +kernel
theorem dX11_begins_121 : decode cX11_begins 121 = .ok (.bipush 19, 2) := by decide +kernel
theorem dX11_begins_123 : decode cX11_begins 123 = .ok (.iconst 4, 1) := by decide +kernel
theorem dX11_begins_124 : decode cX11_begins 124 = .ok (.iastore, 1) := by decide +kernel
theorem dX11_begins_125 : decode cX11_begins 125 = .ok (.aload_n 0, 1) := by decide +kernel
theorem dX11_begins_126 : decode cX11_begins 126 = .ok (.getfield 7, 3) := by decide +kernel
theorem dX11_begins_129 : decode cX11_begins 129 = .ok (.bipush 20, 2) := by decide +kernel
theorem dX11_begins_131 : decode cX11_begins 131 = .ok (.bipush 10, 2) := by decide +kernel
theorem dX11_begins_133 : decode cX11_begins 133 = .ok (.iastore, 1) := by decide +kernel
theorem dX11_begins_134 : decode cX11_begins 134 = .ok (.aload_n 0, 1) := by decide +kernel
theorem dX11_begins_135 : decode cX11_begins 135 = .ok (.getfield 7, 3) := by decide +kernel
theorem dX11_begins_138 : decode cX11_begins 138 = .ok (.bipush 21, 2) := by decide +kernel
theorem dX11_begins_140 : decode cX11_begins 140 = .ok (.sipush 200, 3) := by decide +kernel
theorem dX11_begins_143 : decode cX11_begins 143 = .ok (.iastore, 1) := by decide +kernel
theorem dX11_begins_144 : decode cX11_begins 144 = .ok (.aload_n 0, 1) := by decide +kernel
theorem dX11_begins_145 : decode cX11_begins 145 = .ok (.getfield 7, 3) := by decide +kernel
theorem dX11_begins_148 : decode cX11_begins 148 = .ok (.bipush 22, 2) := by decide +kernel
theorem dX11_begins_150 : decode cX11_begins 150 = .ok (.sipush 1800, 3) := by decide +kernel
theorem dX11_begins_153 : decode cX11_begins 153 = .ok (.iastore, 1) := by decide +kernel
theorem dX11_begins_154 : decode cX11_begins 154 = .ok (.aload_n 0, 1) := by decide +kernel
theorem dX11_begins_155 : decode cX11_begins 155 = .ok (.getfield 7, 3) := by decide +kernel
theorem dX11_begins_158 : decode cX11_begins 158 = .ok (.bipush 23, 2) := by decide +kernel
theorem dX11_begins_160 : decode cX11_begins 160 = .ok (.bipush 20, 2) := by decide +kernel
theorem dX11_begins_162 : decode cX11_begins 162 = .ok (.iastore, 1) := by decide +kernel
theorem dX11_begins_163 : decode cX11_begins 163 = .ok (.aload_n 0, 1) := by decide +kernel
theorem dX11_begins_164 : decode cX11_begins 164 = .ok (.getfield 7, 3) := by decide +kernel
theorem dX11_begins_167 : decode cX11_begins 167 = .ok (.bipush 26, 2) := by decide +kernel
theorem dX11_begins_169 : decode cX11_begins 169 = .ok (.iconst (-1), 1) := by decide +kernel
theorem dX11_begins_170 : decode cX11_begins 170 = .ok (.iastore, 1) := by decide +kernel
theorem dX11_begins_171 : decode cX11_begins 171 = .ok (.return_, 1) := by decide +kernel
theorem dX11_draw_0 : decode cX11_draw 0 = .ok (.aload_n 0, 1) := by decide +kernel
theorem dX11_draw_1 : decode cX11_draw 1 = .ok (.getfield 7, 3) := by decide +kernel
theorem dX11_draw_4 : decode cX11_draw 4 = .ok (.bipush 11, 2) := by decide +kernel
theorem dX11_draw_6 : decode cX11_draw 6 = .ok (.ldc2_w 41, 3) := by decide +kernel
theorem dX11_draw_9 : decode cX11_draw 9 = .ok (.aload_n 0, 1) := by decide +kernel
theorem dX11_draw_10 : decode cX11_draw 10 = .ok (.getfield 7, 3) := by decide +kernel
theorem dX11_draw_13 : decode cX11_draw 13 = .ok (.bipush 11, 2) := by decide +kernel
theorem dX11_draw_15 : decode cX11_draw 15 = .ok (.iaload, 1) := by decide +kernel
theorem dX11_draw_16 : decode cX11_draw 16 = .ok (.i2l, 1) := by decide +kernel
theorem dX11_draw_17 : decode cX11_draw 17 = .ok (.lmul, 1) := by decide +kernel
theorem dX11_draw_18 : decode cX11_draw 18 = .ok (.ldc2_w 43, 3) := by decide +kernel
theorem dX11_draw_21 : decode cX11_draw 21 = .ok (.ladd, 1) := by decide +kernel
theorem dX11_draw_22 : decode cX11_draw 22 = .ok (.ldc2_w 45, 3) := by decide +kernel
theorem dX11_draw_25 : decode cX11_draw 25 = .ok (.lrem, 1) := by decide +kernel
theorem dX11_draw_26 : decode cX11_draw 26 = .ok (.l2i, 1) := by decide +kernel
theorem dX11_draw_27 : decode cX11_draw 27 = .ok (.iastore, 1) := by decide +kernel
theorem dX11_draw_28 : decode cX11_draw 28 = .ok (.aload_n 0, 1) := by decide +kernel
theorem dX11_draw_29 : decode cX11_draw 29 = .ok (.getfield 7, 3) := by decide +kernel
theorem dX11_draw_32 : decode cX11_draw 32 = .ok (.bipush 11, 2) := by decide +kernel
theorem dX11_draw_34 : decode cX11_draw 34 = .ok (.iaload, 1) := by decide +kernel
theorem dX11_draw_35 : decode cX11_draw 35 = .ok (.ldc 47, 2) := by decide +kernel
theorem dX11_draw_37 : decode cX11_draw 37 = .ok (.idiv, 1) := by decide +kernel
theorem dX11_draw_38 : decode cX11_draw 38 = .ok (.iload_n 1, 1) := by decide +kernel
theorem dX11_draw_39 : decode cX11_draw 39 = .ok (.irem, 1) := by decide +kernel
theorem dX11_draw_40 : decode cX11_draw 40 = .ok (.ireturn, 1) := by decide +kernel
theorem dX11_surface_0 : decode cX11_surface 0 = .ok (.aload_n 0, 1) := by decide +kernel
theorem dX11_surface_1 : decode cX11_surface 1 = .ok (.getfield 7, 3) := by decide +kernel
theorem dX11_surface_4 : decode cX11_surface 4 = .ok (.iconst 0, 1) := by decide +kernel
theorem dX11_surface_5 : decode cX11_surface 5 = .ok (.iaload, 1) := by decide +kernel
theorem dX11_surface_6 : decode cX11_surface 6 = .ok (.aload_n 0, 1) := by decide +kernel
theorem dX11_surface_7 : decode cX11_surface 7 = .ok (.getfield 7, 3) := by decide +kernel
theorem dX11_surface_10 : decode cX11_surface 10 = .ok (.iconst 1, 1) := by decide +kernel
theorem dX11_surface_11 : decode cX11_surface 11 = .ok (.iaload, 1) := by decide +kernel
theorem dX11_surface_12 : decode cX11_surface 12 = .ok (.isub, 1) := by decide +kernel
theorem dX11_surface_13 : decode cX11_surface 13 = .ok (.ireturn, 1) := by decide +kernel
theorem dX11_angleOf_0 : decode cX11_angleOf 0 = .ok (.aload_n 0, 1) := by decide +kernel
theorem dX11_angleOf_1 : decode cX11_angleOf 1 = .ok (.getfield 7, 3) := by decide +kernel
theorem dX11_angleOf_4 : decode cX11_angleOf 4 = .ok (.bipush 8, 2) := by decide +kernel
theorem dX11_angleOf_6 : decode cX11_angleOf 6 = .ok (.iaload, 1) := by decide +kernel
theorem dX11_angleOf_7 : decode cX11_angleOf 7 = .ok (.sipush 360, 3) := by decide +kernel
theorem dX11_angleOf_10 : decode cX11_angleOf 10 = .ok (.iload_n 1, 1) := by decide +kernel
theorem dX11_angleOf_11 : decode cX11_angleOf 11 = .ok (.imul, 1) := by decide +kernel
theorem dX11_angleOf_12 : decode cX11_angleOf 12 = .ok (.aload_n 0, 1) := by decide +kernel
theorem dX11_angleOf_13 : decode cX11_angleOf 13 = .ok (.getfield 7, 3) := by decide +kernel
theorem dX11_angleOf_16 : decode cX11_angleOf 16 = .ok (.iconst 5, 1) := by decide +kernel
theorem dX11_angleOf_17 : decode cX11_angleOf 17 = .ok (.iaload, 1) := by decide +kernel
theorem dX11_angleOf_18 : decode cX11_angleOf 18 = .ok (.idiv, 1) := by decide +kernel
theorem dX11_angleOf_19 : decode cX11_angleOf 19 = .ok (.iadd, 1) := by decide +kernel
theorem dX11_angleOf_20 : decode cX11_angleOf 20 = .ok (.sipush 360, 3) := by decide +kernel
theorem dX11_angleOf_23 : decode cX11_angleOf 23 = .ok (.irem, 1) := by decide +kernel
theorem dX11_angleOf_24 : decode cX11_angleOf 24 = .ok (.ireturn, 1) := by decide +kernel
theorem dX11_makes_0 : decode cX11_makes 0 = .ok (.bipush 42, 2) := by decide +kernel
theorem dX11_makes_2 : decode cX11_makes 2 = .ok (.iconst 4, 1) := by decide +kernel
theorem dX11_makes_3 : decode cX11_makes 3 = .ok (.aload_n 0, 1) := by decide +kernel
theorem dX11_makes_4 : decode cX11_makes 4 = .ok (.getfield 7, 3) := by decide +kernel
theorem dX11_makes_7 : decode cX11_makes 7 = .ok (.bipush 41, 2) := by decide +kernel
theorem dX11_makes_9 : decode cX11_makes 9 = .ok (.iaload, 1) := by decide +kernel
theorem dX11_makes_10 : decode cX11_makes 10 = .ok (.imul, 1) := by decide +kernel
theorem dX11_makes_11 : decode cX11_makes 11 = .ok (.iadd, 1) := by decide +kernel
theorem dX11_makes_12 : decode cX11_makes 12 = .ok (.istore 4, 2) := by decide +kernel
theorem dX11_makes_14 : decode cX11_makes 14 = .ok (.aload_n 0, 1) := by decide +kernel
theorem dX11_makes_15 : decode cX11_makes 15 = .ok (.getfield 7, 3) := by decide +kernel
theorem dX11_makes_18 : decode cX11_makes 18 = .ok (.iload 4, 2) := by decide +kernel
theorem dX11_makes_20 : decode cX11_makes 20 = .ok (.iload_n 1, 1) := by decide +kernel
theorem dX11_makes_21 : decode cX11_makes 21 = .ok (.iastore, 1) := by decide +kernel
theorem dX11_makes_22 : decode cX11_makes 22 = .ok (.aload_n 0, 1) := by decide +kernel
theorem dX11_makes_23 : decode cX11_makes 23 = .ok (.getfield 7, 3) := by decide +kernel
theorem dX11_makes_26 : decode cX11_makes 26 = .ok (.iload 4, 2) := by decide +kernel
theorem dX11_makes_28 : decode cX11_makes 28 = .ok (.iconst 1, 1) := by decide +kernel
theorem dX11_makes_29 : decode cX11_makes 29 = .ok (.iadd, 1) := by decide +kernel
theorem dX11_makes_30 : decode cX11_makes 30 = .ok (.iload_n 2, 1) := by decide +kernel
theorem dX11_makes_31 : decode cX11_makes 31 = .ok (.iastore, 1) := by decide +kernel
theorem dX11_makes_32 : decode cX11_makes 32 = .ok (.aload_n 0, 1) := by decide +kernel
theorem dX11_makes_33 : decode cX11_makes 33 = .ok (.getfield 7, 3) := by decide +kernel
theorem dX11_makes_36 : decode cX11_makes 36 = .ok (.iload 4, 2) := by decide +kernel
theorem dX11_makes_38 : decode cX11_makes 38 = .ok (.iconst 2, 1) := by decide +kernel
theorem dX11_makes_39 : decode cX11_makes 39 = .ok (.iadd, 1) := by decide +kernel
theorem dX11_makes_40 : decode cX11_makes 40 = .ok (.iload_n 3, 1) := by decide +kernel
theorem dX11_makes_41 : decode cX11_makes 41 = .ok (.iastore, 1) := by decide +kernel
theorem dX11_makes_42 : decode cX11_makes 42 = .ok (.aload_n 0, 1) := by decide +kernel
theorem dX11_makes_43 : decode cX11_makes 43 = .ok (.getfield 7, 3) := by decide +kernel
theorem dX11_makes_46 : decode cX11_makes 46 = .ok (.iload 4, 2) := by decide +kernel
theorem dX11_makes_48 : decode cX11_makes 48 = .ok (.iconst 3, 1) := by decide +kernel
theorem dX11_makes_49 : decode cX11_makes 49 = .ok (.iadd, 1) := by decide +kernel
theorem dX11_makes_50 : decode cX11_makes 50 = .ok (.iconst 0, 1) := by decide +kernel
theorem dX11_makes_51 : decode cX11_makes 51 = .ok (.iastore, 1) := by decide +kernel
theorem dX11_makes_52 : decode cX11_makes 52 = .ok (.aload_n 0, 1) := by decide +kernel
theorem dX11_makes_53 : decode cX11_makes 53 = .ok (.getfield 7, 3) := by decide +kernel
theorem dX11_makes_56 : decode cX11_makes 56 = .ok (.bipush 41, 2) := by decide +kernel
theorem dX11_makes_58 : decode cX11_makes 58 = .ok (.dup2, 1) := by decide +kernel
theorem dX11_makes_59 : decode cX11_makes 59 = .ok (.iaload, 1) := by decide +kernel
theorem dX11_makes_60 : decode cX11_makes 60 = .ok (.iconst 1, 1) := by decide +kernel
theorem dX11_makes_61 : decode cX11_makes 61 = .ok (.iadd, 1) := by decide +kernel
theorem dX11_makes_62 : decode cX11_makes 62 = .ok (.iastore, 1) := by decide +kernel
theorem dX11_makes_63 : decode cX11_makes 63 = .ok (.return_, 1) := by decide +kernel
theorem dX11_echoes_0 : decode cX11_echoes 0 = .ok (.aload_n 0, 1) := by decide +kernel
theorem dX11_echoes_1 : decode cX11_echoes 1 = .ok (.invokevirtual 48, 3) := by decide +kernel
theorem dX11_echoes_4 : decode cX11_echoes 4 = .ok (.istore_n 1, 1) := by decide +kernel
theorem dX11_echoes_5 : decode cX11_echoes 5 = .ok (.aload_n 0, 1) := by decide +kernel
theorem dX11_echoes_6 : decode cX11_echoes 6 = .ok (.getfield 7, 3) := by decide +kernel
theorem dX11_echoes_9 : decode cX11_echoes 9 = .ok (.bipush 41, 2) := by decide +kernel
theorem dX11_echoes_11 : decode cX11_echoes 11 = .ok (.iconst 0, 1) := by decide +kernel
theorem dX11_echoes_12 : decode cX11_echoes 12 = .ok (.iastore, 1) := by decide +kernel
theorem dX11_echoes_13 : decode cX11_echoes 13 = .ok (.iconst 0, 1) := by decide +kernel
theorem dX11_echoes_14 : decode cX11_echoes 14 = .ok (.istore_n 2, 1) := by decide +kernel
theorem dX11_echoes_15 : decode cX11_echoes 15 = .ok (.iload_n 2, 1) := by decide +kernel
theorem dX11_echoes_16 : decode cX11_echoes 16 = .ok (.aload_n 0, 1) := by decide +kernel
theorem dX11_echoes_17 : decode cX11_echoes 17 = .ok (.getfield 7, 3) := by decide +kernel
theorem dX11_echoes_20 : decode cX11_echoes 20 = .ok (.iconst 4, 1) := by decide +kernel
theorem dX11_echoes_21 : decode cX11_echoes 21 = .ok (.iaload, 1) := by decide +kernel
theorem dX11_echoes_22 : decode cX11_echoes 22 = .ok (.if_icmp .ge 56, 3) := by decide +kernel
theorem dX11_echoes_25 : decode cX11_echoes 25 = .ok (.aload_n 0, 1) := by decide +kernel
theorem dX11_echoes_26 : decode cX11_echoes 26 = .ok (.getfield 7, 3) := by decide +kernel
theorem dX11_echoes_29 : decode cX11_echoes 29 = .ok (.sipush 134, 3) := by decide +kernel
theorem dX11_echoes_32 : decode cX11_echoes 32 = .ok (.iconst 2, 1) := by decide +kernel
theorem dX11_echoes_33 : decode cX11_echoes 33 = .ok (.iload_n 2, 1) := by decide +kernel
theorem dX11_echoes_34 : decode cX11_echoes 34 = .ok (.imul, 1) := by decide +kernel
theorem dX11_echoes_35 : decode cX11_echoes 35 = .ok (.iadd, 1) := by decide +kernel
theorem dX11_echoes_36 : decode cX11_echoes 36 = .ok (.iaload, 1) := by decide +kernel
theorem dX11_echoes_37 : decode cX11_echoes 37 = .ok (.iload_n 1, 1) := by decide +kernel
theorem dX11_echoes_38 : decode cX11_echoes 38 = .ok (.if_icmp .ge 34, 3) := by decide +kernel
theorem dX11_echoes_41 : decode cX11_echoes 41 = .ok (.aload_n 0, 1) := by decide +kernel
theorem dX11_echoes_42 : decode cX11_echoes 42 = .ok (.iconst 0, 1) := by decide +kernel
theorem dX11_echoes_43 : decode cX11_echoes 43 = .ok (.aload_n 0, 1) := by decide +kernel
theorem dX11_echoes_44 : decode cX11_echoes 44 = .ok (.getfield 7, 3) := by decide +kernel
theorem dX11_echoes_47 : decode cX11_echoes 47 = .ok (.sipush 134, 3) := by decide +kernel
theorem dX11_echoes_50 : decode cX11_echoes 50 = .ok (.iconst 2, 1) := by decide +kernel
theorem dX11_echoes_51 : decode cX11_echoes 51 = .ok (.iload_n 2, 1) := by decide +kernel
theorem dX11_echoes_52 : decode cX11_echoes 52 = .ok (.imul, 1) := by decide +kernel
theorem dX11_echoes_53 : decode cX11_echoes 53 = .ok (.iadd, 1) := by decide +kernel
theorem dX11_echoes_54 : decode cX11_echoes 54 = .ok (.iaload, 1) := by decide +kernel
theorem dX11_echoes_55 : decode cX11_echoes 55 = .ok (.aload_n 0, 1) := by decide +kernel
theorem dX11_echoes_56 : decode cX11_echoes 56 = .ok (.getfield 7, 3) := by decide +kernel
theorem dX11_echoes_59 : decode cX11_echoes 59 = .ok (.sipush 134, 3) := by decide +kernel
theorem dX11_echoes_62 : decode cX11_echoes 62 = .ok (.iconst 2, 1) := by decide +kernel
theorem dX11_echoes_63 : decode cX11_echoes 63 = .ok (.iload_n 2, 1) := by decide +kernel
theorem dX11_echoes_64 : decode cX11_echoes 64 = .ok (.imul, 1) := by decide +kernel
theorem dX11_echoes_65 : decode cX11_echoes 65 = .ok (.iadd, 1) := by decide +kernel
theorem dX11_echoes_66 : decode cX11_echoes 66 = .ok (.iconst 1, 1) := by decide +kernel
theorem dX11_echoes_67 : decode cX11_echoes 67 = .ok (.iadd, 1) := by decide +kernel
theorem dX11_echoes_68 : decode cX11_echoes 68 = .ok (.iaload, 1) := by decide +kernel
theorem dX11_echoes_69 : decode cX11_echoes 69 = .ok (.invokevirtual 52, 3) := by decide +kernel
theorem dX11_echoes_72 : decode cX11_echoes 72 = .ok (.iinc 2 1, 3) := by decide +kernel
theorem dX11_echoes_75 : decode cX11_echoes 75 = .ok (.goto (-60), 3) := by decide +kernel
theorem dX11_echoes_78 : decode cX11_echoes 78 = .ok (.iconst 0, 1) := by decide +kernel
theorem dX11_echoes_79 : decode cX11_echoes 79 = .ok (.istore_n 2, 1) := by decide +kernel
theorem dX11_echoes_80 : decode cX11_echoes 80 = .ok (.iconst 0, 1) := by decide +kernel
theorem dX11_echoes_81 : decode cX11_echoes 81 = .ok (.istore_n 3, 1) := by decide +kernel
theorem dX11_echoes_82 : decode cX11_echoes 82 = .ok (.iload_n 3, 1) := by decide +kernel
theorem dX11_echoes_83 : decode cX11_echoes 83 = .ok (.aload_n 0, 1) := by decide +kernel
theorem dX11_echoes_84 : decode cX11_echoes 84 = .ok (.getfield 7, 3) := by decide +kernel
theorem dX11_echoes_87 : decode cX11_echoes 87 = .ok (.iconst 5, 1) := by decide +kernel
theorem dX11_echoes_88 : decode cX11_echoes 88 = .ok (.iaload, 1) := by decide +kernel
theorem dX11_echoes_89 : decode cX11_echoes 89 = .ok (.if_icmp .ge 97, 3) := by decide +kernel
theorem dX11_echoes_92 : decode cX11_echoes 92 = .ok (.iload_n 3, 1) := by decide +kernel
theorem dX11_echoes_93 : decode cX11_echoes 93 = .ok (.iconst 2, 1) := by decide +kernel
theorem dX11_echoes_94 : decode cX11_echoes 94 = .ok (.irem, 1) := by decide +kernel
theorem dX11_echoes_95 : decode cX11_echoes 95 = .ok (.ifCond .ne 13, 3) := by decide +kernel
theorem dX11_echoes_98 : decode cX11_echoes 98 = .ok (.aload_n 0, 1) := by decide +kernel
theorem dX11_echoes_99 : decode cX11_echoes 99 = .ok (.getfield 7, 3) := by decide +kernel
theorem dX11_echoes_102 : decode cX11_echoes 102 = .ok (.bipush 6, 2) := by decide +kernel
theorem dX11_echoes_104 : decode cX11_echoes 104 = .ok (.iaload, 1) := by decide +kernel
theorem dX11_echoes_105 : decode cX11_echoes 105 = .ok (.goto 10, 3) := by decide +kernel
theorem dX11_echoes_108 : decode cX11_echoes 108 = .ok (.aload_n 0, 1) := by decide +kernel
theorem dX11_echoes_109 : decode cX11_echoes 109 = .ok (.getfield 7, 3) := by decide +kernel
theorem dX11_echoes_112 : decode cX11_echoes 112 = .ok (.bipush 7, 2) := by decide +kernel
theorem dX11_echoes_114 : decode cX11_echoes 114 = .ok (.iaload, 1) := by decide +kernel
theorem dX11_echoes_115 : decode cX11_echoes 115 = .ok (.istore 4, 2) := by decide +kernel
theorem dX11_echoes_117 : decode cX11_echoes 117 = .ok (.aload_n 0, 1) := by decide +kernel
theorem dX11_echoes_118 : decode cX11_echoes 118 = .ok (.iload_n 3, 1) := by decide +kernel
theorem dX11_echoes_119 : decode cX11_echoes 119 = .ok (.invokevirtual 56, 3) := by decide +kernel
theorem dX11_echoes_122 : decode cX11_echoes 122 = .ok (.aload_n 0, 1) := by decide +kernel
theorem dX11_echoes_123 : decode cX11_echoes 123 = .ok (.getfield 7, 3) := by decide +kernel
theorem dX11_echoes_126 : decode cX11_echoes 126 = .ok (.bipush 10, 2) := by decide +kernel
theorem dX11_echoes_128 : decode cX11_echoes 128 = .ok (.iaload, 1) := by decide +kernel
theorem dX11_echoes_129 : decode cX11_echoes 129 = .ok (.if_icmp .le 22, 3) := by decide +kernel
theorem dX11_echoes_132 : decode cX11_echoes 132 = .ok (.aload_n 0, 1) := by decide +kernel
theorem dX11_echoes_133 : decode cX11_echoes 133 = .ok (.iload_n 3, 1) := by decide +kernel
theorem dX11_echoes_134 : decode cX11_echoes 134 = .ok (.invokevirtual 56, 3) := by decide +kernel
theorem dX11_echoes_137 : decode cX11_echoes 137 = .ok (.sipush 360, 3) := by decide +kernel
theorem dX11_echoes_140 : decode cX11_echoes 140 = .ok (.aload_n 0, 1) := by decide +kernel
theorem dX11_echoes_141 : decode cX11_echoes 141 = .ok (.getfield 7, 3) := by decide +kernel
theorem dX11_echoes_144 : decode cX11_echoes 144 = .ok (.bipush 10, 2) := by decide +kernel
theorem dX11_echoes_146 : decode cX11_echoes 146 = .ok (.iaload, 1) := by decide +kernel
theorem dX11_echoes_147 : decode cX11_echoes 147 = .ok (.isub, 1) := by decide +kernel
theorem dX11_echoes_148 : decode cX11_echoes 148 = .ok (.if_icmp .lt 7, 3) := by decide +kernel
theorem dX11_echoes_151 : decode cX11_echoes 151 = .ok (.iconst 1, 1) := by decide +kernel
theorem dX11_echoes_152 : decode cX11_echoes 152 = .ok (.goto 4, 3) := by decide +kernel
theorem dX11_echoes_155 : decode cX11_echoes 155 = .ok (.iconst 0, 1) := by decide +kernel
theorem dX11_echoes_156 : decode cX11_echoes 156 = .ok (.istore 5, 2) := by decide +kernel
theorem dX11_echoes_158 : decode cX11_echoes 158 = .ok (.iload 5, 2) := by decide +kernel
theorem dX11_echoes_160 : decode cX11_echoes 160 = .ok (.ifCond .eq 20, 3) := by decide +kernel
theorem dX11_echoes_163 : decode cX11_echoes 163 = .ok (.iload 4, 2) := by decide +kernel
theorem dX11_echoes_165 : decode cX11_echoes 165 = .ok (.iload_n 1, 1) := by decide +kernel
theorem dX11_echoes_166 : decode cX11_echoes 166 = .ok (.if_icmp .ge 14, 3) := by decide +kernel
theorem dX11_echoes_169 : decode cX11_echoes 169 = .ok (.aload_n 0, 1) := by decide +kernel
theorem dX11_echoes_170 : decode cX11_echoes 170 = .ok (.iconst 1, 1) := by decide +kernel
theorem dX11_echoes_171 : decode cX11_echoes 171 = .ok (.iload 4, 2) := by decide +kernel
theorem dX11_echoes_173 : decode cX11_echoes 173 = .ok (.bipush 60, 2) := by decide +kernel
theorem dX11_echoes_175 : decode cX11_echoes 175 = .ok (.invokevirtual 52, 3) := by decide +kernel
theorem dX11_echoes_178 : decode cX11_echoes 178 = .ok (.iconst 1, 1) := by decide +kernel
theorem dX11_echoes_179 : decode cX11_echoes 179 = .ok (.istore_n 2, 1) := by decide +kernel
theorem dX11_echoes_180 : decode cX11_echoes 180 = .ok (.iinc 3 1, 3) := by decide +kernel
theorem dX11_echoes_183 : decode cX11_echoes 183 = .ok (.goto (-101), 3) := by decide +kernel
theorem dX11_echoes_186 : decode cX11_echoes 186 = .ok (.aload_n 0, 1) := by decide +kernel
theorem dX11_echoes_187 : decode cX11_echoes 187 = .ok (.getfield 7, 3) := by decide +kernel
theorem dX11_echoes_190 : decode cX11_echoes 190 = .ok (.iconst 3, 1) := by decide +kernel
theorem dX11_echoes_191 : decode cX11_echoes 191 = .ok (.iaload, 1) := by decide +kernel
theorem dX11_echoes_192 : decode cX11_echoes 192 = .ok (.ifCond .le 37, 3) := by decide +kernel
theorem dX11_echoes_195 : decode cX11_echoes 195 = .ok (.aload_n 0, 1) := by decide +kernel
theorem dX11_echoes_196 : decode cX11_echoes 196 = .ok (.iconst 2, 1) := by decide +kernel
theorem dX11_echoes_197 : decode cX11_echoes 197 = .ok (.iconst 0, 1) := by decide +kernel
theorem dX11_echoes_198 : decode cX11_echoes 198 = .ok (.iload_n 1, 1) := by decide +kernel
theorem dX11_echoes_199 : decode cX11_echoes 199 = .ok (.aload_n 0, 1) := by decide +kernel
theorem dX11_echoes_200 : decode cX11_echoes 200 = .ok (.getfield 7, 3) := by decide +kernel
theorem dX11_echoes_203 : decode cX11_echoes 203 = .ok (.iconst 3, 1) := by decide +kernel
theorem dX11_echoes_204 : decode cX11_echoes 204 = .ok (.iaload, 1) := by decide +kernel
theorem dX11_echoes_205 : decode cX11_echoes 205 = .ok (.isub, 1) := by decide +kernel
theorem dX11_echoes_206 : decode cX11_echoes 206 = .ok (.invokestatic 60, 3) := by decide +kernel
theorem dX11_echoes_209 : decode cX11_echoes 209 = .ok (.bipush 10, 2) := by decide +kernel
theorem dX11_echoes_211 : decode cX11_echoes 211 = .ok (.bipush 70, 2) := by decide +kernel
theorem dX11_echoes_213 : decode cX11_echoes 213 = .ok (.aload_n 0, 1) := by decide +kernel
theorem dX11_echoes_214 : decode cX11_echoes 214 = .ok (.getfield 7, 3) := by decide +kernel
theorem dX11_echoes_217 : decode cX11_echoes 217 = .ok (.iconst 3, 1) := by decide +kernel
theorem dX11_echoes_218 : decode cX11_echoes 218 = .ok (.iaload, 1) := by decide +kernel
theorem dX11_echoes_219 : decode cX11_echoes 219 = .ok (.bipush 10, 2) := by decide +kernel
theorem dX11_echoes_221 : decode cX11_echoes 221 = .ok (.idiv, 1) := by decide +kernel
theorem dX11_echoes_222 : decode cX11_echoes 222 = .ok (.isub, 1) := by decide +kernel
theorem dX11_echoes_223 : decode cX11_echoes 223 = .ok (.invokestatic 60, 3) := by decide +kernel
theorem dX11_echoes_226 : decode cX11_echoes 226 = .ok (.invokevirtual 52, 3) := by decide +kernel
theorem dX11_echoes_229 : decode cX11_echoes 229 = .ok (.iload_n 2, 1) := by decide +kernel
theorem dX11_echoes_230 : decode cX11_echoes 230 = .ok (.ifCond .ne 37, 3) := by decide +kernel
theorem dX11_echoes_233 : decode cX11_echoes 233 = .ok (.iconst 0, 1) := by decide +kernel
theorem dX11_echoes_234 : decode cX11_echoes 234 = .ok (.bipush 80, 2) := by decide +kernel
theorem dX11_echoes_236 : decode cX11_echoes 236 = .ok (.aload_n 0, 1) := by decide +kernel
theorem dX11_echoes_237 : decode cX11_echoes 237 = .ok (.getfield 7, 3) := by decide +kernel
theorem dX11_echoes_240 : decode cX11_echoes 240 = .ok (.iconst 3, 1) := by decide +kernel
theorem dX11_echoes_241 : decode cX11_echoes 241 = .ok (.iaload, 1) := by decide +kernel
theorem dX11_echoes_242 : decode cX11_echoes 242 = .ok (.iconst 5, 1) := by decide +kernel
theorem dX11_echoes_243 : decode cX11_echoes 243 = .ok (.idiv, 1) := by decide +kernel
theorem dX11_echoes_244 : decode cX11_echoes 244 = .ok (.isub, 1) := by decide +kernel
theorem dX11_echoes_245 : decode cX11_echoes 245 = .ok (.invokestatic 60, 3) := by decide +kernel
theorem dX11_echoes_248 : decode cX11_echoes 248 = .ok (.istore_n 3, 1) := by decide +kernel
theorem dX11_echoes_249 : decode cX11_echoes 249 = .ok (.aload_n 0, 1) := by decide +kernel
theorem dX11_echoes_250 : decode cX11_echoes 250 = .ok (.iconst 3, 1) := by decide +kernel
theorem dX11_echoes_251 : decode cX11_echoes 251 = .ok (.iload_n 1, 1) := by decide +kernel
theorem dX11_echoes_252 : decode cX11_echoes 252 = .ok (.iload_n 3, 1) := by decide +kernel
theorem dX11_echoes_253 : decode cX11_echoes 253 = .ok (.invokevirtual 52, 3) := by decide +kernel
theorem dX11_echoes_256 : decode cX11_echoes 256 = .ok (.aload_n 0, 1) := by decide +kernel
theorem dX11_echoes_257 : decode cX11_echoes 257 = .ok (.iconst 4, 1) := by decide +kernel
theorem dX11_echoes_258 : decode cX11_echoes 258 = .ok (.iconst 2, 1) := by decide +kernel
theorem dX11_echoes_259 : decode cX11_echoes 259 = .ok (.iload_n 1, 1) := by decide +kernel
theorem dX11_echoes_260 : decode cX11_echoes 260 = .ok (.imul, 1) := by decide +kernel
theorem dX11_echoes_261 : decode cX11_echoes 261 = .ok (.iload_n 3, 1) := by decide +kernel
theorem dX11_echoes_262 : decode cX11_echoes 262 = .ok (.iconst 2, 1) := by decide +kernel
theorem dX11_echoes_263 : decode cX11_echoes 263 = .ok (.idiv, 1) := by decide +kernel
theorem dX11_echoes_264 : decode cX11_echoes 264 = .ok (.invokevirtual 52, 3) := by decide +kernel
theorem dX11_echoes_267 : decode cX11_echoes 267 = .ok (.return_, 1) := by decide +kernel
theorem dX11_chance_0 : decode cX11_chance 0 = .ok (.iconst 0, 1) := by decide +kernel
theorem dX11_chance_1 : decode cX11_chance 1 = .ok (.istore_n 1, 1) := by decide +kernel
theorem dX11_chance_2 : decode cX11_chance 2 = .ok (.iconst 0, 1) := by decide +kernel
theorem dX11_chance_3 : decode cX11_chance 3 = .ok (.istore_n 2, 1) := by decide +kernel
theorem dX11_chance_4 : decode cX11_chance 4 = .ok (.iload_n 2, 1) := by decide +kernel
theorem dX11_chance_5 : decode cX11_chance 5 = .ok (.aload_n 0, 1) := by decide +kernel
theorem dX11_chance_6 : decode cX11_chance 6 = .ok (.getfield 7, 3) := by decide +kernel
theorem dX11_chance_9 : decode cX11_chance 9 = .ok (.bipush 41, 2) := by decide +kernel
theorem dX11_chance_11 : decode cX11_chance 11 = .ok (.iaload, 1) := by decide +kernel
theorem dX11_chance_12 : decode cX11_chance 12 = .ok (.if_icmp .ge 157, 3) := by decide +kernel
theorem dX11_chance_15 : decode cX11_chance 15 = .ok (.aload_n 0, 1) := by decide +kernel
theorem dX11_chance_16 : decode cX11_chance 16 = .ok (.bipush 100, 2) := by decide +kernel
theorem dX11_chance_18 : decode cX11_chance 18 = .ok (.invokevirtual 64, 3) := by decide +kernel
theorem dX11_chance_21 : decode cX11_chance 21 = .ok (.aload_n 0, 1) := by decide +kernel
theorem dX11_chance_22 : decode cX11_chance 22 = .ok (.getfield 7, 3) := by decide +kernel
theorem dX11_chance_25 : decode cX11_chance 25 = .ok (.bipush 12, 2) := by decide +kernel
theorem dX11_chance_27 : decode cX11_chance 27 = .ok (.iaload, 1) := by decide +kernel
theorem dX11_chance_28 : decode cX11_chance 28 = .ok (.if_icmp .ge 7, 3) := by decide +kernel
theorem dX11_chance_31 : decode cX11_chance 31 = .ok (.iconst 1, 1) := by decide +kernel
theorem dX11_chance_32 : decode cX11_chance 32 = .ok (.goto 4, 3) := by decide +kernel
theorem dX11_chance_35 : decode cX11_chance 35 = .ok (.iconst 0, 1) := by decide +kernel
theorem dX11_chance_36 : decode cX11_chance 36 = .ok (.istore_n 3, 1) := by decide +kernel
theorem dX11_chance_37 : decode cX11_chance 37 = .ok (.iload_n 3, 1) := by decide +kernel
theorem dX11_chance_38 : decode cX11_chance 38 = .ok (.ifCond .ne 125, 3) := by decide +kernel
theorem dX11_chance_41 : decode cX11_chance 41 = .ok (.aload_n 0, 1) := by decide +kernel
theorem dX11_chance_42 : decode cX11_chance 42 = .ok (.getfield 7, 3) := by decide +kernel
theorem dX11_chance_45 : decode cX11_chance 45 = .ok (.bipush 42, 2) := by decide +kernel
theorem dX11_chance_47 : decode cX11_chance 47 = .ok (.iconst 4, 1) := by decide +kernel
theorem dX11_chance_48 : decode cX11_chance 48 = .ok (.iload_n 2, 1) := by decide +kernel
theorem dX11_chance_49 : decode cX11_chance 49 = .ok (.imul, 1) := by decide +kernel
theorem dX11_chance_50 : decode cX11_chance 50 = .ok (.iadd, 1) := by decide +kernel
theorem dX11_chance_51 : decode cX11_chance 51 = .ok (.iconst 1, 1) := by decide +kernel
theorem dX11_chance_52 : decode cX11_chance 52 = .ok (.iadd, 1) := by decide +kernel
theorem dX11_chance_53 : decode cX11_chance 53 = .ok (.iaload, 1) := by decide +kernel
theorem dX11_chance_54 : decode cX11_chance 54 = .ok (.istore 4, 2) := by decide +kernel
theorem dX11_chance_56 : decode cX11_chance 56 = .ok (.aload_n 0, 1) := by decide +kernel
theorem dX11_chance_57 : decode cX11_chance 57 = .ok (.getfield 7, 3) := by decide +kernel
theorem dX11_chance_60 : decode cX11_chance 60 = .ok (.bipush 13, 2) := by decide +kernel
theorem dX11_chance_62 : decode cX11_chance 62 = .ok (.iaload, 1) := by decide +kernel
theorem dX11_chance_63 : decode cX11_chance 63 = .ok (.ifCond .le 39, 3) := by decide +kernel
theorem dX11_chance_66 : decode cX11_chance 66 = .ok (.aload_n 0, 1) := by decide +kernel
theorem dX11_chance_67 : decode cX11_chance 67 = .ok (.iconst 2, 1) := by decide +kernel
theorem dX11_chance_68 : decode cX11_chance 68 = .ok (.aload_n 0, 1) := by decide +kernel
theorem dX11_chance_69 : decode cX11_chance 69 = .ok (.getfield 7, 3) := by decide +kernel
theorem dX11_chance_72 : decode cX11_chance 72 = .ok (.bipush 13, 2) := by decide +kernel
theorem dX11_chance_74 : decode cX11_chance 74 = .ok (.iaload, 1) := by decide +kernel
theorem dX11_chance_75 : decode cX11_chance 75 = .ok (.imul, 1) := by decide +kernel
theorem dX11_chance_76 : decode cX11_chance 76 = .ok (.iconst 1, 1) := by decide +kernel
theorem dX11_chance_77 : decode cX11_chance 77 = .ok (.iadd, 1) := by decide +kernel
theorem dX11_chance_78 : decode cX11_chance 78 = .ok (.invokevirtual 64, 3) := by decide +kernel
theorem dX11_chance_81 : decode cX11_chance 81 = .ok (.istore 5, 2) := by decide +kernel
theorem dX11_chance_83 : decode cX11_chance 83 = .ok (.iconst 0, 1) := by decide +kernel
theorem dX11_chance_84 : decode cX11_chance 84 = .ok (.iload 4, 2) := by decide +kernel
theorem dX11_chance_86 : decode cX11_chance 86 = .ok (.iload 5, 2) := by decide +kernel
theorem dX11_chance_88 : decode cX11_chance 88 = .ok (.iadd, 1) := by decide +kernel
theorem dX11_chance_89 : decode cX11_chance 89 = .ok (.aload_n 0, 1) := by decide +kernel
theorem dX11_chance_90 : decode cX11_chance 90 = .ok (.getfield 7, 3) := by decide +kernel
theorem dX11_chance_93 : decode cX11_chance 93 = .ok (.bipush 13, 2) := by decide +kernel
theorem dX11_chance_95 : decode cX11_chance 95 = .ok (.iaload, 1) := by decide +kernel
theorem dX11_chance_96 : decode cX11_chance 96 = .ok (.isub, 1) := by decide +kernel
theorem dX11_chance_97 : decode cX11_chance 97 = .ok (.invokestatic 60, 3) := by decide +kernel
theorem dX11_chance_100 : decode cX11_chance 100 = .ok (.istore 4, 2) := by decide +kernel
theorem dX11_chance_102 : decode cX11_chance 102 = .ok (.iconst 0, 1) := by decide +kernel
theorem dX11_chance_103 : decode cX11_chance 103 = .ok (.istore 5, 2) := by decide +kernel
theorem dX11_chance_105 : decode cX11_chance 105 = .ok (.iload 5, 2) := by decide +kernel
theorem dX11_chance_107 : decode cX11_chance 107 = .ok (.iconst 4, 1) := by decide +kernel
theorem dX11_chance_108 : decode cX11_chance 108 = .ok (.if_icmp .ge 37, 3) := by decide +kernel
theorem dX11_chance_111 : decode cX11_chance 111 = .ok (.aload_n 0, 1) := by decide +kernel
theorem dX11_chance_112 : decode cX11_chance 112 = .ok (.getfield 7, 3) := by decide +kernel
theorem dX11_chance_115 : decode cX11_chance 115 = .ok (.bipush 42, 2) := by decide +kernel
theorem dX11_chance_117 : decode cX11_chance 117 = .ok (.iconst 4, 1) := by decide +kernel
theorem dX11_chance_118 : decode cX11_chance 118 = .ok (.iload_n 1, 1) := by decide +kernel
theorem dX11_chance_119 : decode cX11_chance 119 = .ok (.imul, 1) := by decide +kernel
theorem dX11_chance_120 : decode cX11_chance 120 = .ok (.iadd, 1) := by decide +kernel
theorem dX11_chance_121 : decode cX11_chance 121 = .ok (.iload 5, 2) := by decide +kernel
theorem dX11_chance_123 : decode cX11_chance 123 = .ok (.iadd, 1) := by decide +kernel
theorem dX11_chance_124 : decode cX11_chance 124 = .ok (.aload_n 0, 1) := by decide +kernel
theorem dX11_chance_125 : decode cX11_chance 125 = .ok (.getfield 7, 3) := by decide +kernel
theorem dX11_chance_128 : decode cX11_chance 128 = .ok (.bipush 42, 2) := by decide +kernel
theorem dX11_chance_130 : decode cX11_chance 130 = .ok (.iconst 4, 1) := by decide +kernel
theorem dX11_chance_131 : decode cX11_chance 131 = .ok (.iload_n 2, 1) := by decide +kernel
theorem dX11_chance_132 : decode cX11_chance 132 = .ok (.imul, 1) := by decide +kernel
theorem dX11_chance_133 : decode cX11_chance 133 = .ok (.iadd, 1) := by decide +kernel
theorem dX11_chance_134 : decode cX11_chance 134 = .ok (.iload 5, 2) := by decide +kernel
theorem dX11_chance_136 : decode cX11_chance 136 = .ok (.iadd, 1) := by decide +kernel
theorem dX11_chance_137 : decode cX11_chance 137 = .ok (.iaload, 1) := by decide +kernel
theorem dX11_chance_138 : decode cX11_chance 138 = .ok (.iastore, 1) := by decide +kernel
theorem dX11_chance_139 : decode cX11_chance 139 = .ok (.iinc 5 1, 3) := by decide +kernel
theorem dX11_chance_142 : decode cX11_chance 142 = .ok (.goto (-37), 3) := by decide +kernel
theorem dX11_chance_145 : decode cX11_chance 145 = .ok (.aload_n 0, 1) := by decide +kernel
theorem dX11_chance_146 : decode cX11_chance 146 = .ok (.getfield 7, 3) := by decide +kernel
theorem dX11_chance_149 : decode cX11_chance 149 = .ok (.bipush 42, 2) := by decide +kernel
theorem dX11_chance_151 : decode cX11_chance 151 = .ok (.iconst 4, 1) := by decide +kernel
theorem dX11_chance_152 : decode cX11_chance 152 = .ok (.iload_n 1, 1) := by decide +kernel
theorem dX11_chance_153 : decode cX11_chance 153 = .ok (.imul, 1) := by decide +kernel
theorem dX11_chance_154 : decode cX11_chance 154 = .ok (.iadd, 1) := by decide +kernel
theorem dX11_chance_155 : decode cX11_chance 155 = .ok (.iconst 1, 1) := by decide +kernel
theorem dX11_chance_156 : decode cX11_chance 156 = .ok (.iadd, 1) := by decide +kernel
theorem dX11_chance_157 : decode cX11_chance 157 = .ok (.iload 4, 2) := by decide +kernel
theorem dX11_chance_159 : decode cX11_chance 159 = .ok (.iastore, 1) := by decide +kernel
theorem dX11_chance_160 : decode cX11_chance 160 = .ok (.iinc 1 1, 3) := by decide +kernel
theorem dX11_chance_163 : decode cX11_chance 163 = .ok (.iinc 2 1, 3) := by decide +kernel
theorem dX11_chance_166 : decode cX11_chance 166 = .ok (.goto (-162), 3) := by decide +kernel
theorem dX11_chance_169 : decode cX11_chance 169 = .ok (.aload_n 0, 1) := by decide +kernel
theorem dX11_chance_170 : decode cX11_chance 170 = .ok (.getfield 7, 3) := by decide +kernel
theorem dX11_chance_173 : decode cX11_chance 173 = .ok (.bipush 41, 2) := by decide +kernel
theorem dX11_chance_175 : decode cX11_chance 175 = .ok (.iload_n 1, 1) := by decide +kernel
theorem dX11_chance_176 : decode cX11_chance 176 = .ok (.iastore, 1) := by decide +kernel
theorem dX11_chance_177 : decode cX11_chance 177 = .ok (.return_, 1) := by decide +kernel
theorem dX11_isAhead_0 : decode cX11_isAhead 0 = .ok (.aload_n 0, 1) := by decide +kernel
theorem dX11_isAhead_1 : decode cX11_isAhead 1 = .ok (.getfield 7, 3) := by decide +kernel
theorem dX11_isAhead_4 : decode cX11_isAhead 4 = .ok (.iload_n 1, 1) := by decide +kernel
theorem dX11_isAhead_5 : decode cX11_isAhead 5 = .ok (.iconst 1, 1) := by decide +kernel
theorem dX11_isAhead_6 : decode cX11_isAhead 6 = .ok (.iadd, 1) := by decide +kernel
theorem dX11_isAhead_7 : decode cX11_isAhead 7 = .ok (.iaload, 1) := by decide +kernel
theorem dX11_isAhead_8 : decode cX11_isAhead 8 = .ok (.aload_n 0, 1) := by decide +kernel
theorem dX11_isAhead_9 : decode cX11_isAhead 9 = .ok (.getfield 7, 3) := by decide +kernel
theorem dX11_isAhead_12 : decode cX11_isAhead 12 = .ok (.iload_n 1, 1) := by decide +kernel
theorem dX11_isAhead_13 : decode cX11_isAhead 13 = .ok (.iconst 3, 1) := by decide +kernel
theorem dX11_isAhead_14 : decode cX11_isAhead 14 = .ok (.isub, 1) := by decide +kernel
theorem dX11_isAhead_15 : decode cX11_isAhead 15 = .ok (.iaload, 1) := by decide +kernel
theorem dX11_isAhead_16 : decode cX11_isAhead 16 = .ok (.if_icmp .eq 28, 3) := by decide +kernel
theorem dX11_isAhead_19 : decode cX11_isAhead 19 = .ok (.aload_n 0, 1) := by decide +kernel
theorem dX11_isAhead_20 : decode cX11_isAhead 20 = .ok (.getfield 7, 3) := by decide +kernel
theorem dX11_isAhead_23 : decode cX11_isAhead 23 = .ok (.iload_n 1, 1) := by decide +kernel
theorem dX11_isAhead_24 : decode cX11_isAhead 24 = .ok (.iconst 1, 1) := by decide +kernel
theorem dX11_isAhead_25 : decode cX11_isAhead 25 = .ok (.iadd, 1) := by decide +kernel
theorem dX11_isAhead_26 : decode cX11_isAhead 26 = .ok (.iaload, 1) := by decide +kernel
theorem dX11_isAhead_27 : decode cX11_isAhead 27 = .ok (.aload_n 0, 1) := by decide +kernel
theorem dX11_isAhead_28 : decode cX11_isAhead 28 = .ok (.getfield 7, 3) := by decide +kernel
theorem dX11_isAhead_31 : decode cX11_isAhead 31 = .ok (.iload_n 1, 1) := by decide +kernel
theorem dX11_isAhead_32 : decode cX11_isAhead 32 = .ok (.iconst 3, 1) := by decide +kernel
theorem dX11_isAhead_33 : decode cX11_isAhead 33 = .ok (.isub, 1) := by decide +kernel
theorem dX11_isAhead_34 : decode cX11_isAhead 34 = .ok (.iaload, 1) := by decide +kernel
theorem dX11_isAhead_35 : decode cX11_isAhead 35 = .ok (.if_icmp .ge 7, 3) := by decide +kernel
theorem dX11_isAhead_38 : decode cX11_isAhead 38 = .ok (.iconst 1, 1) := by decide +kernel
theorem dX11_isAhead_39 : decode cX11_isAhead 39 = .ok (.goto 4, 3) := by decide +kernel
theorem dX11_isAhead_42 : decode cX11_isAhead 42 = .ok (.iconst 0, 1) := by decide +kernel
theorem dX11_isAhead_43 : decode cX11_isAhead 43 = .ok (.ireturn, 1) := by decide +kernel
theorem dX11_isAhead_44 : decode cX11_isAhead 44 = .ok (.aload_n 0, 1) := by decide +kernel
theorem dX11_isAhead_45 : decode cX11_isAhead 45 = .ok (.getfield 7, 3) := by decide +kernel
theorem dX11_isAhead_48 : decode cX11_isAhead 48 = .ok (.iload_n 1, 1) := by decide +kernel
theorem dX11_isAhead_49 : decode cX11_isAhead 49 = .ok (.iconst 2, 1) := by decide +kernel
theorem dX11_isAhead_50 : decode cX11_isAhead 50 = .ok (.iadd, 1) := by decide +kernel
theorem dX11_isAhead_51 : decode cX11_isAhead 51 = .ok (.iaload, 1) := by decide +kernel
theorem dX11_isAhead_52 : decode cX11_isAhead 52 = .ok (.aload_n 0, 1) := by decide +kernel
theorem dX11_isAhead_53 : decode cX11_isAhead 53 = .ok (.getfield 7, 3) := by decide +kernel
theorem dX11_isAhead_56 : decode cX11_isAhead 56 = .ok (.iload_n 1, 1) := by decide +kernel
theorem dX11_isAhead_57 : decode cX11_isAhead 57 = .ok (.iconst 2, 1) := by decide +kernel
theorem dX11_isAhead_58 : decode cX11_isAhead 58 = .ok (.isub, 1) := by decide +kernel
theorem dX11_isAhead_59 : decode cX11_isAhead 59 = .ok (.iaload, 1) := by decide +kernel
theorem dX11_isAhead_60 : decode cX11_isAhead 60 = .ok (.if_icmp .ne 28, 3) := by decide +kernel
theorem dX11_isAhead_63 : decode cX11_isAhead 63 = .ok (.aload_n 0, 1) := by decide +kernel
theorem dX11_isAhead_64 : decode cX11_isAhead 64 = .ok (.getfield 7, 3) := by decide +kernel
theorem dX11_isAhead_67 : decode cX11_isAhead 67 = .ok (.iload_n 1, 1) := by decide +kernel
theorem dX11_isAhead_68 : decode cX11_isAhead 68 = .ok (.iaload, 1) := by decide +kernel
theorem dX11_isAhead_69 : decode cX11_isAhead 69 = .ok (.aload_n 0, 1) := by decide +kernel
theorem dX11_isAhead_70 : decode cX11_isAhead 70 = .ok (.getfield 7, 3) := by decide +kernel
theorem dX11_isAhead_73 : decode cX11_isAhead 73 = .ok (.iload_n 1, 1) := by decide +kernel
theorem dX11_isAhead_74 : decode cX11_isAhead 74 = .ok (.iconst 4, 1) := by decide +kernel
theorem dX11_isAhead_75 : decode cX11_isAhead 75 = .ok (.isub, 1) := by decide +kernel
theorem dX11_isAhead_76 : decode cX11_isAhead 76 = .ok (.iaload, 1) := by decide +kernel
theorem dX11_isAhead_77 : decode cX11_isAhead 77 = .ok (.if_icmp .ge 7, 3) := by decide +kernel
theorem dX11_isAhead_80 : decode cX11_isAhead 80 = .ok (.iconst 1, 1) := by decide +kernel
theorem dX11_isAhead_81 : decode cX11_isAhead 81 = .ok (.goto 31, 3) := by decide +kernel
theorem dX11_isAhead_84 : decode cX11_isAhead 84 = .ok (.iconst 0, 1) := by decide +kernel
theorem dX11_isAhead_85 : decode cX11_isAhead 85 = .ok (.goto 27, 3) := by decide +kernel
theorem dX11_isAhead_88 : decode cX11_isAhead 88 = .ok (.aload_n 0, 1) := by decide +kernel
theorem dX11_isAhead_89 : decode cX11_isAhead 89 = .ok (.getfield 7, 3) := by decide +kernel
theorem dX11_isAhead_92 : decode cX11_isAhead 92 = .ok (.iload_n 1, 1) := by decide +kernel
theorem dX11_isAhead_93 : decode cX11_isAhead 93 = .ok (.iconst 2, 1) := by decide +kernel
theorem dX11_isAhead_94 : decode cX11_isAhead 94 = .ok (.iadd, 1) := by decide +kernel
theorem dX11_isAhead_95 : decode cX11_isAhead 95 = .ok (.iaload, 1) := by decide +kernel
theorem dX11_isAhead_96 : decode cX11_isAhead 96 = .ok (.aload_n 0, 1) := by decide +kernel
theorem dX11_isAhead_97 : decode cX11_isAhead 97 = .ok (.getfield 7, 3) := by decide +kernel
theorem dX11_isAhead_100 : decode cX11_isAhead 100 = .ok (.iload_n 1, 1) := by decide +kernel
theorem dX11_isAhead_101 : decode cX11_isAhead 101 = .ok (.iconst 2, 1) := by decide +kernel
theorem dX11_isAhead_102 : decode cX11_isAhead 102 = .ok (.isub, 1) := by decide +kernel
theorem dX11_isAhead_103 : decode cX11_isAhead 103 = .ok (.iaload, 1) := by decide +kernel
theorem dX11_isAhead_104 : decode cX11_isAhead 104 = .ok (.if_icmp .le 7, 3) := by decide +kernel
theorem dX11_isAhead_107 : decode cX11_isAhead 107 = .ok (.iconst 1, 1) := by decide +kernel
theorem dX11_isAhead_108 : decode cX11_isAhead 108 = .ok (.goto 4, 3) := by decide +kernel
theorem dX11_isAhead_111 : decode cX11_isAhead 111 = .ok (.iconst 0, 1) := by decide +kernel
theorem dX11_isAhead_112 : decode cX11_isAhead 112 = .ok (.ireturn, 1) := by decide +kernel
theorem dX11_orders_0 : decode cX11_orders 0 = .ok (.iconst 1, 1) := by decide +kernel
theorem dX11_orders_1 : decode cX11_orders 1 = .ok (.istore_n 1, 1) := by decide +kernel
theorem dX11_orders_2 : decode cX11_orders 2 = .ok (.iload_n 1, 1) := by decide +kernel
theorem dX11_orders_3 : decode cX11_orders 3 = .ok (.aload_n 0, 1) := by decide +kernel
theorem dX11_orders_4 : decode cX11_orders 4 = .ok (.getfield 7, 3) := by decide +kernel
theorem dX11_orders_7 : decode cX11_orders 7 = .ok (.bipush 41, 2) := by decide +kernel
theorem dX11_orders_9 : decode cX11_orders 9 = .ok (.iaload, 1) := by decide +kernel
theorem dX11_orders_10 : decode cX11_orders 10 = .ok (.if_icmp .ge 89, 3) := by decide +kernel
theorem dX11_orders_13 : decode cX11_orders 13 = .ok (.bipush 42, 2) := by decide +kernel
theorem dX11_orders_15 : decode cX11_orders 15 = .ok (.iconst 4, 1) := by decide +kernel
theorem dX11_orders_16 : decode cX11_orders 16 = .ok (.iload_n 1, 1) := by decide +kernel
theorem dX11_orders_17 : decode cX11_orders 17 = .ok (.imul, 1) := by decide +kernel
theorem dX11_orders_18 : decode cX11_orders 18 = .ok (.iadd, 1) := by decide +kernel
theorem dX11_orders_19 : decode cX11_orders 19 = .ok (.istore_n 2, 1) := by decide +kernel
theorem dX11_orders_20 : decode cX11_orders 20 = .ok (.iload_n 2, 1) := by decide +kernel
theorem dX11_orders_21 : decode cX11_orders 21 = .ok (.bipush 42, 2) := by decide +kernel
theorem dX11_orders_23 : decode cX11_orders 23 = .ok (.if_icmp .le 70, 3) := by decide +kernel
theorem dX11_orders_26 : decode cX11_orders 26 = .ok (.aload_n 0, 1) := by decide +kernel
theorem dX11_orders_27 : decode cX11_orders 27 = .ok (.iload_n 2, 1) := by decide +kernel
theorem dX11_orders_28 : decode cX11_orders 28 = .ok (.invokevirtual 67, 3) := by decide +kernel
theorem dX11_orders_31 : decode cX11_orders 31 = .ok (.ifCond .eq 62, 3) := by decide +kernel
theorem dX11_orders_34 : decode cX11_orders 34 = .ok (.iconst 0, 1) := by decide +kernel
theorem dX11_orders_35 : decode cX11_orders 35 = .ok (.istore_n 3, 1) := by decide +kernel
theorem dX11_orders_36 : decode cX11_orders 36 = .ok (.iload_n 3, 1) := by decide +kernel
theorem dX11_orders_37 : decode cX11_orders 37 = .ok (.iconst 4, 1) := by decide +kernel
theorem dX11_orders_38 : decode cX11_orders 38 = .ok (.if_icmp .ge 49, 3) := by decide +kernel
theorem dX11_orders_41 : decode cX11_orders 41 = .ok (.aload_n 0, 1) := by decide +kernel
theorem dX11_orders_42 : decode cX11_orders 42 = .ok (.getfield 7, 3) := by decide +kernel
theorem dX11_orders_45 : decode cX11_orders 45 = .ok (.iload_n 2, 1) := by decide +kernel
theorem dX11_orders_46 : decode cX11_orders 46 = .ok (.iload_n 3, 1) := by decide +kernel
theorem dX11_orders_47 : decode cX11_orders 47 = .ok (.iadd, 1) := by decide +kernel
theorem dX11_orders_48 : decode cX11_orders 48 = .ok (.iaload, 1) := by decide +kernel
theorem dX11_orders_49 : decode cX11_orders 49 = .ok (.istore 4, 2) := by decide +kernel
theorem dX11_orders_51 : decode cX11_orders 51 = .ok (.aload_n 0, 1) := by decide +kernel
theorem dX11_orders_52 : decode cX11_orders 52 = .ok (.getfield 7, 3) := by decide +kernel
theorem dX11_orders_55 : decode cX11_orders 55 = .ok (.iload_n 2, 1) := by decide +kernel
theorem dX11_orders_56 : decode cX11_orders 56 = .ok (.iload_n 3, 1) := by decide +kernel
theorem dX11_orders_57 : decode cX11_orders 57 = .ok (.iadd, 1) := by decide +kernel
theorem dX11_orders_58 : decode cX11_orders 58 = .ok (.aload_n 0, 1) := by decide +kernel
theorem dX11_orders_59 : decode cX11_orders 59 = .ok (.getfield 7, 3) := by decide +kernel
theorem dX11_orders_62 : decode cX11_orders 62 = .ok (.iload_n 2, 1) := by decide +kernel
theorem dX11_orders_63 : decode cX11_orders 63 = .ok (.iload_n 3, 1) := by decide +kernel
theorem dX11_orders_64 : decode cX11_orders 64 = .ok (.iadd, 1) := by decide +kernel
theorem dX11_orders_65 : decode cX11_orders 65 = .ok (.iconst 4, 1) := by decide +kernel
theorem dX11_orders_66 : decode cX11_orders 66 = .ok (.isub, 1) := by decide +kernel
theorem dX11_orders_67 : decode cX11_orders 67 = .ok (.iaload, 1) := by decide +kernel
theorem dX11_orders_68 : decode cX11_orders 68 = .ok (.iastore, 1) := by decide +kernel
theorem dX11_orders_69 : decode cX11_orders 69 = .ok (.aload_n 0, 1) := by decide +kernel
theorem dX11_orders_70 : decode cX11_orders 70 = .ok (.getfield 7, 3) := by decide +kernel
theorem dX11_orders_73 : decode cX11_orders 73 = .ok (.iload_n 2, 1) := by decide +kernel
theorem dX11_orders_74 : decode cX11_orders 74 = .ok (.iload_n 3, 1) := by decide +kernel
theorem dX11_orders_75 : decode cX11_orders 75 = .ok (.iadd, 1) := by decide +kernel
theorem dX11_orders_76 : decode cX11_orders 76 = .ok (.iconst 4, 1) := by decide +kernel
theorem dX11_orders_77 : decode cX11_orders 77 = .ok (.isub, 1) := by decide +kernel
theorem dX11_orders_78 : decode cX11_orders 78 = .ok (.iload 4, 2) := by decide +kernel
theorem dX11_orders_80 : decode cX11_orders 80 = .ok (.iastore, 1) := by decide +kernel
theorem dX11_orders_81 : decode cX11_orders 81 = .ok (.iinc 3 1, 3) := by decide +kernel
theorem dX11_orders_84 : decode cX11_orders 84 = .ok (.goto (-48), 3) := by decide +kernel
theorem dX11_orders_87 : decode cX11_orders 87 = .ok (.iinc 2 (-4), 3) := by decide +kernel
theorem dX11_orders_90 : decode cX11_orders 90 = .ok (.goto (-70), 3) := by decide +kernel
theorem dX11_orders_93 : decode cX11_orders 93 = .ok (.iinc 1 1, 3) := by decide +kernel
theorem dX11_orders_96 : decode cX11_orders 96 = .ok (.goto (-94), 3) := by decide +kernel
theorem dX11_orders_99 : decode cX11_orders 99 = .ok (.return_, 1) := by decide +kernel
theorem dX11_fires_0 : decode cX11_fires 0 = .ok (.aload_n 0, 1) := by decide +kernel
theorem dX11_fires_1 : decode cX11_fires 1 = .ok (.getfield 7, 3) := by decide +kernel
theorem dX11_fires_4 : decode cX11_fires 4 = .ok (.iconst 1, 1) := by decide +kernel
theorem dX11_fires_5 : decode cX11_fires 5 = .ok (.iaload, 1) := by decide +kernel
theorem dX11_fires_6 : decode cX11_fires 6 = .ok (.aload_n 0, 1) := by decide +kernel
theorem dX11_fires_7 : decode cX11_fires 7 = .ok (.getfield 7, 3) := by decide +kernel
theorem dX11_fires_10 : decode cX11_fires 10 = .ok (.iconst 2, 1) := by decide +kernel
theorem dX11_fires_11 : decode cX11_fires 11 = .ok (.iaload, 1) := by decide +kernel
theorem dX11_fires_12 : decode cX11_fires 12 = .ok (.iadd, 1) := by decide +kernel
theorem dX11_fires_13 : decode cX11_fires 13 = .ok (.istore_n 1, 1) := by decide +kernel
theorem dX11_fires_14 : decode cX11_fires 14 = .ok (.aload_n 0, 1) := by decide +kernel
theorem dX11_fires_15 : decode cX11_fires 15 = .ok (.getfield 7, 3) := by decide +kernel
theorem dX11_fires_18 : decode cX11_fires 18 = .ok (.iconst 1, 1) := by decide +kernel
theorem dX11_fires_19 : decode cX11_fires 19 = .ok (.iload_n 1, 1) := by decide +kernel
theorem dX11_fires_20 : decode cX11_fires 20 = .ok (.ifCond .ge 7, 3) := by decide +kernel
theorem dX11_fires_23 : decode cX11_fires 23 = .ok (.iconst 0, 1) := by decide +kernel
theorem dX11_fires_24 : decode cX11_fires 24 = .ok (.goto 23, 3) := by decide +kernel
theorem dX11_fires_27 : decode cX11_fires 27 = .ok (.iload_n 1, 1) := by decide +kernel
theorem dX11_fires_28 : decode cX11_fires 28 = .ok (.aload_n 0, 1) := by decide +kernel
theorem dX11_fires_29 : decode cX11_fires 29 = .ok (.getfield 7, 3) := by decide +kernel
theorem dX11_fires_32 : decode cX11_fires 32 = .ok (.iconst 0, 1) := by decide +kernel
theorem dX11_fires_33 : decode cX11_fires 33 = .ok (.iaload, 1) := by decide +kernel
theorem dX11_fires_34 : decode cX11_fires 34 = .ok (.if_icmp .le 12, 3) := by decide +kernel
theorem dX11_fires_37 : decode cX11_fires 37 = .ok (.aload_n 0, 1) := by decide +kernel
theorem dX11_fires_38 : decode cX11_fires 38 = .ok (.getfield 7, 3) := by decide +kernel
theorem dX11_fires_41 : decode cX11_fires 41 = .ok (.iconst 0, 1) := by decide +kernel
theorem dX11_fires_42 : decode cX11_fires 42 = .ok (.iaload, 1) := by decide +kernel
theorem dX11_fires_43 : decode cX11_fires 43 = .ok (.goto 4, 3) := by decide +kernel
theorem dX11_fires_46 : decode cX11_fires 46 = .ok (.iload_n 1, 1) := by decide +kernel
theorem dX11_fires_47 : decode cX11_fires 47 = .ok (.iastore, 1) := by decide +kernel
theorem dX11_fires_48 : decode cX11_fires 48 = .ok (.aload_n 0, 1) := by decide +kernel
theorem dX11_fires_49 : decode cX11_fires 49 = .ok (.getfield 7, 3) := by decide +kernel
theorem dX11_fires_52 : decode cX11_fires 52 = .ok (.bipush 8, 2) := by decide +kernel
theorem dX11_fires_54 : decode cX11_fires 54 = .ok (.aload_n 0, 1) := by decide +kernel
theorem dX11_fires_55 : decode cX11_fires 55 = .ok (.getfield 7, 3) := by decide +kernel
theorem dX11_fires_58 : decode cX11_fires 58 = .ok (.bipush 8, 2) := by decide +kernel
theorem dX11_fires_60 : decode cX11_fires 60 = .ok (.iaload, 1) := by decide +kernel
theorem dX11_fires_61 : decode cX11_fires 61 = .ok (.aload_n 0, 1) := by decide +kernel
theorem dX11_fires_62 : decode cX11_fires 62 = .ok (.getfield 7, 3) := by decide +kernel
theorem dX11_fires_65 : decode cX11_fires 65 = .ok (.bipush 9, 2) := by decide +kernel
theorem dX11_fires_67 : decode cX11_fires 67 = .ok (.iaload, 1) := by decide +kernel
theorem dX11_fires_68 : decode cX11_fires 68 = .ok (.iadd, 1) := by decide +kernel
theorem dX11_fires_69 : decode cX11_fires 69 = .ok (.sipush 360, 3) := by decide +kernel
theorem dX11_fires_72 : decode cX11_fires 72 = .ok (.irem, 1) := by decide +kernel
theorem dX11_fires_73 : decode cX11_fires 73 = .ok (.iastore, 1) := by decide +kernel
theorem dX11_fires_74 : decode cX11_fires 74 = .ok (.aload_n 0, 1) := by decide +kernel
theorem dX11_fires_75 : decode cX11_fires 75 = .ok (.invokevirtual 71, 3) := by decide +kernel
theorem dX11_fires_78 : decode cX11_fires 78 = .ok (.aload_n 0, 1) := by decide +kernel
theorem dX11_fires_79 : decode cX11_fires 79 = .ok (.invokevirtual 74, 3) := by decide +kernel
theorem dX11_fires_82 : decode cX11_fires 82 = .ok (.aload_n 0, 1) := by decide +kernel
theorem dX11_fires_83 : decode cX11_fires 83 = .ok (.invokevirtual 77, 3) := by decide +kernel
theorem dX11_fires_86 : decode cX11_fires 86 = .ok (.return_, 1) := by decide +kernel
theorem dX11_needOf_0 : decode cX11_needOf 0 = .ok (.iconst 1, 1) := by decide +kernel
theorem dX11_needOf_1 : decode cX11_needOf 1 = .ok (.aload_n 0, 1) := by decide +kernel
theorem dX11_needOf_2 : decode cX11_needOf 2 = .ok (.getfield 7, 3) := by decide +kernel
theorem dX11_needOf_5 : decode cX11_needOf 5 = .ok (.bipush 14, 2) := by decide +kernel
theorem dX11_needOf_7 : decode cX11_needOf 7 = .ok (.iaload, 1) := by decide +kernel
theorem dX11_needOf_8 : decode cX11_needOf 8 = .ok (.iload_n 1, 1) := by decide +kernel
theorem dX11_needOf_9 : decode cX11_needOf 9 = .ok (.aload_n 0, 1) := by decide +kernel
theorem dX11_needOf_10 : decode cX11_needOf 10 = .ok (.getfield 7, 3) := by decide +kernel
theorem dX11_needOf_13 : decode cX11_needOf 13 = .ok (.bipush 15, 2) := by decide +kernel
theorem dX11_needOf_15 : decode cX11_needOf 15 = .ok (.iaload, 1) := by decide +kernel
theorem dX11_needOf_16 : decode cX11_needOf 16 = .ok (.imul, 1) := by decide +kernel
theorem dX11_needOf_17 : decode cX11_needOf 17 = .ok (.sipush 1000, 3) := by decide +kernel
theorem dX11_needOf_20 : decode cX11_needOf 20 = .ok (.idiv, 1) := by decide +kernel
theorem dX11_needOf_21 : decode cX11_needOf 21 = .ok (.isub, 1) := by decide +kernel
theorem dX11_needOf_22 : decode cX11_needOf 22 = .ok (.invokestatic 60, 3) := by decide +kernel
theorem dX11_needOf_25 : decode cX11_needOf 25 = .ok (.ireturn, 1) := by decide +kernel
theorem dX11_isCandidate_0 : decode cX11_isCandidate 0 = .ok (.aload_n 0, 1) := by decide +kernel
theorem dX11_isCandidate_1 : decode cX11_isCandidate 1 = .ok (.getfield 7, 3) := by decide +kernel
theorem dX11_isCandidate_4 : decode cX11_isCandidate 4 = .ok (.iload_n 1, 1) := by decide +kernel
theorem dX11_isCandidate_5 : decode cX11_isCandidate 5 = .ok (.iconst 1, 1) := by decide +kernel
theorem dX11_isCandidate_6 : decode cX11_isCandidate 6 = .ok (.iadd, 1) := by decide +kernel
theorem dX11_isCandidate_7 : decode cX11_isCandidate 7 = .ok (.iaload, 1) := by decide +kernel
theorem dX11_isCandidate_8 : decode cX11_isCandidate 8 = .ok (.aload_n 0, 1) := by decide +kernel
theorem dX11_isCandidate_9 : decode cX11_isCandidate 9 = .ok (.getfield 7, 3) := by decide +kernel
theorem dX11_isCandidate_12 : decode cX11_isCandidate 12 = .ok (.iconst 0, 1) := by decide +kernel
theorem dX11_isCandidate_13 : decode cX11_isCandidate 13 = .ok (.iaload, 1) := by decide +kernel
theorem dX11_isCandidate_14 : decode cX11_isCandidate 14 = .ok (.if_icmp .gt 53, 3) := by decide +kernel
theorem dX11_isCandidate_17 : decode cX11_isCandidate 17 = .ok (.aload_n 0, 1) := by decide +kernel
theorem dX11_isCandidate_18 : decode cX11_isCandidate 18 = .ok (.getfield 7, 3) := by decide +kernel
theorem dX11_isCandidate_21 : decode cX11_isCandidate 21 = .ok (.sipush 146, 3) := by decide +kernel
theorem dX11_isCandidate_24 : decode cX11_isCandidate 24 = .ok (.aload_n 0, 1) := by decide +kernel
theorem dX11_isCandidate_25 : decode cX11_isCandidate 25 = .ok (.getfield 7, 3) := by decide +kernel
theorem dX11_isCandidate_28 : decode cX11_isCandidate 28 = .ok (.iload_n 1, 1) := by decide +kernel
theorem dX11_isCandidate_29 : decode cX11_isCandidate 29 = .ok (.iconst 1, 1) := by decide +kernel
theorem dX11_isCandidate_30 : decode cX11_isCandidate 30 = .ok (.iadd, 1) := by decide +kernel
theorem dX11_isCandidate_31 : decode cX11_isCandidate 31 = .ok (.iaload, 1) := by decide +kernel
theorem dX11_isCandidate_32 : decode cX11_isCandidate 32 = .ok (.bipush 20, 2) := by decide +kernel
theorem dX11_isCandidate_34 : decode cX11_isCandidate 34 = .ok (.idiv, 1) := by decide +kernel
theorem dX11_isCandidate_35 : decode cX11_isCandidate 35 = .ok (.iadd, 1) := by decide +kernel
theorem dX11_isCandidate_36 : decode cX11_isCandidate 36 = .ok (.iaload, 1) := by decide +kernel
theorem dX11_isCandidate_37 : decode cX11_isCandidate 37 = .ok (.ifCond .ne 30, 3) := by decide +kernel
theorem dX11_isCandidate_40 : decode cX11_isCandidate 40 = .ok (.aload_n 0, 1) := by decide +kernel
theorem dX11_isCandidate_41 : decode cX11_isCandidate 41 = .ok (.getfield 7, 3) := by decide +kernel
theorem dX11_isCandidate_44 : decode cX11_isCandidate 44 = .ok (.iload_n 1, 1) := by decide +kernel
theorem dX11_isCandidate_45 : decode cX11_isCandidate 45 = .ok (.iconst 2, 1) := by decide +kernel
theorem dX11_isCandidate_46 : decode cX11_isCandidate 46 = .ok (.iadd, 1) := by decide +kernel
theorem dX11_isCandidate_47 : decode cX11_isCandidate 47 = .ok (.iaload, 1) := by decide +kernel
theorem dX11_isCandidate_48 : decode cX11_isCandidate 48 = .ok (.aload_n 0, 1) := by decide +kernel
theorem dX11_isCandidate_49 : decode cX11_isCandidate 49 = .ok (.aload_n 0, 1) := by decide +kernel
theorem dX11_isCandidate_50 : decode cX11_isCandidate 50 = .ok (.getfield 7, 3) := by decide +kernel
theorem dX11_isCandidate_53 : decode cX11_isCandidate 53 = .ok (.iload_n 1, 1) := by decide +kernel
theorem dX11_isCandidate_54 : decode cX11_isCandidate 54 = .ok (.iconst 1, 1) := by decide +kernel
theorem dX11_isCandidate_55 : decode cX11_isCandidate 55 = .ok (.iadd, 1) := by decide +kernel
theorem dX11_isCandidate_56 : decode cX11_isCandidate 56 = .ok (.iaload, 1) := by decide +kernel
theorem dX11_isCandidate_57 : decode cX11_isCandidate 57 = .ok (.invokevirtual 80, 3) := by decide +kernel
theorem dX11_isCandidate_60 : decode cX11_isCandidate 60 = .ok (.if_icmp .lt 7, 3) := by decide +kernel
theorem dX11_isCandidate_63 : decode cX11_isCandidate 63 = .ok (.iconst 1, 1) := by decide +kernel
theorem dX11_isCandidate_64 : decode cX11_isCandidate 64 = .ok (.goto 4, 3) := by decide +kernel
theorem dX11_isCandidate_67 : decode cX11_isCandidate 67 = .ok (.iconst 0, 1) := by decide +kernel
theorem dX11_isCandidate_68 : decode cX11_isCandidate 68 = .ok (.ireturn, 1) := by decide +kernel
theorem dX11_hadNear_0 : decode cX11_hadNear 0 = .ok (.bipush 102, 2) := by decide +kernel
theorem dX11_hadNear_2 : decode cX11_hadNear 2 = .ok (.bipush 16, 2) := by decide +kernel
theorem dX11_hadNear_4 : decode cX11_hadNear 4 = .ok (.iload_n 1, 1) := by decide +kernel
theorem dX11_hadNear_5 : decode cX11_hadNear 5 = .ok (.imul, 1) := by decide +kernel
theorem dX11_hadNear_6 : decode cX11_hadNear 6 = .ok (.iadd, 1) := by decide +kernel
theorem dX11_hadNear_7 : decode cX11_hadNear 7 = .ok (.istore_n 3, 1) := by decide +kernel
theorem dX11_hadNear_8 : decode cX11_hadNear 8 = .ok (.iconst 0, 1) := by decide +kernel
theorem dX11_hadNear_9 : decode cX11_hadNear 9 = .ok (.istore 4, 2) := by decide +kernel
theorem dX11_hadNear_11 : decode cX11_hadNear 11 = .ok (.iconst 0, 1) := by decide +kernel
theorem dX11_hadNear_12 : decode cX11_hadNear 12 = .ok (.istore 5, 2) := by decide +kernel
theorem dX11_hadNear_14 : decode cX11_hadNear 14 = .ok (.iload 5, 2) := by decide +kernel
theorem dX11_hadNear_16 : decode cX11_hadNear 16 = .ok (.aload_n 0, 1) := by decide +kernel
theorem dX11_hadNear_17 : decode cX11_hadNear 17 = .ok (.getfield 7, 3) := by decide +kernel
theorem dX11_hadNear_20 : decode cX11_hadNear 20 = .ok (.iload_n 3, 1) := by decide +kernel
theorem dX11_hadNear_21 : decode cX11_hadNear 21 = .ok (.iaload, 1) := by decide +kernel
theorem dX11_hadNear_22 : decode cX11_hadNear 22 = .ok (.if_icmp .ge 41, 3) := by decide +kernel
theorem dX11_hadNear_25 : decode cX11_hadNear 25 = .ok (.iload 4, 2) := by decide +kernel
theorem dX11_hadNear_27 : decode cX11_hadNear 27 = .ok (.ifCond .ne 23, 3) := by decide +kernel
theorem dX11_hadNear_30 : decode cX11_hadNear 30 = .ok (.aload_n 0, 1) := by decide +kernel
theorem dX11_hadNear_31 : decode cX11_hadNear 31 = .ok (.getfield 7, 3) := by decide +kernel
theorem dX11_hadNear_34 : decode cX11_hadNear 34 = .ok (.iload_n 3, 1) := by decide +kernel
theorem dX11_hadNear_35 : decode cX11_hadNear 35 = .ok (.iconst 1, 1) := by decide +kernel
theorem dX11_hadNear_36 : decode cX11_hadNear 36 = .ok (.iadd, 1) := by decide +kernel
theorem dX11_hadNear_37 : decode cX11_hadNear 37 = .ok (.iload 5, 2) := by decide +kernel
theorem dX11_hadNear_39 : decode cX11_hadNear 39 = .ok (.iadd, 1) := by decide +kernel
theorem dX11_hadNear_40 : decode cX11_hadNear 40 = .ok (.iaload, 1) := by decide +kernel
theorem dX11_hadNear_41 : decode cX11_hadNear 41 = .ok (.iload_n 2, 1) := by decide +kernel
theorem dX11_hadNear_42 : decode cX11_hadNear 42 = .ok (.invokestatic 83, 3) := by decide +kernel
theorem dX11_hadNear_45 : decode cX11_hadNear 45 = .ok (.bipush 15, 2) := by decide +kernel
theorem dX11_hadNear_47 : decode cX11_hadNear 47 = .ok (.if_icmp .gt 7, 3) := by decide +kernel
theorem dX11_hadNear_50 : decode cX11_hadNear 50 = .ok (.iconst 1, 1) := by decide +kernel
theorem dX11_hadNear_51 : decode cX11_hadNear 51 = .ok (.goto 4, 3) := by decide +kernel
theorem dX11_hadNear_54 : decode cX11_hadNear 54 = .ok (.iconst 0, 1) := by decide +kernel
theorem dX11_hadNear_55 : decode cX11_hadNear 55 = .ok (.istore 4, 2) := by decide +kernel
theorem dX11_hadNear_57 : decode cX11_hadNear 57 = .ok (.iinc 5 1, 3) := by decide +kernel
theorem dX11_hadNear_60 : decode cX11_hadNear 60 = .ok (.goto (-46), 3) := by decide +kernel
theorem dX11_hadNear_63 : decode cX11_hadNear 63 = .ok (.iload 4, 2) := by decide +kernel
theorem dX11_hadNear_65 : decode cX11_hadNear 65 = .ok (.ireturn, 1) := by decide +kernel
theorem dX11_looks_0 : decode cX11_looks 0 = .ok (.iconst 0, 1) := by decide +kernel
theorem dX11_looks_1 : decode cX11_looks 1 = .ok (.istore_n 1, 1) := by decide +kernel
theorem dX11_looks_2 : decode cX11_looks 2 = .ok (.iload_n 1, 1) := by decide +kernel
theorem dX11_looks_3 : decode cX11_looks 3 = .ok (.aload_n 0, 1) := by decide +kernel
theorem dX11_looks_4 : decode cX11_looks 4 = .ok (.getfield 7, 3) := by decide +kernel
theorem dX11_looks_7 : decode cX11_looks 7 = .ok (.bipush 41, 2) := by decide +kernel
theorem dX11_looks_9 : decode cX11_looks 9 = .ok (.iaload, 1) := by decide +kernel
theorem dX11_looks_10 : decode cX11_looks 10 = .ok (.if_icmp .ge 146, 3) := by decide +kernel
theorem dX11_looks_13 : decode cX11_looks 13 = .ok (.bipush 42, 2) := by decide +kernel
theorem dX11_looks_15 : decode cX11_looks 15 = .ok (.iconst 4, 1) := by decide +kernel
theorem dX11_looks_16 : decode cX11_looks 16 = .ok (.iload_n 1, 1) := by decide +kernel
theorem dX11_looks_17 : decode cX11_looks 17 = .ok (.imul, 1) := by decide +kernel
theorem dX11_looks_18 : decode cX11_looks 18 = .ok (.iadd, 1) := by decide +kernel
theorem dX11_looks_19 : decode cX11_looks 19 = .ok (.istore_n 2, 1) := by decide +kernel
theorem dX11_looks_20 : decode cX11_looks 20 = .ok (.aload_n 0, 1) := by decide +kernel
theorem dX11_looks_21 : decode cX11_looks 21 = .ok (.iload_n 2, 1) := by decide +kernel
theorem dX11_looks_22 : decode cX11_looks 22 = .ok (.invokevirtual 86, 3) := by decide +kernel
theorem dX11_looks_25 : decode cX11_looks 25 = .ok (.ifCond .eq 125, 3) := by decide +kernel
theorem dX11_looks_28 : decode cX11_looks 28 = .ok (.aload_n 0, 1) := by decide +kernel
theorem dX11_looks_29 : decode cX11_looks 29 = .ok (.getfield 7, 3) := by decide +kernel
theorem dX11_looks_32 : decode cX11_looks 32 = .ok (.iload_n 2, 1) := by decide +kernel
theorem dX11_looks_33 : decode cX11_looks 33 = .ok (.iconst 1, 1) := by decide +kernel
theorem dX11_looks_34 : decode cX11_looks 34 = .ok (.iadd, 1) := by decide +kernel
theorem dX11_looks_35 : decode cX11_looks 35 = .ok (.iaload, 1) := by decide +kernel
theorem dX11_looks_36 : decode cX11_looks 36 = .ok (.istore_n 3, 1) := by decide +kernel
theorem dX11_looks_37 : decode cX11_looks 37 = .ok (.aload_n 0, 1) := by decide +kernel
theorem dX11_looks_38 : decode cX11_looks 38 = .ok (.getfield 7, 3) := by decide +kernel
theorem dX11_looks_41 : decode cX11_looks 41 = .ok (.bipush 16, 2) := by decide +kernel
theorem dX11_looks_43 : decode cX11_looks 43 = .ok (.iaload, 1) := by decide +kernel
theorem dX11_looks_44 : decode cX11_looks 44 = .ok (.iconst 1, 1) := by decide +kernel
theorem dX11_looks_45 : decode cX11_looks 45 = .ok (.if_icmp .ne 34, 3) := by decide +kernel
theorem dX11_looks_48 : decode cX11_looks 48 = .ok (.iload_n 3, 1) := by decide +kernel
theorem dX11_looks_49 : decode cX11_looks 49 = .ok (.aload_n 0, 1) := by decide +kernel
theorem dX11_looks_50 : decode cX11_looks 50 = .ok (.getfield 7, 3) := by decide +kernel
theorem dX11_looks_53 : decode cX11_looks 53 = .ok (.bipush 6, 2) := by decide +kernel
theorem dX11_looks_55 : decode cX11_looks 55 = .ok (.iaload, 1) := by decide +kernel
theorem dX11_looks_56 : decode cX11_looks 56 = .ok (.bipush 40, 2) := by decide +kernel
theorem dX11_looks_58 : decode cX11_looks 58 = .ok (.isub, 1) := by decide +kernel
theorem dX11_looks_59 : decode cX11_looks 59 = .ok (.aload_n 0, 1) := by decide +kernel
theorem dX11_looks_60 : decode cX11_looks 60 = .ok (.getfield 7, 3) := by decide +kernel
theorem dX11_looks_63 : decode cX11_looks 63 = .ok (.bipush 7, 2) := by decide +kernel
theorem dX11_looks_65 : decode cX11_looks 65 = .ok (.iaload, 1) := by decide +kernel
theorem dX11_looks_66 : decode cX11_looks 66 = .ok (.bipush 40, 2) := by decide +kernel
theorem dX11_looks_68 : decode cX11_looks 68 = .ok (.iadd, 1) := by decide +kernel
theorem dX11_looks_69 : decode cX11_looks 69 = .ok (.invokestatic 89, 3) := by decide +kernel
theorem dX11_looks_72 : decode cX11_looks 72 = .ok (.ifCond .eq 7, 3) := by decide +kernel
theorem dX11_looks_75 : decode cX11_looks 75 = .ok (.iconst 1, 1) := by decide +kernel
theorem dX11_looks_76 : decode cX11_looks 76 = .ok (.goto 4, 3) := by decide +kernel
theorem dX11_looks_79 : decode cX11_looks 79 = .ok (.iconst 0, 1) := by decide +kernel
theorem dX11_looks_80 : decode cX11_looks 80 = .ok (.istore 4, 2) := by decide +kernel
theorem dX11_looks_82 : decode cX11_looks 82 = .ok (.iload 4, 2) := by decide +kernel
theorem dX11_looks_84 : decode cX11_looks 84 = .ok (.ifCond .eq 25, 3) := by decide +kernel
theorem dX11_looks_87 : decode cX11_looks 87 = .ok (.aload_n 0, 1) := by decide +kernel
theorem dX11_looks_88 : decode cX11_looks 88 = .ok (.iconst 0, 1) := by decide +kernel
theorem dX11_looks_89 : decode cX11_looks 89 = .ok (.iload_n 3, 1) := by decide +kernel
theorem dX11_looks_90 : decode cX11_looks 90 = .ok (.invokevirtual 93, 3) := by decide +kernel
theorem dX11_looks_93 : decode cX11_looks 93 = .ok (.ifCond .eq 12, 3) := by decide +kernel
theorem dX11_looks_96 : decode cX11_looks 96 = .ok (.aload_n 0, 1) := by decide +kernel
theorem dX11_looks_97 : decode cX11_looks 97 = .ok (.iconst 1, 1) := by decide +kernel
theorem dX11_looks_98 : decode cX11_looks 98 = .ok (.iload_n 3, 1) := by decide +kernel
theorem dX11_looks_99 : decode cX11_looks 99 = .ok (.invokevirtual 93, 3) := by decide +kernel
theorem dX11_looks_102 : decode cX11_looks 102 = .ok (.ifCond .ne 7, 3) := by decide +kernel
theorem dX11_looks_105 : decode cX11_looks 105 = .ok (.iconst 1, 1) := by decide +kernel
theorem dX11_looks_106 : decode cX11_looks 106 = .ok (.goto 4, 3) := by decide +kernel
theorem dX11_looks_109 : decode cX11_looks 109 = .ok (.iconst 0, 1) := by decide +kernel
theorem dX11_looks_110 : decode cX11_looks 110 = .ok (.istore 5, 2) := by decide +kernel
theorem dX11_looks_112 : decode cX11_looks 112 = .ok (.aload_n 0, 1) := by decide +kernel
theorem dX11_looks_113 : decode cX11_looks 113 = .ok (.getfield 7, 3) := by decide +kernel
theorem dX11_looks_116 : decode cX11_looks 116 = .ok (.iload_n 2, 1) := by decide +kernel
theorem dX11_looks_117 : decode cX11_looks 117 = .ok (.iconst 3, 1) := by decide +kernel
theorem dX11_looks_118 : decode cX11_looks 118 = .ok (.iadd, 1) := by decide +kernel
theorem dX11_looks_119 : decode cX11_looks 119 = .ok (.iload 5, 2) := by decide +kernel
theorem dX11_looks_121 : decode cX11_looks 121 = .ok (.ifCond .eq 7, 3) := by decide +kernel
theorem dX11_looks_124 : decode cX11_looks 124 = .ok (.iconst 3, 1) := by decide +kernel
theorem dX11_looks_125 : decode cX11_looks 125 = .ok (.goto 4, 3) := by decide +kernel
theorem dX11_looks_128 : decode cX11_looks 128 = .ok (.iconst 1, 1) := by decide +kernel
theorem dX11_looks_129 : decode cX11_looks 129 = .ok (.iastore, 1) := by decide +kernel
theorem dX11_looks_130 : decode cX11_looks 130 = .ok (.aload_n 0, 1) := by decide +kernel
theorem dX11_looks_131 : decode cX11_looks 131 = .ok (.getfield 7, 3) := by decide +kernel
theorem dX11_looks_134 : decode cX11_looks 134 = .ok (.bipush 29, 2) := by decide +kernel
theorem dX11_looks_136 : decode cX11_looks 136 = .ok (.dup2, 1) := by decide +kernel
theorem dX11_looks_137 : decode cX11_looks 137 = .ok (.iaload, 1) := by decide +kernel
theorem dX11_looks_138 : decode cX11_looks 138 = .ok (.iload 5, 2) := by decide +kernel
theorem dX11_looks_140 : decode cX11_looks 140 = .ok (.ifCond .eq 7, 3) := by decide +kernel
theorem dX11_looks_143 : decode cX11_looks 143 = .ok (.iconst 1, 1) := by decide +kernel
theorem dX11_looks_144 : decode cX11_looks 144 = .ok (.goto 4, 3) := by decide +kernel
theorem dX11_looks_147 : decode cX11_looks 147 = .ok (.iconst 0, 1) := by decide +kernel
theorem dX11_looks_148 : decode cX11_looks 148 = .ok (.iadd, 1) := by decide +kernel
theorem dX11_looks_149 : decode cX11_looks 149 = .ok (.iastore, 1) := by decide +kernel
theorem dX11_looks_150 : decode cX11_looks 150 = .ok (.iinc 1 1, 3) := by decide +kernel
theorem dX11_looks_153 : decode cX11_looks 153 = .ok (.goto (-151), 3) := by decide +kernel
theorem dX11_looks_156 : decode cX11_looks 156 = .ok (.return_, 1) := by decide +kernel
theorem dX11_remembers_0 : decode cX11_remembers 0 = .ok (.iconst 0, 1) := by decide +kernel
theorem dX11_remembers_1 : decode cX11_remembers 1 = .ok (.istore_n 1, 1) := by decide +kernel
theorem dX11_remembers_2 : decode cX11_remembers 2 = .ok (.iload_n 1, 1) := by decide +kernel
theorem dX11_remembers_3 : decode cX11_remembers 3 = .ok (.bipush 16, 2) := by decide +kernel
theorem dX11_remembers_5 : decode cX11_remembers 5 = .ok (.if_icmp .ge 37, 3) := by decide +kernel
theorem dX11_remembers_8 : decode cX11_remembers 8 = .ok (.aload_n 0, 1) := by decide +kernel
theorem dX11_remembers_9 : decode cX11_remembers 9 = .ok (.getfield 7, 3) := by decide +kernel
theorem dX11_remembers_12 : decode cX11_remembers 12 = .ok (.bipush 118, 2) := by decide +kernel
theorem dX11_remembers_14 : decode cX11_remembers 14 = .ok (.iload_n 1, 1) := by decide +kernel
theorem dX11_remembers_15 : decode cX11_remembers 15 = .ok (.iadd, 1) := by decide +kernel
theorem dX11_remembers_16 : decode cX11_remembers 16 = .ok (.aload_n 0, 1) := by decide +kernel
theorem dX11_remembers_17 : decode cX11_remembers 17 = .ok (.getfield 7, 3) := by decide +kernel
theorem dX11_remembers_20 : decode cX11_remembers 20 = .ok (.bipush 102, 2) := by decide +kernel
theorem dX11_remembers_22 : decode cX11_remembers 22 = .ok (.iload_n 1, 1) := by decide +kernel
theorem dX11_remembers_23 : decode cX11_remembers 23 = .ok (.iadd, 1) := by decide +kernel
theorem dX11_remembers_24 : decode cX11_remembers 24 = .ok (.iaload, 1) := by decide +kernel
theorem dX11_remembers_25 : decode cX11_remembers 25 = .ok (.iastore, 1) := by decide +kernel
theorem dX11_remembers_26 : decode cX11_remembers 26 = .ok (.aload_n 0, 1) := by decide +kernel
theorem dX11_remembers_27 : decode cX11_remembers 27 = .ok (.getfield 7, 3) := by decide +kernel
theorem dX11_remembers_30 : decode cX11_remembers 30 = .ok (.bipush 102, 2) := by decide +kernel
theorem dX11_remembers_32 : decode cX11_remembers 32 = .ok (.iload_n 1, 1) := by decide +kernel
theorem dX11_remembers_33 : decode cX11_remembers 33 = .ok (.iadd, 1) := by decide +kernel
theorem dX11_remembers_34 : decode cX11_remembers 34 = .ok (.iconst 0, 1) := by decide +kernel
theorem dX11_remembers_35 : decode cX11_remembers 35 = .ok (.iastore, 1) := by decide +kernel
theorem dX11_remembers_36 : decode cX11_remembers 36 = .ok (.iinc 1 1, 3) := by decide +kernel
theorem dX11_remembers_39 : decode cX11_remembers 39 = .ok (.goto (-37), 3) := by decide +kernel
theorem dX11_remembers_42 : decode cX11_remembers 42 = .ok (.iconst 0, 1) := by decide +kernel
theorem dX11_remembers_43 : decode cX11_remembers 43 = .ok (.istore_n 1, 1) := by decide +kernel
theorem dX11_remembers_44 : decode cX11_remembers 44 = .ok (.iload_n 1, 1) := by decide +kernel
theorem dX11_remembers_45 : decode cX11_remembers 45 = .ok (.aload_n 0, 1) := by decide +kernel
theorem dX11_remembers_46 : decode cX11_remembers 46 = .ok (.getfield 7, 3) := by decide +kernel
theorem dX11_remembers_49 : decode cX11_remembers 49 = .ok (.bipush 41, 2) := by decide +kernel
theorem dX11_remembers_51 : decode cX11_remembers 51 = .ok (.iaload, 1) := by decide +kernel
theorem dX11_remembers_52 : decode cX11_remembers 52 = .ok (.if_icmp .ge 61, 3) := by decide +kernel
theorem dX11_remembers_55 : decode cX11_remembers 55 = .ok (.bipush 42, 2) := by decide +kernel
theorem dX11_remembers_57 : decode cX11_remembers 57 = .ok (.iconst 4, 1) := by decide +kernel
theorem dX11_remembers_58 : decode cX11_remembers 58 = .ok (.iload_n 1, 1) := by decide +kernel
theorem dX11_remembers_59 : decode cX11_remembers 59 = .ok (.imul, 1) := by decide +kernel
theorem dX11_remembers_60 : decode cX11_remembers 60 = .ok (.iadd, 1) := by decide +kernel
theorem dX11_remembers_61 : decode cX11_remembers 61 = .ok (.istore_n 2, 1) := by decide +kernel
theorem dX11_remembers_62 : decode cX11_remembers 62 = .ok (.aload_n 0, 1) := by decide +kernel
theorem dX11_remembers_63 : decode cX11_remembers 63 = .ok (.getfield 7, 3) := by decide +kernel
theorem dX11_remembers_66 : decode cX11_remembers 66 = .ok (.iload_n 2, 1) := by decide +kernel
theorem dX11_remembers_67 : decode cX11_remembers 67 = .ok (.iconst 3, 1) := by decide +kernel
theorem dX11_remembers_68 : decode cX11_remembers 68 = .ok (.iadd, 1) := by decide +kernel
theorem dX11_remembers_69 : decode cX11_remembers 69 = .ok (.iaload, 1) := by decide +kernel
theorem dX11_remembers_70 : decode cX11_remembers 70 = .ok (.ifCond .eq 37, 3) := by decide +kernel
theorem dX11_remembers_73 : decode cX11_remembers 73 = .ok (.aload_n 0, 1) := by decide +kernel
theorem dX11_remembers_74 : decode cX11_remembers 74 = .ok (.getfield 7, 3) := by decide +kernel
theorem dX11_remembers_77 : decode cX11_remembers 77 = .ok (.bipush 103, 2) := by decide +kernel
theorem dX11_remembers_79 : decode cX11_remembers 79 = .ok (.aload_n 0, 1) := by decide +kernel
theorem dX11_remembers_80 : decode cX11_remembers 80 = .ok (.getfield 7, 3) := by decide +kernel
theorem dX11_remembers_83 : decode cX11_remembers 83 = .ok (.bipush 102, 2) := by decide +kernel
theorem dX11_remembers_85 : decode cX11_remembers 85 = .ok (.iaload, 1) := by decide +kernel
theorem dX11_remembers_86 : decode cX11_remembers 86 = .ok (.iadd, 1) := by decide +kernel
theorem dX11_remembers_87 : decode cX11_remembers 87 = .ok (.aload_n 0, 1) := by decide +kernel
theorem dX11_remembers_88 : decode cX11_remembers 88 = .ok (.getfield 7, 3) := by decide +kernel
theorem dX11_remembers_91 : decode cX11_remembers 91 = .ok (.iload_n 2, 1) := by decide +kernel
theorem dX11_remembers_92 : decode cX11_remembers 92 = .ok (.iconst 1, 1) := by decide +kernel
theorem dX11_remembers_93 : decode cX11_remembers 93 = .ok (.iadd, 1) := by decide +kernel
theorem dX11_remembers_94 : decode cX11_remembers 94 = .ok (.iaload, 1) := by decide +kernel
theorem dX11_remembers_95 : decode cX11_remembers 95 = .ok (.iastore, 1) := by decide +kernel
theorem dX11_remembers_96 : decode cX11_remembers 96 = .ok (.aload_n 0, 1) := by decide +kernel
theorem dX11_remembers_97 : decode cX11_remembers 97 = .ok (.getfield 7, 3) := by decide +kernel
theorem dX11_remembers_100 : decode cX11_remembers 100 = .ok (.bipush 102, 2) := by decide +kernel
theorem dX11_remembers_102 : decode cX11_remembers 102 = .ok (.dup2, 1) := by decide +kernel
theorem dX11_remembers_103 : decode cX11_remembers 103 = .ok (.iaload, 1) := by decide +kernel
theorem dX11_remembers_104 : decode cX11_remembers 104 = .ok (.iconst 1, 1) := by decide +kernel
theorem dX11_remembers_105 : decode cX11_remembers 105 = .ok (.iadd, 1) := by decide +kernel
theorem dX11_remembers_106 : decode cX11_remembers 106 = .ok (.iastore, 1) := by decide +kernel
theorem dX11_remembers_107 : decode cX11_remembers 107 = .ok (.iinc 1 1, 3) := by decide +kernel
theorem dX11_remembers_110 : decode cX11_remembers 110 = .ok (.goto (-66), 3) := by decide +kernel
theorem dX11_remembers_113 : decode cX11_remembers 113 = .ok (.return_, 1) := by decide +kernel
theorem dX11_isBetter_0 : decode cX11_isBetter 0 = .ok (.aload_n 0, 1) := by decide +kernel
theorem dX11_isBetter_1 : decode cX11_isBetter 1 = .ok (.getfield 7, 3) := by decide +kernel
theorem dX11_isBetter_4 : decode cX11_isBetter 4 = .ok (.bipush 17, 2) := by decide +kernel
theorem dX11_isBetter_6 : decode cX11_isBetter 6 = .ok (.iaload, 1) := by decide +kernel
theorem dX11_isBetter_7 : decode cX11_isBetter 7 = .ok (.iconst 1, 1) := by decide +kernel
theorem dX11_isBetter_8 : decode cX11_isBetter 8 = .ok (.if_icmp .ne 28, 3) := by decide +kernel
theorem dX11_isBetter_11 : decode cX11_isBetter 11 = .ok (.aload_n 0, 1) := by decide +kernel
theorem dX11_isBetter_12 : decode cX11_isBetter 12 = .ok (.getfield 7, 3) := by decide +kernel
theorem dX11_isBetter_15 : decode cX11_isBetter 15 = .ok (.iload_n 1, 1) := by decide +kernel
theorem dX11_isBetter_16 : decode cX11_isBetter 16 = .ok (.iconst 2, 1) := by decide +kernel
theorem dX11_isBetter_17 : decode cX11_isBetter 17 = .ok (.iadd, 1) := by decide +kernel
theorem dX11_isBetter_18 : decode cX11_isBetter 18 = .ok (.iaload, 1) := by decide +kernel
theorem dX11_isBetter_19 : decode cX11_isBetter 19 = .ok (.aload_n 0, 1) := by decide +kernel
theorem dX11_isBetter_20 : decode cX11_isBetter 20 = .ok (.getfield 7, 3) := by decide +kernel
theorem dX11_isBetter_23 : decode cX11_isBetter 23 = .ok (.iload_n 2, 1) := by decide +kernel
theorem dX11_isBetter_24 : decode cX11_isBetter 24 = .ok (.iconst 2, 1) := by decide +kernel
theorem dX11_isBetter_25 : decode cX11_isBetter 25 = .ok (.iadd, 1) := by decide +kernel
theorem dX11_isBetter_26 : decode cX11_isBetter 26 = .ok (.iaload, 1) := by decide +kernel
theorem dX11_isBetter_27 : decode cX11_isBetter 27 = .ok (.if_icmp .le 7, 3) := by decide +kernel
theorem dX11_isBetter_30 : decode cX11_isBetter 30 = .ok (.iconst 1, 1) := by decide +kernel
theorem dX11_isBetter_31 : decode cX11_isBetter 31 = .ok (.goto 4, 3) := by decide +kernel
theorem dX11_isBetter_34 : decode cX11_isBetter 34 = .ok (.iconst 0, 1) := by decide +kernel
theorem dX11_isBetter_35 : decode cX11_isBetter 35 = .ok (.ireturn, 1) := by decide +kernel
theorem dX11_isBetter_36 : decode cX11_isBetter 36 = .ok (.aload_n 0, 1) := by decide +kernel
theorem dX11_isBetter_37 : decode cX11_isBetter 37 = .ok (.getfield 7, 3) := by decide +kernel
theorem dX11_isBetter_40 : decode cX11_isBetter 40 = .ok (.bipush 17, 2) := by decide +kernel
theorem dX11_isBetter_42 : decode cX11_isBetter 42 = .ok (.iaload, 1) := by decide +kernel
theorem dX11_isBetter_43 : decode cX11_isBetter 43 = .ok (.iconst 2, 1) := by decide +kernel
theorem dX11_isBetter_44 : decode cX11_isBetter 44 = .ok (.if_icmp .ne 57, 3) := by decide +kernel
theorem dX11_isBetter_47 : decode cX11_isBetter 47 = .ok (.aload_n 0, 1) := by decide +kernel
theorem dX11_isBetter_48 : decode cX11_isBetter 48 = .ok (.getfield 7, 3) := by decide +kernel
theorem dX11_isBetter_51 : decode cX11_isBetter 51 = .ok (.bipush 26, 2) := by decide +kernel
theorem dX11_isBetter_53 : decode cX11_isBetter 53 = .ok (.iaload, 1) := by decide +kernel
theorem dX11_isBetter_54 : decode cX11_isBetter 54 = .ok (.iconst (-1), 1) := by decide +kernel
theorem dX11_isBetter_55 : decode cX11_isBetter 55 = .ok (.if_icmp .eq 46, 3) := by decide +kernel
theorem dX11_isBetter_58 : decode cX11_isBetter 58 = .ok (.aload_n 0, 1) := by decide +kernel
theorem dX11_isBetter_59 : decode cX11_isBetter 59 = .ok (.getfield 7, 3) := by decide +kernel
theorem dX11_isBetter_62 : decode cX11_isBetter 62 = .ok (.iload_n 1, 1) := by decide +kernel
theorem dX11_isBetter_63 : decode cX11_isBetter 63 = .ok (.iconst 1, 1) := by decide +kernel
theorem dX11_isBetter_64 : decode cX11_isBetter 64 = .ok (.iadd, 1) := by decide +kernel
theorem dX11_isBetter_65 : decode cX11_isBetter 65 = .ok (.iaload, 1) := by decide +kernel
theorem dX11_isBetter_66 : decode cX11_isBetter 66 = .ok (.aload_n 0, 1) := by decide +kernel
theorem dX11_isBetter_67 : decode cX11_isBetter 67 = .ok (.getfield 7, 3) := by decide +kernel
theorem dX11_isBetter_70 : decode cX11_isBetter 70 = .ok (.bipush 26, 2) := by decide +kernel
theorem dX11_isBetter_72 : decode cX11_isBetter 72 = .ok (.iaload, 1) := by decide +kernel
theorem dX11_isBetter_73 : decode cX11_isBetter 73 = .ok (.invokestatic 83, 3) := by decide +kernel
theorem dX11_isBetter_76 : decode cX11_isBetter 76 = .ok (.aload_n 0, 1) := by decide +kernel
theorem dX11_isBetter_77 : decode cX11_isBetter 77 = .ok (.getfield 7, 3) := by decide +kernel
theorem dX11_isBetter_80 : decode cX11_isBetter 80 = .ok (.iload_n 2, 1) := by decide +kernel
theorem dX11_isBetter_81 : decode cX11_isBetter 81 = .ok (.iconst 1, 1) := by decide +kernel
theorem dX11_isBetter_82 : decode cX11_isBetter 82 = .ok (.iadd, 1) := by decide +kernel
theorem dX11_isBetter_83 : decode cX11_isBetter 83 = .ok (.iaload, 1) := by decide +kernel
theorem dX11_isBetter_84 : decode cX11_isBetter 84 = .ok (.aload_n 0, 1) := by decide +kernel
theorem dX11_isBetter_85 : decode cX11_isBetter 85 = .ok (.getfield 7, 3) := by decide +kernel
theorem dX11_isBetter_88 : decode cX11_isBetter 88 = .ok (.bipush 26, 2) := by decide +kernel
theorem dX11_isBetter_90 : decode cX11_isBetter 90 = .ok (.iaload, 1) := by decide +kernel
theorem dX11_isBetter_91 : decode cX11_isBetter 91 = .ok (.invokestatic 83, 3) := by decide +kernel
theorem dX11_isBetter_94 : decode cX11_isBetter 94 = .ok (.if_icmp .ge 7, 3) := by decide +kernel
theorem dX11_isBetter_97 : decode cX11_isBetter 97 = .ok (.iconst 1, 1) := by decide +kernel
theorem dX11_isBetter_98 : decode cX11_isBetter 98 = .ok (.goto 4, 3) := by decide +kernel
theorem dX11_isBetter_101 : decode cX11_isBetter 101 = .ok (.iconst 0, 1) := by decide +kernel
theorem dX11_isBetter_102 : decode cX11_isBetter 102 = .ok (.ireturn, 1) := by decide +kernel
theorem dX11_picks_0 : decode cX11_picks 0 = .ok (.iconst (-1), 1) := by decide +kernel
theorem dX11_picks_1 : decode cX11_picks 1 = .ok (.istore_n 1, 1) := by decide +kernel
theorem dX11_picks_2 : decode cX11_picks 2 = .ok (.iconst 0, 1) := by decide +kernel
theorem dX11_picks_3 : decode cX11_picks 3 = .ok (.istore_n 2, 1) := by decide +kernel
theorem dX11_picks_4 : decode cX11_picks 4 = .ok (.iload_n 2, 1) := by decide +kernel
theorem dX11_picks_5 : decode cX11_picks 5 = .ok (.aload_n 0, 1) := by decide +kernel
theorem dX11_picks_6 : decode cX11_picks 6 = .ok (.getfield 7, 3) := by decide +kernel
theorem dX11_picks_9 : decode cX11_picks 9 = .ok (.bipush 41, 2) := by decide +kernel
theorem dX11_picks_11 : decode cX11_picks 11 = .ok (.iaload, 1) := by decide +kernel
theorem dX11_picks_12 : decode cX11_picks 12 = .ok (.if_icmp .ge 48, 3) := by decide +kernel
theorem dX11_picks_15 : decode cX11_picks 15 = .ok (.bipush 42, 2) := by decide +kernel
theorem dX11_picks_17 : decode cX11_picks 17 = .ok (.iconst 4, 1) := by decide +kernel
theorem dX11_picks_18 : decode cX11_picks 18 = .ok (.iload_n 2, 1) := by decide +kernel
theorem dX11_picks_19 : decode cX11_picks 19 = .ok (.imul, 1) := by decide +kernel
theorem dX11_picks_20 : decode cX11_picks 20 = .ok (.iadd, 1) := by decide +kernel
theorem dX11_picks_21 : decode cX11_picks 21 = .ok (.istore_n 3, 1) := by decide +kernel
theorem dX11_picks_22 : decode cX11_picks 22 = .ok (.aload_n 0, 1) := by decide +kernel
theorem dX11_picks_23 : decode cX11_picks 23 = .ok (.getfield 7, 3) := by decide +kernel
theorem dX11_picks_26 : decode cX11_picks 26 = .ok (.iload_n 3, 1) := by decide +kernel
theorem dX11_picks_27 : decode cX11_picks 27 = .ok (.iconst 3, 1) := by decide +kernel
theorem dX11_picks_28 : decode cX11_picks 28 = .ok (.iadd, 1) := by decide +kernel
theorem dX11_picks_29 : decode cX11_picks 29 = .ok (.iaload, 1) := by decide +kernel
theorem dX11_picks_30 : decode cX11_picks 30 = .ok (.iconst 1, 1) := by decide +kernel
theorem dX11_picks_31 : decode cX11_picks 31 = .ok (.if_icmp .ne 21, 3) := by decide +kernel
theorem dX11_picks_34 : decode cX11_picks 34 = .ok (.iload_n 1, 1) := by decide +kernel
theorem dX11_picks_35 : decode cX11_picks 35 = .ok (.iconst (-1), 1) := by decide +kernel
theorem dX11_picks_36 : decode cX11_picks 36 = .ok (.if_icmp .eq 12, 3) := by decide +kernel
theorem dX11_picks_39 : decode cX11_picks 39 = .ok (.aload_n 0, 1) := by decide +kernel
theorem dX11_picks_40 : decode cX11_picks 40 = .ok (.iload_n 3, 1) := by decide +kernel
theorem dX11_picks_41 : decode cX11_picks 41 = .ok (.iload_n 1, 1) := by decide +kernel
theorem dX11_picks_42 : decode cX11_picks 42 = .ok (.invokevirtual 97, 3) := by decide +kernel
theorem dX11_picks_45 : decode cX11_picks 45 = .ok (.ifCond .eq 7, 3) := by decide +kernel
theorem dX11_picks_48 : decode cX11_picks 48 = .ok (.iload_n 3, 1) := by decide +kernel
theorem dX11_picks_49 : decode cX11_picks 49 = .ok (.goto 4, 3) := by decide +kernel
theorem dX11_picks_52 : decode cX11_picks 52 = .ok (.iload_n 1, 1) := by decide +kernel
theorem dX11_picks_53 : decode cX11_picks 53 = .ok (.istore_n 1, 1) := by decide +kernel
theorem dX11_picks_54 : decode cX11_picks 54 = .ok (.iinc 2 1, 3) := by decide +kernel
theorem dX11_picks_57 : decode cX11_picks 57 = .ok (.goto (-53), 3) := by decide +kernel
theorem dX11_picks_60 : decode cX11_picks 60 = .ok (.iload_n 1, 1) := by decide +kernel
theorem dX11_picks_61 : decode cX11_picks 61 = .ok (.iconst (-1), 1) := by decide +kernel
theorem dX11_picks_62 : decode cX11_picks 62 = .ok (.if_icmp .ne 5, 3) := by decide +kernel
theorem dX11_picks_65 : decode cX11_picks 65 = .ok (.iconst (-1), 1) := by decide +kernel
theorem dX11_picks_66 : decode cX11_picks 66 = .ok (.ireturn, 1) := by decide +kernel
theorem dX11_picks_67 : decode cX11_picks 67 = .ok (.aload_n 0, 1) := by decide +kernel
theorem dX11_picks_68 : decode cX11_picks 68 = .ok (.getfield 7, 3) := by decide +kernel
theorem dX11_picks_71 : decode cX11_picks 71 = .ok (.iload_n 1, 1) := by decide +kernel
theorem dX11_picks_72 : decode cX11_picks 72 = .ok (.iconst 3, 1) := by decide +kernel
theorem dX11_picks_73 : decode cX11_picks 73 = .ok (.iadd, 1) := by decide +kernel
theorem dX11_picks_74 : decode cX11_picks 74 = .ok (.iconst 5, 1) := by decide +kernel
theorem dX11_picks_75 : decode cX11_picks 75 = .ok (.iastore, 1) := by decide +kernel
theorem dX11_picks_76 : decode cX11_picks 76 = .ok (.aload_n 0, 1) := by decide +kernel
theorem dX11_picks_77 : decode cX11_picks 77 = .ok (.getfield 7, 3) := by decide +kernel
theorem dX11_picks_80 : decode cX11_picks 80 = .ok (.iload_n 1, 1) := by decide +kernel
theorem dX11_picks_81 : decode cX11_picks 81 = .ok (.iconst 1, 1) := by decide +kernel
theorem dX11_picks_82 : decode cX11_picks 82 = .ok (.iadd, 1) := by decide +kernel
theorem dX11_picks_83 : decode cX11_picks 83 = .ok (.iaload, 1) := by decide +kernel
theorem dX11_picks_84 : decode cX11_picks 84 = .ok (.ireturn, 1) := by decide +kernel
theorem dX11_keeps_0 : decode cX11_keeps 0 = .ok (.bipush 8, 2) := by decide +kernel
theorem dX11_keeps_2 : decode cX11_keeps 2 = .ok (.istore_n 2, 1) := by decide +kernel
theorem dX11_keeps_3 : decode cX11_keeps 3 = .ok (.iload_n 2, 1) := by decide +kernel
theorem dX11_keeps_4 : decode cX11_keeps 4 = .ok (.ifCond .le 29, 3) := by decide +kernel
theorem dX11_keeps_7 : decode cX11_keeps 7 = .ok (.aload_n 0, 1) := by decide +kernel
theorem dX11_keeps_8 : decode cX11_keeps 8 = .ok (.getfield 7, 3) := by decide +kernel
theorem dX11_keeps_11 : decode cX11_keeps 11 = .ok (.bipush 32, 2) := by decide +kernel
theorem dX11_keeps_13 : decode cX11_keeps 13 = .ok (.iload_n 2, 1) := by decide +kernel
theorem dX11_keeps_14 : decode cX11_keeps 14 = .ok (.iadd, 1) := by decide +kernel
theorem dX11_keeps_15 : decode cX11_keeps 15 = .ok (.aload_n 0, 1) := by decide +kernel
theorem dX11_keeps_16 : decode cX11_keeps 16 = .ok (.getfield 7, 3) := by decide +kernel
theorem dX11_keeps_19 : decode cX11_keeps 19 = .ok (.bipush 32, 2) := by decide +kernel
theorem dX11_keeps_21 : decode cX11_keeps 21 = .ok (.iload_n 2, 1) := by decide +kernel
theorem dX11_keeps_22 : decode cX11_keeps 22 = .ok (.iadd, 1) := by decide +kernel
theorem dX11_keeps_23 : decode cX11_keeps 23 = .ok (.iconst 1, 1) := by decide +kernel
theorem dX11_keeps_24 : decode cX11_keeps 24 = .ok (.isub, 1) := by decide +kernel
theorem dX11_keeps_25 : decode cX11_keeps 25 = .ok (.iaload, 1) := by decide +kernel
theorem dX11_keeps_26 : decode cX11_keeps 26 = .ok (.iastore, 1) := by decide +kernel
theorem dX11_keeps_27 : decode cX11_keeps 27 = .ok (.iinc 2 (-1), 3) := by decide +kernel
theorem dX11_keeps_30 : decode cX11_keeps 30 = .ok (.goto (-27), 3) := by decide +kernel
theorem dX11_keeps_33 : decode cX11_keeps 33 = .ok (.aload_n 0, 1) := by decide +kernel
theorem dX11_keeps_34 : decode cX11_keeps 34 = .ok (.getfield 7, 3) := by decide +kernel
theorem dX11_keeps_37 : decode cX11_keeps 37 = .ok (.bipush 32, 2) := by decide +kernel
theorem dX11_keeps_39 : decode cX11_keeps 39 = .ok (.iload_n 1, 1) := by decide +kernel
theorem dX11_keeps_40 : decode cX11_keeps 40 = .ok (.iastore, 1) := by decide +kernel
theorem dX11_keeps_41 : decode cX11_keeps 41 = .ok (.aload_n 0, 1) := by decide +kernel
theorem dX11_keeps_42 : decode cX11_keeps 42 = .ok (.getfield 7, 3) := by decide +kernel
theorem dX11_keeps_45 : decode cX11_keeps 45 = .ok (.bipush 31, 2) := by decide +kernel
theorem dX11_keeps_47 : decode cX11_keeps 47 = .ok (.aload_n 0, 1) := by decide +kernel
theorem dX11_keeps_48 : decode cX11_keeps 48 = .ok (.getfield 7, 3) := by decide +kernel
theorem dX11_keeps_51 : decode cX11_keeps 51 = .ok (.bipush 31, 2) := by decide +kernel
theorem dX11_keeps_53 : decode cX11_keeps 53 = .ok (.iaload, 1) := by decide +kernel
theorem dX11_keeps_54 : decode cX11_keeps 54 = .ok (.aload_n 0, 1) := by decide +kernel
theorem dX11_keeps_55 : decode cX11_keeps 55 = .ok (.getfield 7, 3) := by decide +kernel
theorem dX11_keeps_58 : decode cX11_keeps 58 = .ok (.bipush 18, 2) := by decide +kernel
theorem dX11_keeps_60 : decode cX11_keeps 60 = .ok (.iaload, 1) := by decide +kernel
theorem dX11_keeps_61 : decode cX11_keeps 61 = .ok (.if_icmp .ge 15, 3) := by decide +kernel
theorem dX11_keeps_64 : decode cX11_keeps 64 = .ok (.aload_n 0, 1) := by decide +kernel
theorem dX11_keeps_65 : decode cX11_keeps 65 = .ok (.getfield 7, 3) := by decide +kernel
theorem dX11_keeps_68 : decode cX11_keeps 68 = .ok (.bipush 31, 2) := by decide +kernel
theorem dX11_keeps_70 : decode cX11_keeps 70 = .ok (.iaload, 1) := by decide +kernel
theorem dX11_keeps_71 : decode cX11_keeps 71 = .ok (.iconst 1, 1) := by decide +kernel
theorem dX11_keeps_72 : decode cX11_keeps 72 = .ok (.iadd, 1) := by decide +kernel
theorem dX11_keeps_73 : decode cX11_keeps 73 = .ok (.goto 10, 3) := by decide +kernel
theorem dX11_keeps_76 : decode cX11_keeps 76 = .ok (.aload_n 0, 1) := by decide +kernel
theorem dX11_keeps_77 : decode cX11_keeps 77 = .ok (.getfield 7, 3) := by decide +kernel
theorem dX11_keeps_80 : decode cX11_keeps 80 = .ok (.bipush 18, 2) := by decide +kernel
theorem dX11_keeps_82 : decode cX11_keeps 82 = .ok (.iaload, 1) := by decide +kernel
theorem dX11_keeps_83 : decode cX11_keeps 83 = .ok (.iastore, 1) := by decide +kernel
theorem dX11_keeps_84 : decode cX11_keeps 84 = .ok (.return_, 1) := by decide +kernel
theorem dX11_kept_0 : decode cX11_kept 0 = .ok (.iconst 0, 1) := by decide +kernel
theorem dX11_kept_1 : decode cX11_kept 1 = .ok (.istore_n 1, 1) := by decide +kernel
theorem dX11_kept_2 : decode cX11_kept 2 = .ok (.iconst 0, 1) := by decide +kernel
theorem dX11_kept_3 : decode cX11_kept 3 = .ok (.istore_n 2, 1) := by decide +kernel
theorem dX11_kept_4 : decode cX11_kept 4 = .ok (.iload_n 2, 1) := by decide +kernel
theorem dX11_kept_5 : decode cX11_kept 5 = .ok (.aload_n 0, 1) := by decide +kernel
theorem dX11_kept_6 : decode cX11_kept 6 = .ok (.getfield 7, 3) := by decide +kernel
theorem dX11_kept_9 : decode cX11_kept 9 = .ok (.bipush 31, 2) := by decide +kernel
theorem dX11_kept_11 : decode cX11_kept 11 = .ok (.iaload, 1) := by decide +kernel
theorem dX11_kept_12 : decode cX11_kept 12 = .ok (.if_icmp .ge 30, 3) := by decide +kernel
theorem dX11_kept_15 : decode cX11_kept 15 = .ok (.iload_n 1, 1) := by decide +kernel
theorem dX11_kept_16 : decode cX11_kept 16 = .ok (.aload_n 0, 1) := by decide +kernel
theorem dX11_kept_17 : decode cX11_kept 17 = .ok (.getfield 7, 3) := by decide +kernel
theorem dX11_kept_20 : decode cX11_kept 20 = .ok (.bipush 32, 2) := by decide +kernel
theorem dX11_kept_22 : decode cX11_kept 22 = .ok (.iload_n 2, 1) := by decide +kernel
theorem dX11_kept_23 : decode cX11_kept 23 = .ok (.iadd, 1) := by decide +kernel
theorem dX11_kept_24 : decode cX11_kept 24 = .ok (.iaload, 1) := by decide +kernel
theorem dX11_kept_25 : decode cX11_kept 25 = .ok (.iconst (-1), 1) := by decide +kernel
theorem dX11_kept_26 : decode cX11_kept 26 = .ok (.if_icmp .eq 7, 3) := by decide +kernel
theorem dX11_kept_29 : decode cX11_kept 29 = .ok (.iconst 1, 1) := by decide +kernel
theorem dX11_kept_30 : decode cX11_kept 30 = .ok (.goto 4, 3) := by decide +kernel
theorem dX11_kept_33 : decode cX11_kept 33 = .ok (.iconst 0, 1) := by decide +kernel
theorem dX11_kept_34 : decode cX11_kept 34 = .ok (.iadd, 1) := by decide +kernel
theorem dX11_kept_35 : decode cX11_kept 35 = .ok (.istore_n 1, 1) := by decide +kernel
theorem dX11_kept_36 : decode cX11_kept 36 = .ok (.iinc 2 1, 3) := by decide +kernel
theorem dX11_kept_39 : decode cX11_kept 39 = .ok (.goto (-35), 3) := by decide +kernel
theorem dX11_kept_42 : decode cX11_kept 42 = .ok (.iload_n 1, 1) := by decide +kernel
theorem dX11_kept_43 : decode cX11_kept 43 = .ok (.ireturn, 1) := by decide +kernel
theorem dX11_median_0 : decode cX11_median 0 = .ok (.aload_n 0, 1) := by decide +kernel
theorem dX11_median_1 : decode cX11_median 1 = .ok (.invokevirtual 100, 3) := by decide +kernel
theorem dX11_median_4 : decode cX11_median 4 = .ok (.istore_n 1, 1) := by decide +kernel
theorem dX11_median_5 : decode cX11_median 5 = .ok (.iconst 2, 1) := by decide +kernel
theorem dX11_median_6 : decode cX11_median 6 = .ok (.iload_n 1, 1) := by decide +kernel
theorem dX11_median_7 : decode cX11_median 7 = .ok (.imul, 1) := by decide +kernel
theorem dX11_median_8 : decode cX11_median 8 = .ok (.aload_n 0, 1) := by decide +kernel
theorem dX11_median_9 : decode cX11_median 9 = .ok (.getfield 7, 3) := by decide +kernel
theorem dX11_median_12 : decode cX11_median 12 = .ok (.bipush 18, 2) := by decide +kernel
theorem dX11_median_14 : decode cX11_median 14 = .ok (.iaload, 1) := by decide +kernel
theorem dX11_median_15 : decode cX11_median 15 = .ok (.if_icmp .ge 5, 3) := by decide +kernel
theorem dX11_median_18 : decode cX11_median 18 = .ok (.iconst (-1), 1) := by decide +kernel
theorem dX11_median_19 : decode cX11_median 19 = .ok (.ireturn, 1) := by decide +kernel
theorem dX11_median_20 : decode cX11_median 20 = .ok (.iconst 0, 1) := by decide +kernel
theorem dX11_median_21 : decode cX11_median 21 = .ok (.istore_n 2, 1) := by decide +kernel
theorem dX11_median_22 : decode cX11_median 22 = .ok (.iload_n 2, 1) := by decide +kernel
theorem dX11_median_23 : decode cX11_median 23 = .ok (.aload_n 0, 1) := by decide +kernel
theorem dX11_median_24 : decode cX11_median 24 = .ok (.getfield 7, 3) := by decide +kernel
theorem dX11_median_27 : decode cX11_median 27 = .ok (.bipush 31, 2) := by decide +kernel
theorem dX11_median_29 : decode cX11_median 29 = .ok (.iaload, 1) := by decide +kernel
theorem dX11_median_30 : decode cX11_median 30 = .ok (.if_icmp .ge 156, 3) := by decide +kernel
theorem dX11_median_33 : decode cX11_median 33 = .ok (.iconst 0, 1) := by decide +kernel
theorem dX11_median_34 : decode cX11_median 34 = .ok (.istore_n 3, 1) := by decide +kernel
theorem dX11_median_35 : decode cX11_median 35 = .ok (.iconst 0, 1) := by decide +kernel
theorem dX11_median_36 : decode cX11_median 36 = .ok (.istore 4, 2) := by decide +kernel
theorem dX11_median_38 : decode cX11_median 38 = .ok (.iconst 0, 1) := by decide +kernel
theorem dX11_median_39 : decode cX11_median 39 = .ok (.istore 5, 2) := by decide +kernel
theorem dX11_median_41 : decode cX11_median 41 = .ok (.iload 5, 2) := by decide +kernel
theorem dX11_median_43 : decode cX11_median 43 = .ok (.aload_n 0, 1) := by decide +kernel
theorem dX11_median_44 : decode cX11_median 44 = .ok (.getfield 7, 3) := by decide +kernel
theorem dX11_median_47 : decode cX11_median 47 = .ok (.bipush 31, 2) := by decide +kernel
theorem dX11_median_49 : decode cX11_median 49 = .ok (.iaload, 1) := by decide +kernel
theorem dX11_median_50 : decode cX11_median 50 = .ok (.if_icmp .ge 85, 3) := by decide +kernel
theorem dX11_median_53 : decode cX11_median 53 = .ok (.iload_n 3, 1) := by decide +kernel
theorem dX11_median_54 : decode cX11_median 54 = .ok (.aload_n 0, 1) := by decide +kernel
theorem dX11_median_55 : decode cX11_median 55 = .ok (.getfield 7, 3) := by decide +kernel
theorem dX11_median_58 : decode cX11_median 58 = .ok (.bipush 32, 2) := by decide +kernel
theorem dX11_median_60 : decode cX11_median 60 = .ok (.iload 5, 2) := by decide +kernel
theorem dX11_median_62 : decode cX11_median 62 = .ok (.iadd, 1) := by decide +kernel
theorem dX11_median_63 : decode cX11_median 63 = .ok (.iaload, 1) := by decide +kernel
theorem dX11_median_64 : decode cX11_median 64 = .ok (.iconst (-1), 1) := by decide +kernel
theorem dX11_median_65 : decode cX11_median 65 = .ok (.if_icmp .eq 29, 3) := by decide +kernel
theorem dX11_median_68 : decode cX11_median 68 = .ok (.aload_n 0, 1) := by decide +kernel
theorem dX11_median_69 : decode cX11_median 69 = .ok (.getfield 7, 3) := by decide +kernel
theorem dX11_median_72 : decode cX11_median 72 = .ok (.bipush 32, 2) := by decide +kernel
theorem dX11_median_74 : decode cX11_median 74 = .ok (.iload 5, 2) := by decide +kernel
theorem dX11_median_76 : decode cX11_median 76 = .ok (.iadd, 1) := by decide +kernel
theorem dX11_median_77 : decode cX11_median 77 = .ok (.iaload, 1) := by decide +kernel
theorem dX11_median_78 : decode cX11_median 78 = .ok (.aload_n 0, 1) := by decide +kernel
theorem dX11_median_79 : decode cX11_median 79 = .ok (.getfield 7, 3) := by decide +kernel
theorem dX11_median_82 : decode cX11_median 82 = .ok (.bipush 32, 2) := by decide +kernel
theorem dX11_median_84 : decode cX11_median 84 = .ok (.iload_n 2, 1) := by decide +kernel
theorem dX11_median_85 : decode cX11_median 85 = .ok (.iadd, 1) := by decide +kernel
theorem dX11_median_86 : decode cX11_median 86 = .ok (.iaload, 1) := by decide +kernel
theorem dX11_median_87 : decode cX11_median 87 = .ok (.if_icmp .ge 7, 3) := by decide +kernel
theorem dX11_median_90 : decode cX11_median 90 = .ok (.iconst 1, 1) := by decide +kernel
theorem dX11_median_91 : decode cX11_median 91 = .ok (.goto 4, 3) := by decide +kernel
theorem dX11_median_94 : decode cX11_median 94 = .ok (.iconst 0, 1) := by decide +kernel
theorem dX11_median_95 : decode cX11_median 95 = .ok (.iadd, 1) := by decide +kernel
theorem dX11_median_96 : decode cX11_median 96 = .ok (.istore_n 3, 1) := by decide +kernel
theorem dX11_median_97 : decode cX11_median 97 = .ok (.iload 4, 2) := by decide +kernel
theorem dX11_median_99 : decode cX11_median 99 = .ok (.aload_n 0, 1) := by decide +kernel
theorem dX11_median_100 : decode cX11_median 100 = .ok (.getfield 7, 3) := by decide +kernel
theorem dX11_median_103 : decode cX11_median 103 = .ok (.bipush 32, 2) := by decide +kernel
theorem dX11_median_105 : decode cX11_median 105 = .ok (.iload 5, 2) := by decide +kernel
theorem dX11_median_107 : decode cX11_median 107 = .ok (.iadd, 1) := by decide +kernel
theorem dX11_median_108 : decode cX11_median 108 = .ok (.iaload, 1) := by decide +kernel
theorem dX11_median_109 : decode cX11_median 109 = .ok (.aload_n 0, 1) := by decide +kernel
theorem dX11_median_110 : decode cX11_median 110 = .ok (.getfield 7, 3) := by decide +kernel
theorem dX11_median_113 : decode cX11_median 113 = .ok (.bipush 32, 2) := by decide +kernel
theorem dX11_median_115 : decode cX11_median 115 = .ok (.iload_n 2, 1) := by decide +kernel
theorem dX11_median_116 : decode cX11_median 116 = .ok (.iadd, 1) := by decide +kernel
theorem dX11_median_117 : decode cX11_median 117 = .ok (.iaload, 1) := by decide +kernel
theorem dX11_median_118 : decode cX11_median 118 = .ok (.if_icmp .ne 7, 3) := by decide +kernel
theorem dX11_median_121 : decode cX11_median 121 = .ok (.iconst 1, 1) := by decide +kernel
theorem dX11_median_122 : decode cX11_median 122 = .ok (.goto 4, 3) := by decide +kernel
theorem dX11_median_125 : decode cX11_median 125 = .ok (.iconst 0, 1) := by decide +kernel
theorem dX11_median_126 : decode cX11_median 126 = .ok (.iadd, 1) := by decide +kernel
theorem dX11_median_127 : decode cX11_median 127 = .ok (.istore 4, 2) := by decide +kernel
theorem dX11_median_129 : decode cX11_median 129 = .ok (.iinc 5 1, 3) := by decide +kernel
theorem dX11_median_132 : decode cX11_median 132 = .ok (.goto (-91), 3) := by decide +kernel
theorem dX11_median_135 : decode cX11_median 135 = .ok (.iload_n 1, 1) := by decide +kernel
theorem dX11_median_136 : decode cX11_median 136 = .ok (.iconst 1, 1) := by decide +kernel
theorem dX11_median_137 : decode cX11_median 137 = .ok (.isub, 1) := by decide +kernel
theorem dX11_median_138 : decode cX11_median 138 = .ok (.iconst 2, 1) := by decide +kernel
theorem dX11_median_139 : decode cX11_median 139 = .ok (.idiv, 1) := by decide +kernel
theorem dX11_median_140 : decode cX11_median 140 = .ok (.istore 5, 2) := by decide +kernel
theorem dX11_median_142 : decode cX11_median 142 = .ok (.aload_n 0, 1) := by decide +kernel
theorem dX11_median_143 : decode cX11_median 143 = .ok (.getfield 7, 3) := by decide +kernel
theorem dX11_median_146 : decode cX11_median 146 = .ok (.bipush 32, 2) := by decide +kernel
theorem dX11_median_148 : decode cX11_median 148 = .ok (.iload_n 2, 1) := by decide +kernel
theorem dX11_median_149 : decode cX11_median 149 = .ok (.iadd, 1) := by decide +kernel
theorem dX11_median_150 : decode cX11_median 150 = .ok (.iaload, 1) := by decide +kernel
theorem dX11_median_151 : decode cX11_median 151 = .ok (.iconst (-1), 1) := by decide +kernel
theorem dX11_median_152 : decode cX11_median 152 = .ok (.if_icmp .eq 28, 3) := by decide +kernel
theorem dX11_median_155 : decode cX11_median 155 = .ok (.iload_n 3, 1) := by decide +kernel
theorem dX11_median_156 : decode cX11_median 156 = .ok (.iload 5, 2) := by decide +kernel
theorem dX11_median_158 : decode cX11_median 158 = .ok (.if_icmp .gt 22, 3) := by decide +kernel
theorem dX11_median_161 : decode cX11_median 161 = .ok (.iload 5, 2) := by decide +kernel
theorem dX11_median_163 : decode cX11_median 163 = .ok (.iload_n 3, 1) := by decide +kernel
theorem dX11_median_164 : decode cX11_median 164 = .ok (.iload 4, 2) := by decide +kernel
theorem dX11_median_166 : decode cX11_median 166 = .ok (.iadd, 1) := by decide +kernel
theorem dX11_median_167 : decode cX11_median 167 = .ok (.if_icmp .ge 13, 3) := by decide +kernel
theorem dX11_median_170 : decode cX11_median 170 = .ok (.aload_n 0, 1) := by decide +kernel
theorem dX11_median_171 : decode cX11_median 171 = .ok (.getfield 7, 3) := by decide +kernel
theorem dX11_median_174 : decode cX11_median 174 = .ok (.bipush 32, 2) := by decide +kernel
theorem dX11_median_176 : decode cX11_median 176 = .ok (.iload_n 2, 1) := by decide +kernel
theorem dX11_median_177 : decode cX11_median 177 = .ok (.iadd, 1) := by decide +kernel
theorem dX11_median_178 : decode cX11_median 178 = .ok (.iaload, 1) := by decide +kernel
theorem dX11_median_179 : decode cX11_median 179 = .ok (.ireturn, 1) := by decide +kernel
theorem dX11_median_180 : decode cX11_median 180 = .ok (.iinc 2 1, 3) := by decide +kernel
theorem dX11_median_183 : decode cX11_median 183 = .ok (.goto (-161), 3) := by decide +kernel
theorem dX11_median_186 : decode cX11_median 186 = .ok (.iconst (-1), 1) := by decide +kernel
theorem dX11_median_187 : decode cX11_median 187 = .ok (.ireturn, 1) := by decide +kernel
theorem dX11_tells_0 : decode cX11_tells 0 = .ok (.aload_n 0, 1) := by decide +kernel
theorem dX11_tells_1 : decode cX11_tells 1 = .ok (.invokevirtual 103, 3) := by decide +kernel
theorem dX11_tells_4 : decode cX11_tells 4 = .ok (.istore_n 1, 1) := by decide +kernel
theorem dX11_tells_5 : decode cX11_tells 5 = .ok (.iload_n 1, 1) := by decide +kernel
theorem dX11_tells_6 : decode cX11_tells 6 = .ok (.iconst (-1), 1) := by decide +kernel
theorem dX11_tells_7 : decode cX11_tells 7 = .ok (.if_icmp .ne 64, 3) := by decide +kernel
theorem dX11_tells_10 : decode cX11_tells 10 = .ok (.aload_n 0, 1) := by decide +kernel
theorem dX11_tells_11 : decode cX11_tells 11 = .ok (.getfield 7, 3) := by decide +kernel
theorem dX11_tells_14 : decode cX11_tells 14 = .ok (.bipush 27, 2) := by decide +kernel
theorem dX11_tells_16 : decode cX11_tells 16 = .ok (.dup2, 1) := by decide +kernel
theorem dX11_tells_17 : decode cX11_tells 17 = .ok (.iaload, 1) := by decide +kernel
theorem dX11_tells_18 : decode cX11_tells 18 = .ok (.iconst 1, 1) := by decide +kernel
theorem dX11_tells_19 : decode cX11_tells 19 = .ok (.iadd, 1) := by decide +kernel
theorem dX11_tells_20 : decode cX11_tells 20 = .ok (.iastore, 1) := by decide +kernel
theorem dX11_tells_21 : decode cX11_tells 21 = .ok (.aload_n 0, 1) := by decide +kernel
theorem dX11_tells_22 : decode cX11_tells 22 = .ok (.getfield 7, 3) := by decide +kernel
theorem dX11_tells_25 : decode cX11_tells 25 = .ok (.bipush 27, 2) := by decide +kernel
theorem dX11_tells_27 : decode cX11_tells 27 = .ok (.iaload, 1) := by decide +kernel
theorem dX11_tells_28 : decode cX11_tells 28 = .ok (.aload_n 0, 1) := by decide +kernel
theorem dX11_tells_29 : decode cX11_tells 29 = .ok (.getfield 7, 3) := by decide +kernel
theorem dX11_tells_32 : decode cX11_tells 32 = .ok (.bipush 20, 2) := by decide +kernel
theorem dX11_tells_34 : decode cX11_tells 34 = .ok (.iaload, 1) := by decide +kernel
theorem dX11_tells_35 : decode cX11_tells 35 = .ok (.if_icmp .ne 35, 3) := by decide +kernel
theorem dX11_tells_38 : decode cX11_tells 38 = .ok (.aload_n 0, 1) := by decide +kernel
theorem dX11_tells_39 : decode cX11_tells 39 = .ok (.getfield 7, 3) := by decide +kernel
theorem dX11_tells_42 : decode cX11_tells 42 = .ok (.bipush 26, 2) := by decide +kernel
theorem dX11_tells_44 : decode cX11_tells 44 = .ok (.iconst (-1), 1) := by decide +kernel
theorem dX11_tells_45 : decode cX11_tells 45 = .ok (.iastore, 1) := by decide +kernel
theorem dX11_tells_46 : decode cX11_tells 46 = .ok (.iconst 0, 1) := by decide +kernel
theorem dX11_tells_47 : decode cX11_tells 47 = .ok (.istore_n 2, 1) := by decide +kernel
theorem dX11_tells_48 : decode cX11_tells 48 = .ok (.iload_n 2, 1) := by decide +kernel
theorem dX11_tells_49 : decode cX11_tells 49 = .ok (.bipush 9, 2) := by decide +kernel
theorem dX11_tells_51 : decode cX11_tells 51 = .ok (.if_icmp .ge 19, 3) := by decide +kernel
theorem dX11_tells_54 : decode cX11_tells 54 = .ok (.aload_n 0, 1) := by decide +kernel
theorem dX11_tells_55 : decode cX11_tells 55 = .ok (.getfield 7, 3) := by decide +kernel
theorem dX11_tells_58 : decode cX11_tells 58 = .ok (.bipush 32, 2) := by decide +kernel
theorem dX11_tells_60 : decode cX11_tells 60 = .ok (.iload_n 2, 1) := by decide +kernel
theorem dX11_tells_61 : decode cX11_tells 61 = .ok (.iadd, 1) := by decide +kernel
theorem dX11_tells_62 : decode cX11_tells 62 = .ok (.iconst (-1), 1) := by decide +kernel
theorem dX11_tells_63 : decode cX11_tells 63 = .ok (.iastore, 1) := by decide +kernel
theorem dX11_tells_64 : decode cX11_tells 64 = .ok (.iinc 2 1, 3) := by decide +kernel
theorem dX11_tells_67 : decode cX11_tells 67 = .ok (.goto (-19), 3) := by decide +kernel
theorem dX11_tells_70 : decode cX11_tells 70 = .ok (.return_, 1) := by decide +kernel
theorem dX11_tells_71 : decode cX11_tells 71 = .ok (.aload_n 0, 1) := by decide +kernel
theorem dX11_tells_72 : decode cX11_tells 72 = .ok (.getfield 7, 3) := by decide +kernel
theorem dX11_tells_75 : decode cX11_tells 75 = .ok (.bipush 27, 2) := by decide +kernel
theorem dX11_tells_77 : decode cX11_tells 77 = .ok (.iconst 0, 1) := by decide +kernel
theorem dX11_tells_78 : decode cX11_tells 78 = .ok (.iastore, 1) := by decide +kernel
theorem dX11_tells_79 : decode cX11_tells 79 = .ok (.aload_n 0, 1) := by decide +kernel
theorem dX11_tells_80 : decode cX11_tells 80 = .ok (.getfield 7, 3) := by decide +kernel
theorem dX11_tells_83 : decode cX11_tells 83 = .ok (.bipush 26, 2) := by decide +kernel
theorem dX11_tells_85 : decode cX11_tells 85 = .ok (.iaload, 1) := by decide +kernel
theorem dX11_tells_86 : decode cX11_tells 86 = .ok (.iconst (-1), 1) := by decide +kernel
theorem dX11_tells_87 : decode cX11_tells 87 = .ok (.if_icmp .ne 7, 3) := by decide +kernel
theorem dX11_tells_90 : decode cX11_tells 90 = .ok (.iload_n 1, 1) := by decide +kernel
theorem dX11_tells_91 : decode cX11_tells 91 = .ok (.goto 28, 3) := by decide +kernel
theorem dX11_tells_94 : decode cX11_tells 94 = .ok (.aload_n 0, 1) := by decide +kernel
theorem dX11_tells_95 : decode cX11_tells 95 = .ok (.getfield 7, 3) := by decide +kernel
theorem dX11_tells_98 : decode cX11_tells 98 = .ok (.bipush 26, 2) := by decide +kernel
theorem dX11_tells_100 : decode cX11_tells 100 = .ok (.iaload, 1) := by decide +kernel
theorem dX11_tells_101 : decode cX11_tells 101 = .ok (.iload_n 1, 1) := by decide +kernel
theorem dX11_tells_102 : decode cX11_tells 102 = .ok (.aload_n 0, 1) := by decide +kernel
theorem dX11_tells_103 : decode cX11_tells 103 = .ok (.getfield 7, 3) := by decide +kernel
theorem dX11_tells_106 : decode cX11_tells 106 = .ok (.bipush 26, 2) := by decide +kernel
theorem dX11_tells_108 : decode cX11_tells 108 = .ok (.iaload, 1) := by decide +kernel
theorem dX11_tells_109 : decode cX11_tells 109 = .ok (.isub, 1) := by decide +kernel
theorem dX11_tells_110 : decode cX11_tells 110 = .ok (.aload_n 0, 1) := by decide +kernel
theorem dX11_tells_111 : decode cX11_tells 111 = .ok (.getfield 7, 3) := by decide +kernel
theorem dX11_tells_114 : decode cX11_tells 114 = .ok (.bipush 19, 2) := by decide +kernel
theorem dX11_tells_116 : decode cX11_tells 116 = .ok (.iaload, 1) := by decide +kernel
theorem dX11_tells_117 : decode cX11_tells 117 = .ok (.idiv, 1) := by decide +kernel
theorem dX11_tells_118 : decode cX11_tells 118 = .ok (.iadd, 1) := by decide +kernel
theorem dX11_tells_119 : decode cX11_tells 119 = .ok (.istore_n 2, 1) := by decide +kernel
theorem dX11_tells_120 : decode cX11_tells 120 = .ok (.aload_n 0, 1) := by decide +kernel
theorem dX11_tells_121 : decode cX11_tells 121 = .ok (.getfield 7, 3) := by decide +kernel
theorem dX11_tells_124 : decode cX11_tells 124 = .ok (.bipush 26, 2) := by decide +kernel
theorem dX11_tells_126 : decode cX11_tells 126 = .ok (.iload_n 2, 1) := by decide +kernel
theorem dX11_tells_127 : decode cX11_tells 127 = .ok (.aload_n 0, 1) := by decide +kernel
theorem dX11_tells_128 : decode cX11_tells 128 = .ok (.getfield 7, 3) := by decide +kernel
theorem dX11_tells_131 : decode cX11_tells 131 = .ok (.bipush 26, 2) := by decide +kernel
theorem dX11_tells_133 : decode cX11_tells 133 = .ok (.iaload, 1) := by decide +kernel
theorem dX11_tells_134 : decode cX11_tells 134 = .ok (.if_icmp .ne 7, 3) := by decide +kernel
theorem dX11_tells_137 : decode cX11_tells 137 = .ok (.iload_n 1, 1) := by decide +kernel
theorem dX11_tells_138 : decode cX11_tells 138 = .ok (.goto 4, 3) := by decide +kernel
theorem dX11_tells_141 : decode cX11_tells 141 = .ok (.iload_n 2, 1) := by decide +kernel
theorem dX11_tells_142 : decode cX11_tells 142 = .ok (.iastore, 1) := by decide +kernel
theorem dX11_tells_143 : decode cX11_tells 143 = .ok (.return_, 1) := by decide +kernel
theorem dX11_alarms_0 : decode cX11_alarms 0 = .ok (.aload_n 0, 1) := by decide +kernel
theorem dX11_alarms_1 : decode cX11_alarms 1 = .ok (.getfield 7, 3) := by decide +kernel
theorem dX11_alarms_4 : decode cX11_alarms 4 = .ok (.bipush 28, 2) := by decide +kernel
theorem dX11_alarms_6 : decode cX11_alarms 6 = .ok (.iaload, 1) := by decide +kernel
theorem dX11_alarms_7 : decode cX11_alarms 7 = .ok (.istore_n 1, 1) := by decide +kernel
theorem dX11_alarms_8 : decode cX11_alarms 8 = .ok (.aload_n 0, 1) := by decide +kernel
theorem dX11_alarms_9 : decode cX11_alarms 9 = .ok (.getfield 7, 3) := by decide +kernel
theorem dX11_alarms_12 : decode cX11_alarms 12 = .ok (.iconst 0, 1) := by decide +kernel
theorem dX11_alarms_13 : decode cX11_alarms 13 = .ok (.iaload, 1) := by decide +kernel
theorem dX11_alarms_14 : decode cX11_alarms 14 = .ok (.aload_n 0, 1) := by decide +kernel
theorem dX11_alarms_15 : decode cX11_alarms 15 = .ok (.getfield 7, 3) := by decide +kernel
theorem dX11_alarms_18 : decode cX11_alarms 18 = .ok (.bipush 26, 2) := by decide +kernel
theorem dX11_alarms_20 : decode cX11_alarms 20 = .ok (.iaload, 1) := by decide +kernel
theorem dX11_alarms_21 : decode cX11_alarms 21 = .ok (.isub, 1) := by decide +kernel
theorem dX11_alarms_22 : decode cX11_alarms 22 = .ok (.istore_n 2, 1) := by decide +kernel
theorem dX11_alarms_23 : decode cX11_alarms 23 = .ok (.aload_n 0, 1) := by decide +kernel
theorem dX11_alarms_24 : decode cX11_alarms 24 = .ok (.getfield 7, 3) := by decide +kernel
theorem dX11_alarms_27 : decode cX11_alarms 27 = .ok (.bipush 26, 2) := by decide +kernel
theorem dX11_alarms_29 : decode cX11_alarms 29 = .ok (.iaload, 1) := by decide +kernel
theorem dX11_alarms_30 : decode cX11_alarms 30 = .ok (.iconst (-1), 1) := by decide +kernel
theorem dX11_alarms_31 : decode cX11_alarms 31 = .ok (.if_icmp .ne 14, 3) := by decide +kernel
theorem dX11_alarms_34 : decode cX11_alarms 34 = .ok (.aload_n 0, 1) := by decide +kernel
theorem dX11_alarms_35 : decode cX11_alarms 35 = .ok (.getfield 7, 3) := by decide +kernel
theorem dX11_alarms_38 : decode cX11_alarms 38 = .ok (.bipush 28, 2) := by decide +kernel
theorem dX11_alarms_40 : decode cX11_alarms 40 = .ok (.iconst 0, 1) := by decide +kernel
theorem dX11_alarms_41 : decode cX11_alarms 41 = .ok (.iastore, 1) := by decide +kernel
theorem dX11_alarms_42 : decode cX11_alarms 42 = .ok (.goto 103, 3) := by decide +kernel
theorem dX11_alarms_45 : decode cX11_alarms 45 = .ok (.iload_n 2, 1) := by decide +kernel
theorem dX11_alarms_46 : decode cX11_alarms 46 = .ok (.aload_n 0, 1) := by decide +kernel
theorem dX11_alarms_47 : decode cX11_alarms 47 = .ok (.getfield 7, 3) := by decide +kernel
theorem dX11_alarms_50 : decode cX11_alarms 50 = .ok (.bipush 21, 2) := by decide +kernel
theorem dX11_alarms_52 : decode cX11_alarms 52 = .ok (.iaload, 1) := by decide +kernel
theorem dX11_alarms_53 : decode cX11_alarms 53 = .ok (.if_icmp .gt 14, 3) := by decide +kernel
theorem dX11_alarms_56 : decode cX11_alarms 56 = .ok (.aload_n 0, 1) := by decide +kernel
theorem dX11_alarms_57 : decode cX11_alarms 57 = .ok (.getfield 7, 3) := by decide +kernel
theorem dX11_alarms_60 : decode cX11_alarms 60 = .ok (.bipush 28, 2) := by decide +kernel
theorem dX11_alarms_62 : decode cX11_alarms 62 = .ok (.iconst 1, 1) := by decide +kernel
theorem dX11_alarms_63 : decode cX11_alarms 63 = .ok (.iastore, 1) := by decide +kernel
theorem dX11_alarms_64 : decode cX11_alarms 64 = .ok (.goto 81, 3) := by decide +kernel
theorem dX11_alarms_67 : decode cX11_alarms 67 = .ok (.iload_n 2, 1) := by decide +kernel
theorem dX11_alarms_68 : decode cX11_alarms 68 = .ok (.aload_n 0, 1) := by decide +kernel
theorem dX11_alarms_69 : decode cX11_alarms 69 = .ok (.getfield 7, 3) := by decide +kernel
theorem dX11_alarms_72 : decode cX11_alarms 72 = .ok (.bipush 22, 2) := by decide +kernel
theorem dX11_alarms_74 : decode cX11_alarms 74 = .ok (.iaload, 1) := by decide +kernel
theorem dX11_alarms_75 : decode cX11_alarms 75 = .ok (.if_icmp .lt 14, 3) := by decide +kernel
theorem dX11_alarms_78 : decode cX11_alarms 78 = .ok (.aload_n 0, 1) := by decide +kernel
theorem dX11_alarms_79 : decode cX11_alarms 79 = .ok (.getfield 7, 3) := by decide +kernel
theorem dX11_alarms_82 : decode cX11_alarms 82 = .ok (.bipush 28, 2) := by decide +kernel
theorem dX11_alarms_84 : decode cX11_alarms 84 = .ok (.iconst 2, 1) := by decide +kernel
theorem dX11_alarms_85 : decode cX11_alarms 85 = .ok (.iastore, 1) := by decide +kernel
theorem dX11_alarms_86 : decode cX11_alarms 86 = .ok (.goto 59, 3) := by decide +kernel
theorem dX11_alarms_89 : decode cX11_alarms 89 = .ok (.iload_n 1, 1) := by decide +kernel
theorem dX11_alarms_90 : decode cX11_alarms 90 = .ok (.iconst 1, 1) := by decide +kernel
theorem dX11_alarms_91 : decode cX11_alarms 91 = .ok (.if_icmp .ne 22, 3) := by decide +kernel
theorem dX11_alarms_94 : decode cX11_alarms 94 = .ok (.iload_n 2, 1) := by decide +kernel
theorem dX11_alarms_95 : decode cX11_alarms 95 = .ok (.aload_n 0, 1) := by decide +kernel
theorem dX11_alarms_96 : decode cX11_alarms 96 = .ok (.getfield 7, 3) := by decide +kernel
theorem dX11_alarms_99 : decode cX11_alarms 99 = .ok (.bipush 21, 2) := by decide +kernel
theorem dX11_alarms_101 : decode cX11_alarms 101 = .ok (.iaload, 1) := by decide +kernel
theorem dX11_alarms_102 : decode cX11_alarms 102 = .ok (.aload_n 0, 1) := by decide +kernel
theorem dX11_alarms_103 : decode cX11_alarms 103 = .ok (.getfield 7, 3) := by decide +kernel
theorem dX11_alarms_106 : decode cX11_alarms 106 = .ok (.bipush 23, 2) := by decide +kernel
theorem dX11_alarms_108 : decode cX11_alarms 108 = .ok (.iaload, 1) := by decide +kernel
theorem dX11_alarms_109 : decode cX11_alarms 109 = .ok (.iadd, 1) := by decide +kernel
theorem dX11_alarms_110 : decode cX11_alarms 110 = .ok (.if_icmp .gt 27, 3) := by decide +kernel
theorem dX11_alarms_113 : decode cX11_alarms 113 = .ok (.iload_n 1, 1) := by decide +kernel
theorem dX11_alarms_114 : decode cX11_alarms 114 = .ok (.iconst 2, 1) := by decide +kernel
theorem dX11_alarms_115 : decode cX11_alarms 115 = .ok (.if_icmp .ne 30, 3) := by decide +kernel
theorem dX11_alarms_118 : decode cX11_alarms 118 = .ok (.iload_n 2, 1) := by decide +kernel
theorem dX11_alarms_119 : decode cX11_alarms 119 = .ok (.aload_n 0, 1) := by decide +kernel
theorem dX11_alarms_120 : decode cX11_alarms 120 = .ok (.getfield 7, 3) := by decide +kernel
theorem dX11_alarms_123 : decode cX11_alarms 123 = .ok (.bipush 22, 2) := by decide +kernel
theorem dX11_alarms_125 : decode cX11_alarms 125 = .ok (.iaload, 1) := by decide +kernel
theorem dX11_alarms_126 : decode cX11_alarms 126 = .ok (.aload_n 0, 1) := by decide +kernel
theorem dX11_alarms_127 : decode cX11_alarms 127 = .ok (.getfield 7, 3) := by decide +kernel
theorem dX11_alarms_130 : decode cX11_alarms 130 = .ok (.bipush 23, 2) := by decide +kernel
theorem dX11_alarms_132 : decode cX11_alarms 132 = .ok (.iaload, 1) := by decide +kernel
theorem dX11_alarms_133 : decode cX11_alarms 133 = .ok (.isub, 1) := by decide +kernel
theorem dX11_alarms_134 : decode cX11_alarms 134 = .ok (.if_icmp .ge 11, 3) := by decide +kernel
theorem dX11_alarms_137 : decode cX11_alarms 137 = .ok (.aload_n 0, 1) := by decide +kernel
theorem dX11_alarms_138 : decode cX11_alarms 138 = .ok (.getfield 7, 3) := by decide +kernel
theorem dX11_alarms_141 : decode cX11_alarms 141 = .ok (.bipush 28, 2) := by decide +kernel
theorem dX11_alarms_143 : decode cX11_alarms 143 = .ok (.iconst 0, 1) := by decide +kernel
theorem dX11_alarms_144 : decode cX11_alarms 144 = .ok (.iastore, 1) := by decide +kernel
theorem dX11_alarms_145 : decode cX11_alarms 145 = .ok (.aload_n 0, 1) := by decide +kernel
theorem dX11_alarms_146 : decode cX11_alarms 146 = .ok (.getfield 7, 3) := by decide +kernel
theorem dX11_alarms_149 : decode cX11_alarms 149 = .ok (.bipush 30, 2) := by decide +kernel
theorem dX11_alarms_151 : decode cX11_alarms 151 = .ok (.dup2, 1) := by decide +kernel
theorem dX11_alarms_152 : decode cX11_alarms 152 = .ok (.iaload, 1) := by decide +kernel
theorem dX11_alarms_153 : decode cX11_alarms 153 = .ok (.aload_n 0, 1) := by decide +kernel
theorem dX11_alarms_154 : decode cX11_alarms 154 = .ok (.getfield 7, 3) := by decide +kernel
theorem dX11_alarms_157 : decode cX11_alarms 157 = .ok (.bipush 28, 2) := by decide +kernel
theorem dX11_alarms_159 : decode cX11_alarms 159 = .ok (.iaload, 1) := by decide +kernel
theorem dX11_alarms_160 : decode cX11_alarms 160 = .ok (.ifCond .eq 18, 3) := by decide +kernel
theorem dX11_alarms_163 : decode cX11_alarms 163 = .ok (.aload_n 0, 1) := by decide +kernel
theorem dX11_alarms_164 : decode cX11_alarms 164 = .ok (.getfield 7, 3) := by decide +kernel
theorem dX11_alarms_167 : decode cX11_alarms 167 = .ok (.bipush 28, 2) := by decide +kernel
theorem dX11_alarms_169 : decode cX11_alarms 169 = .ok (.iaload, 1) := by decide +kernel
theorem dX11_alarms_170 : decode cX11_alarms 170 = .ok (.iload_n 1, 1) := by decide +kernel
theorem dX11_alarms_171 : decode cX11_alarms 171 = .ok (.if_icmp .eq 7, 3) := by decide +kernel
theorem dX11_alarms_174 : decode cX11_alarms 174 = .ok (.iconst 1, 1) := by decide +kernel
theorem dX11_alarms_175 : decode cX11_alarms 175 = .ok (.goto 4, 3) := by decide +kernel
theorem dX11_alarms_178 : decode cX11_alarms 178 = .ok (.iconst 0, 1) := by decide +kernel
theorem dX11_alarms_179 : decode cX11_alarms 179 = .ok (.iadd, 1) := by decide +kernel
theorem dX11_alarms_180 : decode cX11_alarms 180 = .ok (.iastore, 1) := by decide +kernel
theorem dX11_alarms_181 : decode cX11_alarms 181 = .ok (.return_, 1) := by decide +kernel
theorem dX11_shot_0 : decode cX11_shot 0 = .ok (.aload_n 0, 1) := by decide +kernel
theorem dX11_shot_1 : decode cX11_shot 1 = .ok (.invokevirtual 106, 3) := by decide +kernel
theorem dX11_shot_4 : decode cX11_shot 4 = .ok (.aload_n 0, 1) := by decide +kernel
theorem dX11_shot_5 : decode cX11_shot 5 = .ok (.invokevirtual 109, 3) := by decide +kernel
theorem dX11_shot_8 : decode cX11_shot 8 = .ok (.aload_n 0, 1) := by decide +kernel
theorem dX11_shot_9 : decode cX11_shot 9 = .ok (.invokevirtual 112, 3) := by decide +kernel
theorem dX11_shot_12 : decode cX11_shot 12 = .ok (.aload_n 0, 1) := by decide +kernel
theorem dX11_shot_13 : decode cX11_shot 13 = .ok (.invokevirtual 115, 3) := by decide +kernel
theorem dX11_shot_16 : decode cX11_shot 16 = .ok (.istore_n 1, 1) := by decide +kernel
theorem dX11_shot_17 : decode cX11_shot 17 = .ok (.aload_n 0, 1) := by decide +kernel
theorem dX11_shot_18 : decode cX11_shot 18 = .ok (.getfield 7, 3) := by decide +kernel
theorem dX11_shot_21 : decode cX11_shot 21 = .ok (.bipush 24, 2) := by decide +kernel
theorem dX11_shot_23 : decode cX11_shot 23 = .ok (.dup2, 1) := by decide +kernel
theorem dX11_shot_24 : decode cX11_shot 24 = .ok (.iaload, 1) := by decide +kernel
theorem dX11_shot_25 : decode cX11_shot 25 = .ok (.iconst 1, 1) := by decide +kernel
theorem dX11_shot_26 : decode cX11_shot 26 = .ok (.iadd, 1) := by decide +kernel
theorem dX11_shot_27 : decode cX11_shot 27 = .ok (.iastore, 1) := by decide +kernel
theorem dX11_shot_28 : decode cX11_shot 28 = .ok (.aload_n 0, 1) := by decide +kernel
theorem dX11_shot_29 : decode cX11_shot 29 = .ok (.getfield 7, 3) := by decide +kernel
theorem dX11_shot_32 : decode cX11_shot 32 = .ok (.bipush 25, 2) := by decide +kernel
theorem dX11_shot_34 : decode cX11_shot 34 = .ok (.dup2, 1) := by decide +kernel
theorem dX11_shot_35 : decode cX11_shot 35 = .ok (.iaload, 1) := by decide +kernel
theorem dX11_shot_36 : decode cX11_shot 36 = .ok (.iload_n 1, 1) := by decide +kernel
theorem dX11_shot_37 : decode cX11_shot 37 = .ok (.iconst (-1), 1) := by decide +kernel
theorem dX11_shot_38 : decode cX11_shot 38 = .ok (.if_icmp .eq 7, 3) := by decide +kernel
theorem dX11_shot_41 : decode cX11_shot 41 = .ok (.iconst 1, 1) := by decide +kernel
theorem dX11_shot_42 : decode cX11_shot 42 = .ok (.goto 4, 3) := by decide +kernel
theorem dX11_shot_45 : decode cX11_shot 45 = .ok (.iconst 0, 1) := by decide +kernel
theorem dX11_shot_46 : decode cX11_shot 46 = .ok (.iadd, 1) := by decide +kernel
theorem dX11_shot_47 : decode cX11_shot 47 = .ok (.iastore, 1) := by decide +kernel
theorem dX11_shot_48 : decode cX11_shot 48 = .ok (.aload_n 0, 1) := by decide +kernel
theorem dX11_shot_49 : decode cX11_shot 49 = .ok (.iload_n 1, 1) := by decide +kernel
theorem dX11_shot_50 : decode cX11_shot 50 = .ok (.invokevirtual 118, 3) := by decide +kernel
theorem dX11_shot_53 : decode cX11_shot 53 = .ok (.aload_n 0, 1) := by decide +kernel
theorem dX11_shot_54 : decode cX11_shot 54 = .ok (.invokevirtual 121, 3) := by decide +kernel
theorem dX11_shot_57 : decode cX11_shot 57 = .ok (.aload_n 0, 1) := by decide +kernel
theorem dX11_shot_58 : decode cX11_shot 58 = .ok (.invokevirtual 124, 3) := by decide +kernel
theorem dX11_shot_61 : decode cX11_shot 61 = .ok (.iload_n 1, 1) := by decide +kernel
theorem dX11_shot_62 : decode cX11_shot 62 = .ok (.iconst (-1), 1) := by decide +kernel
theorem dX11_shot_63 : decode cX11_shot 63 = .ok (.if_icmp .eq 7, 3) := by decide +kernel
theorem dX11_shot_66 : decode cX11_shot 66 = .ok (.iconst 1, 1) := by decide +kernel
theorem dX11_shot_67 : decode cX11_shot 67 = .ok (.goto 4, 3) := by decide +kernel
theorem dX11_shot_70 : decode cX11_shot 70 = .ok (.iconst 0, 1) := by decide +kernel
theorem dX11_shot_71 : decode cX11_shot 71 = .ok (.ireturn, 1) := by decide +kernel
theorem dX11_canBegin_0 : decode cX11_canBegin 0 = .ok (.iload_n 1, 1) := by decide +kernel
theorem dX11_canBegin_1 : decode cX11_canBegin 1 = .ok (.sipush 500, 3) := by decide +kernel
theorem dX11_canBegin_4 : decode cX11_canBegin 4 = .ok (.sipush 10000, 3) := by decide +kernel
theorem dX11_canBegin_7 : decode cX11_canBegin 7 = .ok (.invokestatic 89, 3) := by decide +kernel
theorem dX11_canBegin_10 : decode cX11_canBegin 10 = .ok (.ireturn, 1) := by decide +kernel
theorem dX11_begin_0 : decode cX11_begin 0 = .ok (.aload_n 0, 1) := by decide +kernel
theorem dX11_begin_1 : decode cX11_begin 1 = .ok (.aload_n 0, 1) := by decide +kernel
theorem dX11_begin_2 : decode cX11_begin 2 = .ok (.iload_n 1, 1) := by decide +kernel
theorem dX11_begin_3 : decode cX11_begin 3 = .ok (.invokevirtual 127, 3) := by decide +kernel
theorem dX11_begin_6 : decode cX11_begin 6 = .ok (.iconst 1, 1) := by decide +kernel
theorem dX11_begin_7 : decode cX11_begin 7 = .ok (.invokevirtual 37, 3) := by decide +kernel
theorem dX11_begin_10 : decode cX11_begin 10 = .ok (.ifCond .ne 5, 3) := by decide +kernel
theorem dX11_begin_13 : decode cX11_begin 13 = .ok (.iconst 0, 1) := by decide +kernel
theorem dX11_begin_14 : decode cX11_begin 14 = .ok (.ireturn, 1) := by decide +kernel
theorem dX11_begin_15 : decode cX11_begin 15 = .ok (.aload_n 0, 1) := by decide +kernel
theorem dX11_begin_16 : decode cX11_begin 16 = .ok (.invokevirtual 130, 3) := by decide +kernel
theorem dX11_begin_19 : decode cX11_begin 19 = .ok (.aload_n 0, 1) := by decide +kernel
theorem dX11_begin_20 : decode cX11_begin 20 = .ok (.getfield 7, 3) := by decide +kernel
theorem dX11_begin_23 : decode cX11_begin 23 = .ok (.bipush 24, 2) := by decide +kernel
theorem dX11_begin_25 : decode cX11_begin 25 = .ok (.iaload, 1) := by decide +kernel
theorem dX11_begin_26 : decode cX11_begin 26 = .ok (.istore_n 2, 1) := by decide +kernel
theorem dX11_begin_27 : decode cX11_begin 27 = .ok (.aload_n 0, 1) := by decide +kernel
theorem dX11_begin_28 : decode cX11_begin 28 = .ok (.iload_n 1, 1) := by decide +kernel
theorem dX11_begin_29 : decode cX11_begin 29 = .ok (.invokevirtual 26, 3) := by decide +kernel
theorem dX11_begin_32 : decode cX11_begin 32 = .ok (.iload_n 2, 1) := by decide +kernel
theorem dX11_begin_33 : decode cX11_begin 33 = .ok (.ireturn, 1) := by decide +kernel
theorem dX11_put_0 : decode cX11_put 0 = .ok (.aload_n 0, 1) := by decide +kernel
theorem dX11_put_1 : decode cX11_put 1 = .ok (.invokevirtual 130, 3) := by decide +kernel
theorem dX11_put_4 : decode cX11_put 4 = .ok (.aload_n 0, 1) := by decide +kernel
theorem dX11_put_5 : decode cX11_put 5 = .ok (.getfield 7, 3) := by decide +kernel
theorem dX11_put_8 : decode cX11_put 8 = .ok (.iload_n 1, 1) := by decide +kernel
theorem dX11_put_9 : decode cX11_put 9 = .ok (.iaload, 1) := by decide +kernel
theorem dX11_put_10 : decode cX11_put 10 = .ok (.istore_n 3, 1) := by decide +kernel
theorem dX11_put_11 : decode cX11_put 11 = .ok (.aload_n 0, 1) := by decide +kernel
theorem dX11_put_12 : decode cX11_put 12 = .ok (.getfield 7, 3) := by decide +kernel
theorem dX11_put_15 : decode cX11_put 15 = .ok (.iload_n 1, 1) := by decide +kernel
theorem dX11_put_16 : decode cX11_put 16 = .ok (.iload_n 2, 1) := by decide +kernel
theorem dX11_put_17 : decode cX11_put 17 = .ok (.iastore, 1) := by decide +kernel
theorem dX11_put_18 : decode cX11_put 18 = .ok (.iload_n 3, 1) := by decide +kernel
theorem dX11_put_19 : decode cX11_put 19 = .ok (.ireturn, 1) := by decide +kernel
theorem dX11_canLevel_0 : decode cX11_canLevel 0 = .ok (.iload_n 1, 1) := by decide +kernel
theorem dX11_canLevel_1 : decode cX11_canLevel 1 = .ok (.iconst 0, 1) := by decide +kernel
theorem dX11_canLevel_2 : decode cX11_canLevel 2 = .ok (.aload_n 0, 1) := by decide +kernel
theorem dX11_canLevel_3 : decode cX11_canLevel 3 = .ok (.getfield 7, 3) := by decide +kernel
theorem dX11_canLevel_6 : decode cX11_canLevel 6 = .ok (.iconst 0, 1) := by decide +kernel
theorem dX11_canLevel_7 : decode cX11_canLevel 7 = .ok (.iaload, 1) := by decide +kernel
theorem dX11_canLevel_8 : decode cX11_canLevel 8 = .ok (.invokestatic 89, 3) := by decide +kernel
theorem dX11_canLevel_11 : decode cX11_canLevel 11 = .ok (.ireturn, 1) := by decide +kernel
theorem dX11_setLevel_0 : decode cX11_setLevel 0 = .ok (.aload_n 0, 1) := by decide +kernel
theorem dX11_setLevel_1 : decode cX11_setLevel 1 = .ok (.aload_n 0, 1) := by decide +kernel
theorem dX11_setLevel_2 : decode cX11_setLevel 2 = .ok (.iload_n 1, 1) := by decide +kernel
theorem dX11_setLevel_3 : decode cX11_setLevel 3 = .ok (.invokevirtual 133, 3) := by decide +kernel
theorem dX11_setLevel_6 : decode cX11_setLevel 6 = .ok (.iconst 1, 1) := by decide +kernel
theorem dX11_setLevel_7 : decode cX11_setLevel 7 = .ok (.invokevirtual 37, 3) := by decide +kernel
theorem dX11_setLevel_10 : decode cX11_setLevel 10 = .ok (.ifCond .eq 12, 3) := by decide +kernel
theorem dX11_setLevel_13 : decode cX11_setLevel 13 = .ok (.aload_n 0, 1) := by decide +kernel
theorem dX11_setLevel_14 : decode cX11_setLevel 14 = .ok (.iconst 1, 1) := by decide +kernel
theorem dX11_setLevel_15 : decode cX11_setLevel 15 = .ok (.iload_n 1, 1) := by decide +kernel
theorem dX11_setLevel_16 : decode cX11_setLevel 16 = .ok (.invokevirtual 136, 3) := by decide +kernel
theorem dX11_setLevel_19 : decode cX11_setLevel 19 = .ok (.goto 4, 3) := by decide +kernel
theorem dX11_setLevel_22 : decode cX11_setLevel 22 = .ok (.iconst 0, 1) := by decide +kernel
theorem dX11_setLevel_23 : decode cX11_setLevel 23 = .ok (.ireturn, 1) := by decide +kernel
theorem dX11_canFlow_0 : decode cX11_canFlow 0 = .ok (.iload_n 1, 1) := by decide +kernel
theorem dX11_canFlow_1 : decode cX11_canFlow 1 = .ok (.sipush (-200), 3) := by decide +kernel
theorem dX11_canFlow_4 : decode cX11_canFlow 4 = .ok (.sipush 200, 3) := by decide +kernel
theorem dX11_canFlow_7 : decode cX11_canFlow 7 = .ok (.invokestatic 89, 3) := by decide +kernel
theorem dX11_canFlow_10 : decode cX11_canFlow 10 = .ok (.ireturn, 1) := by decide +kernel
theorem dX11_setFlow_0 : decode cX11_setFlow 0 = .ok (.aload_n 0, 1) := by decide +kernel
theorem dX11_setFlow_1 : decode cX11_setFlow 1 = .ok (.aload_n 0, 1) := by decide +kernel
theorem dX11_setFlow_2 : decode cX11_setFlow 2 = .ok (.iload_n 1, 1) := by decide +kernel
theorem dX11_setFlow_3 : decode cX11_setFlow 3 = .ok (.invokevirtual 139, 3) := by decide +kernel
theorem dX11_setFlow_6 : decode cX11_setFlow 6 = .ok (.iconst 1, 1) := by decide +kernel
theorem dX11_setFlow_7 : decode cX11_setFlow 7 = .ok (.invokevirtual 37, 3) := by decide +kernel
theorem dX11_setFlow_10 : decode cX11_setFlow 10 = .ok (.ifCond .eq 12, 3) := by decide +kernel
theorem dX11_setFlow_13 : decode cX11_setFlow 13 = .ok (.aload_n 0, 1) := by decide +kernel
theorem dX11_setFlow_14 : decode cX11_setFlow 14 = .ok (.iconst 2, 1) := by decide +kernel
theorem dX11_setFlow_15 : decode cX11_setFlow 15 = .ok (.iload_n 1, 1) := by decide +kernel
theorem dX11_setFlow_16 : decode cX11_setFlow 16 = .ok (.invokevirtual 136, 3) := by decide +kernel
theorem dX11_setFlow_19 : decode cX11_setFlow 19 = .ok (.goto 4, 3) := by decide +kernel
theorem dX11_setFlow_22 : decode cX11_setFlow 22 = .ok (.iconst 0, 1) := by decide +kernel
theorem dX11_setFlow_23 : decode cX11_setFlow 23 = .ok (.ireturn, 1) := by decide +kernel
theorem dX11_canFoam_0 : decode cX11_canFoam 0 = .ok (.iload_n 1, 1) := by decide +kernel
theorem dX11_canFoam_1 : decode cX11_canFoam 1 = .ok (.iconst 0, 1) := by decide +kernel
theorem dX11_canFoam_2 : decode cX11_canFoam 2 = .ok (.sipush 500, 3) := by decide +kernel
theorem dX11_canFoam_5 : decode cX11_canFoam 5 = .ok (.invokestatic 89, 3) := by decide +kernel
theorem dX11_canFoam_8 : decode cX11_canFoam 8 = .ok (.ireturn, 1) := by decide +kernel
theorem dX11_setFoam_0 : decode cX11_setFoam 0 = .ok (.aload_n 0, 1) := by decide +kernel
theorem dX11_setFoam_1 : decode cX11_setFoam 1 = .ok (.aload_n 0, 1) := by decide +kernel
theorem dX11_setFoam_2 : decode cX11_setFoam 2 = .ok (.iload_n 1, 1) := by decide +kernel
theorem dX11_setFoam_3 : decode cX11_setFoam 3 = .ok (.invokevirtual 142, 3) := by decide +kernel
theorem dX11_setFoam_6 : decode cX11_setFoam 6 = .ok (.iconst 1, 1) := by decide +kernel
theorem dX11_setFoam_7 : decode cX11_setFoam 7 = .ok (.invokevirtual 37, 3) := by decide +kernel
theorem dX11_setFoam_10 : decode cX11_setFoam 10 = .ok (.ifCond .eq 12, 3) := by decide +kernel
theorem dX11_setFoam_13 : decode cX11_setFoam 13 = .ok (.aload_n 0, 1) := by decide +kernel
theorem dX11_setFoam_14 : decode cX11_setFoam 14 = .ok (.iconst 3, 1) := by decide +kernel
theorem dX11_setFoam_15 : decode cX11_setFoam 15 = .ok (.iload_n 1, 1) := by decide +kernel
theorem dX11_setFoam_16 : decode cX11_setFoam 16 = .ok (.invokevirtual 136, 3) := by decide +kernel
theorem dX11_setFoam_19 : decode cX11_setFoam 19 = .ok (.goto 4, 3) := by decide +kernel
theorem dX11_setFoam_22 : decode cX11_setFoam 22 = .ok (.iconst 0, 1) := by decide +kernel
theorem dX11_setFoam_23 : decode cX11_setFoam 23 = .ok (.ireturn, 1) := by decide +kernel
theorem dX11_canThing_0 : decode cX11_canThing 0 = .ok (.iload_n 1, 1) := by decide +kernel
theorem dX11_canThing_1 : decode cX11_canThing 1 = .ok (.iconst 0, 1) := by decide +kernel
theorem dX11_canThing_2 : decode cX11_canThing 2 = .ok (.sipush 10000, 3) := by decide +kernel
theorem dX11_canThing_5 : decode cX11_canThing 5 = .ok (.invokestatic 89, 3) := by decide +kernel
theorem dX11_canThing_8 : decode cX11_canThing 8 = .ok (.ifCond .eq 17, 3) := by decide +kernel
theorem dX11_canThing_11 : decode cX11_canThing 11 = .ok (.iload_n 2, 1) := by decide +kernel
theorem dX11_canThing_12 : decode cX11_canThing 12 = .ok (.iconst 1, 1) := by decide +kernel
theorem dX11_canThing_13 : decode cX11_canThing 13 = .ok (.bipush 100, 2) := by decide +kernel
theorem dX11_canThing_15 : decode cX11_canThing 15 = .ok (.invokestatic 89, 3) := by decide +kernel
theorem dX11_canThing_18 : decode cX11_canThing 18 = .ok (.ifCond .eq 7, 3) := by decide +kernel
theorem dX11_canThing_21 : decode cX11_canThing 21 = .ok (.iconst 1, 1) := by decide +kernel
theorem dX11_canThing_22 : decode cX11_canThing 22 = .ok (.goto 4, 3) := by decide +kernel
theorem dX11_canThing_25 : decode cX11_canThing 25 = .ok (.iconst 0, 1) := by decide +kernel
theorem dX11_canThing_26 : decode cX11_canThing 26 = .ok (.ireturn, 1) := by decide +kernel
theorem dX11_adds_0 : decode cX11_adds 0 = .ok (.aload_n 0, 1) := by decide +kernel
theorem dX11_adds_1 : decode cX11_adds 1 = .ok (.getfield 7, 3) := by decide +kernel
theorem dX11_adds_4 : decode cX11_adds 4 = .ok (.sipush 134, 3) := by decide +kernel
theorem dX11_adds_7 : decode cX11_adds 7 = .ok (.iconst 2, 1) := by decide +kernel
theorem dX11_adds_8 : decode cX11_adds 8 = .ok (.aload_n 0, 1) := by decide +kernel
theorem dX11_adds_9 : decode cX11_adds 9 = .ok (.getfield 7, 3) := by decide +kernel
theorem dX11_adds_12 : decode cX11_adds 12 = .ok (.iconst 4, 1) := by decide +kernel
theorem dX11_adds_13 : decode cX11_adds 13 = .ok (.iaload, 1) := by decide +kernel
theorem dX11_adds_14 : decode cX11_adds 14 = .ok (.imul, 1) := by decide +kernel
theorem dX11_adds_15 : decode cX11_adds 15 = .ok (.iadd, 1) := by decide +kernel
theorem dX11_adds_16 : decode cX11_adds 16 = .ok (.iload_n 1, 1) := by decide +kernel
theorem dX11_adds_17 : decode cX11_adds 17 = .ok (.iastore, 1) := by decide +kernel
theorem dX11_adds_18 : decode cX11_adds 18 = .ok (.aload_n 0, 1) := by decide +kernel
theorem dX11_adds_19 : decode cX11_adds 19 = .ok (.getfield 7, 3) := by decide +kernel
theorem dX11_adds_22 : decode cX11_adds 22 = .ok (.sipush 134, 3) := by decide +kernel
theorem dX11_adds_25 : decode cX11_adds 25 = .ok (.iconst 2, 1) := by decide +kernel
theorem dX11_adds_26 : decode cX11_adds 26 = .ok (.aload_n 0, 1) := by decide +kernel
theorem dX11_adds_27 : decode cX11_adds 27 = .ok (.getfield 7, 3) := by decide +kernel
theorem dX11_adds_30 : decode cX11_adds 30 = .ok (.iconst 4, 1) := by decide +kernel
theorem dX11_adds_31 : decode cX11_adds 31 = .ok (.iaload, 1) := by decide +kernel
theorem dX11_adds_32 : decode cX11_adds 32 = .ok (.imul, 1) := by decide +kernel
theorem dX11_adds_33 : decode cX11_adds 33 = .ok (.iadd, 1) := by decide +kernel
theorem dX11_adds_34 : decode cX11_adds 34 = .ok (.iconst 1, 1) := by decide +kernel
theorem dX11_adds_35 : decode cX11_adds 35 = .ok (.iadd, 1) := by decide +kernel
theorem dX11_adds_36 : decode cX11_adds 36 = .ok (.iload_n 2, 1) := by decide +kernel
theorem dX11_adds_37 : decode cX11_adds 37 = .ok (.iastore, 1) := by decide +kernel
theorem dX11_adds_38 : decode cX11_adds 38 = .ok (.aload_n 0, 1) := by decide +kernel
theorem dX11_adds_39 : decode cX11_adds 39 = .ok (.getfield 7, 3) := by decide +kernel
theorem dX11_adds_42 : decode cX11_adds 42 = .ok (.iconst 4, 1) := by decide +kernel
theorem dX11_adds_43 : decode cX11_adds 43 = .ok (.dup2, 1) := by decide +kernel
theorem dX11_adds_44 : decode cX11_adds 44 = .ok (.iaload, 1) := by decide +kernel
theorem dX11_adds_45 : decode cX11_adds 45 = .ok (.iconst 1, 1) := by decide +kernel
theorem dX11_adds_46 : decode cX11_adds 46 = .ok (.iadd, 1) := by decide +kernel
theorem dX11_adds_47 : decode cX11_adds 47 = .ok (.iastore, 1) := by decide +kernel
theorem dX11_adds_48 : decode cX11_adds 48 = .ok (.return_, 1) := by decide +kernel
theorem dX11_addThing_0 : decode cX11_addThing 0 = .ok (.aload_n 0, 1) := by decide +kernel
theorem dX11_addThing_1 : decode cX11_addThing 1 = .ok (.aload_n 0, 1) := by decide +kernel
theorem dX11_addThing_2 : decode cX11_addThing 2 = .ok (.iload_n 1, 1) := by decide +kernel
theorem dX11_addThing_3 : decode cX11_addThing 3 = .ok (.iload_n 2, 1) := by decide +kernel
theorem dX11_addThing_4 : decode cX11_addThing 4 = .ok (.invokevirtual 145, 3) := by decide +kernel
theorem dX11_addThing_7 : decode cX11_addThing 7 = .ok (.iconst 1, 1) := by decide +kernel
theorem dX11_addThing_8 : decode cX11_addThing 8 = .ok (.invokevirtual 37, 3) := by decide +kernel
theorem dX11_addThing_11 : decode cX11_addThing 11 = .ok (.ifCond .eq 27, 3) := by decide +kernel
theorem dX11_addThing_14 : decode cX11_addThing 14 = .ok (.aload_n 0, 1) := by decide +kernel
theorem dX11_addThing_15 : decode cX11_addThing 15 = .ok (.aload_n 0, 1) := by decide +kernel
theorem dX11_addThing_16 : decode cX11_addThing 16 = .ok (.getfield 7, 3) := by decide +kernel
theorem dX11_addThing_19 : decode cX11_addThing 19 = .ok (.iconst 4, 1) := by decide +kernel
theorem dX11_addThing_20 : decode cX11_addThing 20 = .ok (.iaload, 1) := by decide +kernel
theorem dX11_addThing_21 : decode cX11_addThing 21 = .ok (.bipush 6, 2) := by decide +kernel
theorem dX11_addThing_23 : decode cX11_addThing 23 = .ok (.if_icmp .ge 7, 3) := by decide +kernel
theorem dX11_addThing_26 : decode cX11_addThing 26 = .ok (.iconst 1, 1) := by decide +kernel
theorem dX11_addThing_27 : decode cX11_addThing 27 = .ok (.goto 4, 3) := by decide +kernel
theorem dX11_addThing_30 : decode cX11_addThing 30 = .ok (.iconst 0, 1) := by decide +kernel
theorem dX11_addThing_31 : decode cX11_addThing 31 = .ok (.iconst 2, 1) := by decide +kernel
theorem dX11_addThing_32 : decode cX11_addThing 32 = .ok (.invokevirtual 37, 3) := by decide +kernel
theorem dX11_addThing_35 : decode cX11_addThing 35 = .ok (.ifCond .ne 5, 3) := by decide +kernel
theorem dX11_addThing_38 : decode cX11_addThing 38 = .ok (.iconst 0, 1) := by decide +kernel
theorem dX11_addThing_39 : decode cX11_addThing 39 = .ok (.ireturn, 1) := by decide +kernel
theorem dX11_addThing_40 : decode cX11_addThing 40 = .ok (.aload_n 0, 1) := by decide +kernel
theorem dX11_addThing_41 : decode cX11_addThing 41 = .ok (.invokevirtual 130, 3) := by decide +kernel
theorem dX11_addThing_44 : decode cX11_addThing 44 = .ok (.aload_n 0, 1) := by decide +kernel
theorem dX11_addThing_45 : decode cX11_addThing 45 = .ok (.iload_n 1, 1) := by decide +kernel
theorem dX11_addThing_46 : decode cX11_addThing 46 = .ok (.iload_n 2, 1) := by decide +kernel
theorem dX11_addThing_47 : decode cX11_addThing 47 = .ok (.invokevirtual 148, 3) := by decide +kernel
theorem dX11_addThing_50 : decode cX11_addThing 50 = .ok (.aload_n 0, 1) := by decide +kernel
theorem dX11_addThing_51 : decode cX11_addThing 51 = .ok (.getfield 7, 3) := by decide +kernel
theorem dX11_addThing_54 : decode cX11_addThing 54 = .ok (.iconst 4, 1) := by decide +kernel
theorem dX11_addThing_55 : decode cX11_addThing 55 = .ok (.iaload, 1) := by decide +kernel
theorem dX11_addThing_56 : decode cX11_addThing 56 = .ok (.iconst 1, 1) := by decide +kernel
theorem dX11_addThing_57 : decode cX11_addThing 57 = .ok (.isub, 1) := by decide +kernel
theorem dX11_addThing_58 : decode cX11_addThing 58 = .ok (.ireturn, 1) := by decide +kernel
theorem dX11_isThing_0 : decode cX11_isThing 0 = .ok (.iload_n 1, 1) := by decide +kernel
theorem dX11_isThing_1 : decode cX11_isThing 1 = .ok (.iconst 0, 1) := by decide +kernel
theorem dX11_isThing_2 : decode cX11_isThing 2 = .ok (.aload_n 0, 1) := by decide +kernel
theorem dX11_isThing_3 : decode cX11_isThing 3 = .ok (.getfield 7, 3) := by decide +kernel
theorem dX11_isThing_6 : decode cX11_isThing 6 = .ok (.iconst 4, 1) := by decide +kernel
theorem dX11_isThing_7 : decode cX11_isThing 7 = .ok (.iaload, 1) := by decide +kernel
theorem dX11_isThing_8 : decode cX11_isThing 8 = .ok (.iconst 1, 1) := by decide +kernel
theorem dX11_isThing_9 : decode cX11_isThing 9 = .ok (.isub, 1) := by decide +kernel
theorem dX11_isThing_10 : decode cX11_isThing 10 = .ok (.invokestatic 89, 3) := by decide +kernel
theorem dX11_isThing_13 : decode cX11_isThing 13 = .ok (.ireturn, 1) := by decide +kernel
theorem dX11_removeThing_0 : decode cX11_removeThing 0 = .ok (.aload_n 0, 1) := by decide +kernel
theorem dX11_removeThing_1 : decode cX11_removeThing 1 = .ok (.aload_n 0, 1) := by decide +kernel
theorem dX11_removeThing_2 : decode cX11_removeThing 2 = .ok (.iload_n 1, 1) := by decide +kernel
theorem dX11_removeThing_3 : decode cX11_removeThing 3 = .ok (.invokevirtual 152, 3) := by decide +kernel
theorem dX11_removeThing_6 : decode cX11_removeThing 6 = .ok (.iconst 1, 1) := by decide +kernel
theorem dX11_removeThing_7 : decode cX11_removeThing 7 = .ok (.invokevirtual 37, 3) := by decide +kernel
theorem dX11_removeThing_10 : decode cX11_removeThing 10 = .ok (.ifCond .ne 5, 3) := by decide +kernel
theorem dX11_removeThing_13 : decode cX11_removeThing 13 = .ok (.iconst 0, 1) := by decide +kernel
theorem dX11_removeThing_14 : decode cX11_removeThing 14 = .ok (.ireturn, 1) := by decide +kernel
theorem dX11_removeThing_15 : decode cX11_removeThing 15 = .ok (.aload_n 0, 1) := by decide +kernel
theorem dX11_removeThing_16 : decode cX11_removeThing 16 = .ok (.invokevirtual 130, 3) := by decide +kernel
theorem dX11_removeThing_19 : decode cX11_removeThing 19 = .ok (.aload_n 0, 1) := by decide +kernel
theorem dX11_removeThing_20 : decode cX11_removeThing 20 = .ok (.getfield 7, 3) := by decide +kernel
theorem dX11_removeThing_23 : decode cX11_removeThing 23 = .ok (.iconst 4, 1) := by decide +kernel
theorem dX11_removeThing_24 : decode cX11_removeThing 24 = .ok (.dup2, 1) := by decide +kernel
theorem dX11_removeThing_25 : decode cX11_removeThing 25 = .ok (.iaload, 1) := by decide +kernel
theorem dX11_removeThing_26 : decode cX11_removeThing 26 = .ok (.iconst 1, 1) := by decide +kernel
theorem dX11_removeThing_27 : decode cX11_removeThing 27 = .ok (.isub, 1) := by decide +kernel
theorem dX11_removeThing_28 : decode cX11_removeThing 28 = .ok (.iastore, 1) := by decide +kernel
theorem dX11_removeThing_29 : decode cX11_removeThing 29 = .ok (.sipush 134, 3) := by decide +kernel
theorem dX11_removeThing_32 : decode cX11_removeThing 32 = .ok (.iconst 2, 1) := by decide +kernel
theorem dX11_removeThing_33 : decode cX11_removeThing 33 = .ok (.iload_n 1, 1) := by decide +kernel
theorem dX11_removeThing_34 : decode cX11_removeThing 34 = .ok (.imul, 1) := by decide +kernel
theorem dX11_removeThing_35 : decode cX11_removeThing 35 = .ok (.iadd, 1) := by decide +kernel
theorem dX11_removeThing_36 : decode cX11_removeThing 36 = .ok (.istore_n 2, 1) := by decide +kernel
theorem dX11_removeThing_37 : decode cX11_removeThing 37 = .ok (.iload_n 2, 1) := by decide +kernel
theorem dX11_removeThing_38 : decode cX11_removeThing 38 = .ok (.sipush 134, 3) := by decide +kernel
theorem dX11_removeThing_41 : decode cX11_removeThing 41 = .ok (.iconst 2, 1) := by decide +kernel
theorem dX11_removeThing_42 : decode cX11_removeThing 42 = .ok (.aload_n 0, 1) := by decide +kernel
theorem dX11_removeThing_43 : decode cX11_removeThing 43 = .ok (.getfield 7, 3) := by decide +kernel
theorem dX11_removeThing_46 : decode cX11_removeThing 46 = .ok (.iconst 4, 1) := by decide +kernel
theorem dX11_removeThing_47 : decode cX11_removeThing 47 = .ok (.iaload, 1) := by decide +kernel
theorem dX11_removeThing_48 : decode cX11_removeThing 48 = .ok (.imul, 1) := by decide +kernel
theorem dX11_removeThing_49 : decode cX11_removeThing 49 = .ok (.iadd, 1) := by decide +kernel
theorem dX11_removeThing_50 : decode cX11_removeThing 50 = .ok (.if_icmp .ge 23, 3) := by decide +kernel
theorem dX11_removeThing_53 : decode cX11_removeThing 53 = .ok (.aload_n 0, 1) := by decide +kernel
theorem dX11_removeThing_54 : decode cX11_removeThing 54 = .ok (.getfield 7, 3) := by decide +kernel
theorem dX11_removeThing_57 : decode cX11_removeThing 57 = .ok (.iload_n 2, 1) := by decide +kernel
theorem dX11_removeThing_58 : decode cX11_removeThing 58 = .ok (.aload_n 0, 1) := by decide +kernel
theorem dX11_removeThing_59 : decode cX11_removeThing 59 = .ok (.getfield 7, 3) := by decide +kernel
theorem dX11_removeThing_62 : decode cX11_removeThing 62 = .ok (.iload_n 2, 1) := by decide +kernel
theorem dX11_removeThing_63 : decode cX11_removeThing 63 = .ok (.iconst 2, 1) := by decide +kernel
theorem dX11_removeThing_64 : decode cX11_removeThing 64 = .ok (.iadd, 1) := by decide +kernel
theorem dX11_removeThing_65 : decode cX11_removeThing 65 = .ok (.iaload, 1) := by decide +kernel
theorem dX11_removeThing_66 : decode cX11_removeThing 66 = .ok (.iastore, 1) := by decide +kernel
theorem dX11_removeThing_67 : decode cX11_removeThing 67 = .ok (.iinc 2 1, 3) := by decide +kernel
theorem dX11_removeThing_70 : decode cX11_removeThing 70 = .ok (.goto (-33), 3) := by decide +kernel
theorem dX11_removeThing_73 : decode cX11_removeThing 73 = .ok (.aload_n 0, 1) := by decide +kernel
theorem dX11_removeThing_74 : decode cX11_removeThing 74 = .ok (.getfield 7, 3) := by decide +kernel
theorem dX11_removeThing_77 : decode cX11_removeThing 77 = .ok (.iconst 4, 1) := by decide +kernel
theorem dX11_removeThing_78 : decode cX11_removeThing 78 = .ok (.iaload, 1) := by decide +kernel
theorem dX11_removeThing_79 : decode cX11_removeThing 79 = .ok (.ireturn, 1) := by decide +kernel
theorem dX11_canStir_0 : decode cX11_canStir 0 = .ok (.iload_n 1, 1) := by decide +kernel
theorem dX11_canStir_1 : decode cX11_canStir 1 = .ok (.iconst 0, 1) := by decide +kernel
theorem dX11_canStir_2 : decode cX11_canStir 2 = .ok (.bipush 6, 2) := by decide +kernel
theorem dX11_canStir_4 : decode cX11_canStir 4 = .ok (.invokestatic 89, 3) := by decide +kernel
theorem dX11_canStir_7 : decode cX11_canStir 7 = .ok (.ifCond .eq 57, 3) := by decide +kernel
theorem dX11_canStir_10 : decode cX11_canStir 10 = .ok (.iload_n 2, 1) := by decide +kernel
theorem dX11_canStir_11 : decode cX11_canStir 11 = .ok (.iconst 0, 1) := by decide +kernel
theorem dX11_canStir_12 : decode cX11_canStir 12 = .ok (.sipush 10000, 3) := by decide +kernel
theorem dX11_canStir_15 : decode cX11_canStir 15 = .ok (.invokestatic 89, 3) := by decide +kernel
theorem dX11_canStir_18 : decode cX11_canStir 18 = .ok (.ifCond .eq 46, 3) := by decide +kernel
theorem dX11_canStir_21 : decode cX11_canStir 21 = .ok (.iload_n 3, 1) := by decide +kernel
theorem dX11_canStir_22 : decode cX11_canStir 22 = .ok (.iconst 0, 1) := by decide +kernel
theorem dX11_canStir_23 : decode cX11_canStir 23 = .ok (.sipush 10000, 3) := by decide +kernel
theorem dX11_canStir_26 : decode cX11_canStir 26 = .ok (.invokestatic 89, 3) := by decide +kernel
theorem dX11_canStir_29 : decode cX11_canStir 29 = .ok (.ifCond .eq 35, 3) := by decide +kernel
theorem dX11_canStir_32 : decode cX11_canStir 32 = .ok (.iload_n 3, 1) := by decide +kernel
theorem dX11_canStir_33 : decode cX11_canStir 33 = .ok (.iload_n 2, 1) := by decide +kernel
theorem dX11_canStir_34 : decode cX11_canStir 34 = .ok (.if_icmp .le 30, 3) := by decide +kernel
theorem dX11_canStir_37 : decode cX11_canStir 37 = .ok (.iload 4, 2) := by decide +kernel
theorem dX11_canStir_39 : decode cX11_canStir 39 = .ok (.iconst 0, 1) := by decide +kernel
theorem dX11_canStir_40 : decode cX11_canStir 40 = .ok (.sipush 359, 3) := by decide +kernel
theorem dX11_canStir_43 : decode cX11_canStir 43 = .ok (.invokestatic 89, 3) := by decide +kernel
theorem dX11_canStir_46 : decode cX11_canStir 46 = .ok (.ifCond .eq 18, 3) := by decide +kernel
theorem dX11_canStir_49 : decode cX11_canStir 49 = .ok (.iload 5, 2) := by decide +kernel
theorem dX11_canStir_51 : decode cX11_canStir 51 = .ok (.iconst 0, 1) := by decide +kernel
theorem dX11_canStir_52 : decode cX11_canStir 52 = .ok (.bipush 90, 2) := by decide +kernel
theorem dX11_canStir_54 : decode cX11_canStir 54 = .ok (.invokestatic 89, 3) := by decide +kernel
theorem dX11_canStir_57 : decode cX11_canStir 57 = .ok (.ifCond .eq 7, 3) := by decide +kernel
theorem dX11_canStir_60 : decode cX11_canStir 60 = .ok (.iconst 1, 1) := by decide +kernel
theorem dX11_canStir_61 : decode cX11_canStir 61 = .ok (.goto 4, 3) := by decide +kernel
theorem dX11_canStir_64 : decode cX11_canStir 64 = .ok (.iconst 0, 1) := by decide +kernel
theorem dX11_canStir_65 : decode cX11_canStir 65 = .ok (.ireturn, 1) := by decide +kernel
theorem dX11_stirs_0 : decode cX11_stirs 0 = .ok (.aload_n 0, 1) := by decide +kernel
theorem dX11_stirs_1 : decode cX11_stirs 1 = .ok (.getfield 7, 3) := by decide +kernel
theorem dX11_stirs_4 : decode cX11_stirs 4 = .ok (.iconst 5, 1) := by decide +kernel
theorem dX11_stirs_5 : decode cX11_stirs 5 = .ok (.iload_n 1, 1) := by decide +kernel
theorem dX11_stirs_6 : decode cX11_stirs 6 = .ok (.iastore, 1) := by decide +kernel
theorem dX11_stirs_7 : decode cX11_stirs 7 = .ok (.aload_n 0, 1) := by decide +kernel
theorem dX11_stirs_8 : decode cX11_stirs 8 = .ok (.getfield 7, 3) := by decide +kernel
theorem dX11_stirs_11 : decode cX11_stirs 11 = .ok (.bipush 6, 2) := by decide +kernel
theorem dX11_stirs_13 : decode cX11_stirs 13 = .ok (.iload_n 2, 1) := by decide +kernel
theorem dX11_stirs_14 : decode cX11_stirs 14 = .ok (.iastore, 1) := by decide +kernel
theorem dX11_stirs_15 : decode cX11_stirs 15 = .ok (.aload_n 0, 1) := by decide +kernel
theorem dX11_stirs_16 : decode cX11_stirs 16 = .ok (.getfield 7, 3) := by decide +kernel
theorem dX11_stirs_19 : decode cX11_stirs 19 = .ok (.bipush 7, 2) := by decide +kernel
theorem dX11_stirs_21 : decode cX11_stirs 21 = .ok (.iload_n 3, 1) := by decide +kernel
theorem dX11_stirs_22 : decode cX11_stirs 22 = .ok (.iastore, 1) := by decide +kernel
theorem dX11_stirs_23 : decode cX11_stirs 23 = .ok (.aload_n 0, 1) := by decide +kernel
theorem dX11_stirs_24 : decode cX11_stirs 24 = .ok (.getfield 7, 3) := by decide +kernel
theorem dX11_stirs_27 : decode cX11_stirs 27 = .ok (.bipush 9, 2) := by decide +kernel
theorem dX11_stirs_29 : decode cX11_stirs 29 = .ok (.iload 4, 2) := by decide +kernel
theorem dX11_stirs_31 : decode cX11_stirs 31 = .ok (.iastore, 1) := by decide +kernel
theorem dX11_stirs_32 : decode cX11_stirs 32 = .ok (.aload_n 0, 1) := by decide +kernel
theorem dX11_stirs_33 : decode cX11_stirs 33 = .ok (.getfield 7, 3) := by decide +kernel
theorem dX11_stirs_36 : decode cX11_stirs 36 = .ok (.bipush 10, 2) := by decide +kernel
theorem dX11_stirs_38 : decode cX11_stirs 38 = .ok (.iload 5, 2) := by decide +kernel
theorem dX11_stirs_40 : decode cX11_stirs 40 = .ok (.iastore, 1) := by decide +kernel
theorem dX11_stirs_41 : decode cX11_stirs 41 = .ok (.return_, 1) := by decide +kernel
theorem dX11_setStirrer_0 : decode cX11_setStirrer 0 = .ok (.aload_n 0, 1) := by decide +kernel
theorem dX11_setStirrer_1 : decode cX11_setStirrer 1 = .ok (.aload_n 0, 1) := by decide +kernel
theorem dX11_setStirrer_2 : decode cX11_setStirrer 2 = .ok (.iload_n 1, 1) := by decide +kernel
theorem dX11_setStirrer_3 : decode cX11_setStirrer 3 = .ok (.iload_n 2, 1) := by decide +kernel
theorem dX11_setStirrer_4 : decode cX11_setStirrer 4 = .ok (.iload_n 3, 1) := by decide +kernel
theorem dX11_setStirrer_5 : decode cX11_setStirrer 5 = .ok (.iload 4, 2) := by decide +kernel
theorem dX11_setStirrer_7 : decode cX11_setStirrer 7 = .ok (.iload 5, 2) := by decide +kernel
theorem dX11_setStirrer_9 : decode cX11_setStirrer 9 = .ok (.invokevirtual 155, 3) := by decide +kernel
theorem dX11_setStirrer_12 : decode cX11_setStirrer 12 = .ok (.iconst 1, 1) := by decide +kernel
theorem dX11_setStirrer_13 : decode cX11_setStirrer 13 = .ok (.invokevirtual 37, 3) := by decide +kernel
theorem dX11_setStirrer_16 : decode cX11_setStirrer 16 = .ok (.ifCond .ne 5, 3) := by decide +kernel
theorem dX11_setStirrer_19 : decode cX11_setStirrer 19 = .ok (.iconst 0, 1) := by decide +kernel
theorem dX11_setStirrer_20 : decode cX11_setStirrer 20 = .ok (.ireturn, 1) := by decide +kernel
theorem dX11_setStirrer_21 : decode cX11_setStirrer 21 = .ok (.aload_n 0, 1) := by decide +kernel
theorem dX11_setStirrer_22 : decode cX11_setStirrer 22 = .ok (.invokevirtual 130, 3) := by decide +kernel
theorem dX11_setStirrer_25 : decode cX11_setStirrer 25 = .ok (.aload_n 0, 1) := by decide +kernel
theorem dX11_setStirrer_26 : decode cX11_setStirrer 26 = .ok (.getfield 7, 3) := by decide +kernel
theorem dX11_setStirrer_29 : decode cX11_setStirrer 29 = .ok (.iconst 5, 1) := by decide +kernel
theorem dX11_setStirrer_30 : decode cX11_setStirrer 30 = .ok (.iaload, 1) := by decide +kernel
theorem dX11_setStirrer_31 : decode cX11_setStirrer 31 = .ok (.istore 6, 2) := by decide +kernel
theorem dX11_setStirrer_33 : decode cX11_setStirrer 33 = .ok (.aload_n 0, 1) := by decide +kernel
theorem dX11_setStirrer_34 : decode cX11_setStirrer 34 = .ok (.iload_n 1, 1) := by decide +kernel
theorem dX11_setStirrer_35 : decode cX11_setStirrer 35 = .ok (.iload_n 2, 1) := by decide +kernel
theorem dX11_setStirrer_36 : decode cX11_setStirrer 36 = .ok (.iload_n 3, 1) := by decide +kernel
theorem dX11_setStirrer_37 : decode cX11_setStirrer 37 = .ok (.iload 4, 2) := by decide +kernel
theorem dX11_setStirrer_39 : decode cX11_setStirrer 39 = .ok (.iload 5, 2) := by decide +kernel
theorem dX11_setStirrer_41 : decode cX11_setStirrer 41 = .ok (.invokevirtual 159, 3) := by decide +kernel
theorem dX11_setStirrer_44 : decode cX11_setStirrer 44 = .ok (.iload 6, 2) := by decide +kernel
theorem dX11_setStirrer_46 : decode cX11_setStirrer 46 = .ok (.ireturn, 1) := by decide +kernel
theorem dX11_least_0 : decode cX11_least 0 = .ok (.iload_n 0, 1) := by decide +kernel
theorem dX11_least_1 : decode cX11_least 1 = .ok (.iconst 2, 1) := by decide +kernel
theorem dX11_least_2 : decode cX11_least 2 = .ok (.if_icmp .eq 15, 3) := by decide +kernel
theorem dX11_least_5 : decode cX11_least 5 = .ok (.iload_n 0, 1) := by decide +kernel
theorem dX11_least_6 : decode cX11_least 6 = .ok (.bipush 6, 2) := by decide +kernel
theorem dX11_least_8 : decode cX11_least 8 = .ok (.if_icmp .lt 13, 3) := by decide +kernel
theorem dX11_least_11 : decode cX11_least 11 = .ok (.iload_n 0, 1) := by decide +kernel
theorem dX11_least_12 : decode cX11_least 12 = .ok (.bipush 8, 2) := by decide +kernel
theorem dX11_least_14 : decode cX11_least 14 = .ok (.if_icmp .gt 7, 3) := by decide +kernel
theorem dX11_least_17 : decode cX11_least 17 = .ok (.iconst 1, 1) := by decide +kernel
theorem dX11_least_18 : decode cX11_least 18 = .ok (.goto 4, 3) := by decide +kernel
theorem dX11_least_21 : decode cX11_least 21 = .ok (.iconst 0, 1) := by decide +kernel
theorem dX11_least_22 : decode cX11_least 22 = .ok (.ireturn, 1) := by decide +kernel
theorem dX11_most_0 : decode cX11_most 0 = .ok (.iload_n 0, 1) := by decide +kernel
theorem dX11_most_1 : decode cX11_most 1 = .ok (.tableswitch 83 0 11 #[63, 66, 63, 66, 69, 71, 73, 66, 76, 83, 83, 79], 63) := by decide +kernel
theorem dX11_most_64 : decode cX11_most 64 = .ok (.bipush 100, 2) := by decide +kernel
theorem dX11_most_66 : decode cX11_most 66 = .ok (.ireturn, 1) := by decide +kernel
theorem dX11_most_67 : decode cX11_most 67 = .ok (.bipush 20, 2) := by decide +kernel
theorem dX11_most_69 : decode cX11_most 69 = .ok (.ireturn, 1) := by decide +kernel
theorem dX11_most_70 : decode cX11_most 70 = .ok (.iconst 1, 1) := by decide +kernel
theorem dX11_most_71 : decode cX11_most 71 = .ok (.ireturn, 1) := by decide +kernel
theorem dX11_most_72 : decode cX11_most 72 = .ok (.iconst 2, 1) := by decide +kernel
theorem dX11_most_73 : decode cX11_most 73 = .ok (.ireturn, 1) := by decide +kernel
theorem dX11_most_74 : decode cX11_most 74 = .ok (.bipush 9, 2) := by decide +kernel
theorem dX11_most_76 : decode cX11_most 76 = .ok (.ireturn, 1) := by decide +kernel
theorem dX11_most_77 : decode cX11_most 77 = .ok (.bipush 99, 2) := by decide +kernel
theorem dX11_most_79 : decode cX11_most 79 = .ok (.ireturn, 1) := by decide +kernel
theorem dX11_most_80 : decode cX11_most 80 = .ok (.sipush 500, 3) := by decide +kernel
theorem dX11_most_83 : decode cX11_most 83 = .ok (.ireturn, 1) := by decide +kernel
theorem dX11_most_84 : decode cX11_most 84 = .ok (.sipush 10000, 3) := by decide +kernel
theorem dX11_most_87 : decode cX11_most 87 = .ok (.ireturn, 1) := by decide +kernel
theorem dX11_canSet_0 : decode cX11_canSet 0 = .ok (.iload_n 1, 1) := by decide +kernel
theorem dX11_canSet_1 : decode cX11_canSet 1 = .ok (.iconst 0, 1) := by decide +kernel
theorem dX11_canSet_2 : decode cX11_canSet 2 = .ok (.bipush 11, 2) := by decide +kernel
theorem dX11_canSet_4 : decode cX11_canSet 4 = .ok (.invokestatic 89, 3) := by decide +kernel
theorem dX11_canSet_7 : decode cX11_canSet 7 = .ok (.ifCond .eq 18, 3) := by decide +kernel
theorem dX11_canSet_10 : decode cX11_canSet 10 = .ok (.iload_n 2, 1) := by decide +kernel
theorem dX11_canSet_11 : decode cX11_canSet 11 = .ok (.iload_n 1, 1) := by decide +kernel
theorem dX11_canSet_12 : decode cX11_canSet 12 = .ok (.invokestatic 163, 3) := by decide +kernel
theorem dX11_canSet_15 : decode cX11_canSet 15 = .ok (.iload_n 1, 1) := by decide +kernel
theorem dX11_canSet_16 : decode cX11_canSet 16 = .ok (.invokestatic 166, 3) := by decide +kernel
theorem dX11_canSet_19 : decode cX11_canSet 19 = .ok (.invokestatic 89, 3) := by decide +kernel
theorem dX11_canSet_22 : decode cX11_canSet 22 = .ok (.ifCond .ne 5, 3) := by decide +kernel
theorem dX11_canSet_25 : decode cX11_canSet 25 = .ok (.iconst 0, 1) := by decide +kernel
theorem dX11_canSet_26 : decode cX11_canSet 26 = .ok (.ireturn, 1) := by decide +kernel
theorem dX11_canSet_27 : decode cX11_canSet 27 = .ok (.iload_n 1, 1) := by decide +kernel
theorem dX11_canSet_28 : decode cX11_canSet 28 = .ok (.bipush 9, 2) := by decide +kernel
theorem dX11_canSet_30 : decode cX11_canSet 30 = .ok (.if_icmp .ne 22, 3) := by decide +kernel
theorem dX11_canSet_33 : decode cX11_canSet 33 = .ok (.iload_n 2, 1) := by decide +kernel
theorem dX11_canSet_34 : decode cX11_canSet 34 = .ok (.aload_n 0, 1) := by decide +kernel
theorem dX11_canSet_35 : decode cX11_canSet 35 = .ok (.getfield 7, 3) := by decide +kernel
theorem dX11_canSet_38 : decode cX11_canSet 38 = .ok (.bipush 22, 2) := by decide +kernel
theorem dX11_canSet_40 : decode cX11_canSet 40 = .ok (.iaload, 1) := by decide +kernel
theorem dX11_canSet_41 : decode cX11_canSet 41 = .ok (.if_icmp .gt 7, 3) := by decide +kernel
theorem dX11_canSet_44 : decode cX11_canSet 44 = .ok (.iconst 1, 1) := by decide +kernel
theorem dX11_canSet_45 : decode cX11_canSet 45 = .ok (.goto 29, 3) := by decide +kernel
theorem dX11_canSet_48 : decode cX11_canSet 48 = .ok (.iconst 0, 1) := by decide +kernel
theorem dX11_canSet_49 : decode cX11_canSet 49 = .ok (.goto 25, 3) := by decide +kernel
theorem dX11_canSet_52 : decode cX11_canSet 52 = .ok (.iload_n 1, 1) := by decide +kernel
theorem dX11_canSet_53 : decode cX11_canSet 53 = .ok (.bipush 10, 2) := by decide +kernel
theorem dX11_canSet_55 : decode cX11_canSet 55 = .ok (.if_icmp .ne 14, 3) := by decide +kernel
theorem dX11_canSet_58 : decode cX11_canSet 58 = .ok (.iload_n 2, 1) := by decide +kernel
theorem dX11_canSet_59 : decode cX11_canSet 59 = .ok (.aload_n 0, 1) := by decide +kernel
theorem dX11_canSet_60 : decode cX11_canSet 60 = .ok (.getfield 7, 3) := by decide +kernel
theorem dX11_canSet_63 : decode cX11_canSet 63 = .ok (.bipush 21, 2) := by decide +kernel
theorem dX11_canSet_65 : decode cX11_canSet 65 = .ok (.iaload, 1) := by decide +kernel
theorem dX11_canSet_66 : decode cX11_canSet 66 = .ok (.if_icmp .lt 7, 3) := by decide +kernel
theorem dX11_canSet_69 : decode cX11_canSet 69 = .ok (.iconst 1, 1) := by decide +kernel
theorem dX11_canSet_70 : decode cX11_canSet 70 = .ok (.goto 4, 3) := by decide +kernel
theorem dX11_canSet_73 : decode cX11_canSet 73 = .ok (.iconst 0, 1) := by decide +kernel
theorem dX11_canSet_74 : decode cX11_canSet 74 = .ok (.ireturn, 1) := by decide +kernel
theorem dX11_sets_0 : decode cX11_sets 0 = .ok (.aload_n 0, 1) := by decide +kernel
theorem dX11_sets_1 : decode cX11_sets 1 = .ok (.getfield 7, 3) := by decide +kernel
theorem dX11_sets_4 : decode cX11_sets 4 = .ok (.bipush 12, 2) := by decide +kernel
theorem dX11_sets_6 : decode cX11_sets 6 = .ok (.iload_n 1, 1) := by decide +kernel
theorem dX11_sets_7 : decode cX11_sets 7 = .ok (.iadd, 1) := by decide +kernel
theorem dX11_sets_8 : decode cX11_sets 8 = .ok (.iload_n 2, 1) := by decide +kernel
theorem dX11_sets_9 : decode cX11_sets 9 = .ok (.iastore, 1) := by decide +kernel
theorem dX11_sets_10 : decode cX11_sets 10 = .ok (.aload_n 0, 1) := by decide +kernel
theorem dX11_sets_11 : decode cX11_sets 11 = .ok (.getfield 7, 3) := by decide +kernel
theorem dX11_sets_14 : decode cX11_sets 14 = .ok (.bipush 31, 2) := by decide +kernel
theorem dX11_sets_16 : decode cX11_sets 16 = .ok (.aload_n 0, 1) := by decide +kernel
theorem dX11_sets_17 : decode cX11_sets 17 = .ok (.getfield 7, 3) := by decide +kernel
theorem dX11_sets_20 : decode cX11_sets 20 = .ok (.bipush 31, 2) := by decide +kernel
theorem dX11_sets_22 : decode cX11_sets 22 = .ok (.iaload, 1) := by decide +kernel
theorem dX11_sets_23 : decode cX11_sets 23 = .ok (.aload_n 0, 1) := by decide +kernel
theorem dX11_sets_24 : decode cX11_sets 24 = .ok (.getfield 7, 3) := by decide +kernel
theorem dX11_sets_27 : decode cX11_sets 27 = .ok (.bipush 18, 2) := by decide +kernel
theorem dX11_sets_29 : decode cX11_sets 29 = .ok (.iaload, 1) := by decide +kernel
theorem dX11_sets_30 : decode cX11_sets 30 = .ok (.if_icmp .le 13, 3) := by decide +kernel
theorem dX11_sets_33 : decode cX11_sets 33 = .ok (.aload_n 0, 1) := by decide +kernel
theorem dX11_sets_34 : decode cX11_sets 34 = .ok (.getfield 7, 3) := by decide +kernel
theorem dX11_sets_37 : decode cX11_sets 37 = .ok (.bipush 18, 2) := by decide +kernel
theorem dX11_sets_39 : decode cX11_sets 39 = .ok (.iaload, 1) := by decide +kernel
theorem dX11_sets_40 : decode cX11_sets 40 = .ok (.goto 10, 3) := by decide +kernel
theorem dX11_sets_43 : decode cX11_sets 43 = .ok (.aload_n 0, 1) := by decide +kernel
theorem dX11_sets_44 : decode cX11_sets 44 = .ok (.getfield 7, 3) := by decide +kernel
theorem dX11_sets_47 : decode cX11_sets 47 = .ok (.bipush 31, 2) := by decide +kernel
theorem dX11_sets_49 : decode cX11_sets 49 = .ok (.iaload, 1) := by decide +kernel
theorem dX11_sets_50 : decode cX11_sets 50 = .ok (.iastore, 1) := by decide +kernel
theorem dX11_sets_51 : decode cX11_sets 51 = .ok (.return_, 1) := by decide +kernel
theorem dX11_set_0 : decode cX11_set 0 = .ok (.aload_n 0, 1) := by decide +kernel
theorem dX11_set_1 : decode cX11_set 1 = .ok (.aload_n 0, 1) := by decide +kernel
theorem dX11_set_2 : decode cX11_set 2 = .ok (.iload_n 1, 1) := by decide +kernel
theorem dX11_set_3 : decode cX11_set 3 = .ok (.iload_n 2, 1) := by decide +kernel
theorem dX11_set_4 : decode cX11_set 4 = .ok (.invokevirtual 169, 3) := by decide +kernel
theorem dX11_set_7 : decode cX11_set 7 = .ok (.iconst 1, 1) := by decide +kernel
theorem dX11_set_8 : decode cX11_set 8 = .ok (.invokevirtual 37, 3) := by decide +kernel
theorem dX11_set_11 : decode cX11_set 11 = .ok (.ifCond .ne 5, 3) := by decide +kernel
theorem dX11_set_14 : decode cX11_set 14 = .ok (.iconst 0, 1) := by decide +kernel
theorem dX11_set_15 : decode cX11_set 15 = .ok (.ireturn, 1) := by decide +kernel
theorem dX11_set_16 : decode cX11_set 16 = .ok (.aload_n 0, 1) := by decide +kernel
theorem dX11_set_17 : decode cX11_set 17 = .ok (.invokevirtual 130, 3) := by decide +kernel
theorem dX11_set_20 : decode cX11_set 20 = .ok (.aload_n 0, 1) := by decide +kernel
theorem dX11_set_21 : decode cX11_set 21 = .ok (.getfield 7, 3) := by decide +kernel
theorem dX11_set_24 : decode cX11_set 24 = .ok (.bipush 12, 2) := by decide +kernel
theorem dX11_set_26 : decode cX11_set 26 = .ok (.iload_n 1, 1) := by decide +kernel
theorem dX11_set_27 : decode cX11_set 27 = .ok (.iadd, 1) := by decide +kernel
theorem dX11_set_28 : decode cX11_set 28 = .ok (.iaload, 1) := by decide +kernel
theorem dX11_set_29 : decode cX11_set 29 = .ok (.istore_n 3, 1) := by decide +kernel
theorem dX11_set_30 : decode cX11_set 30 = .ok (.aload_n 0, 1) := by decide +kernel
theorem dX11_set_31 : decode cX11_set 31 = .ok (.iload_n 1, 1) := by decide +kernel
theorem dX11_set_32 : decode cX11_set 32 = .ok (.iload_n 2, 1) := by decide +kernel
theorem dX11_set_33 : decode cX11_set 33 = .ok (.invokevirtual 172, 3) := by decide +kernel
theorem dX11_set_36 : decode cX11_set 36 = .ok (.iload_n 3, 1) := by decide +kernel
theorem dX11_set_37 : decode cX11_set 37 = .ok (.ireturn, 1) := by decide +kernel
theorem dX11_setS_0 : decode cX11_setS 0 = .ok (.aload_n 0, 1) := by decide +kernel
theorem dX11_setS_1 : decode cX11_setS 1 = .ok (.iload_n 1, 1) := by decide +kernel
theorem dX11_setS_2 : decode cX11_setS 2 = .ok (.ifCond .lt 7, 3) := by decide +kernel
theorem dX11_setS_5 : decode cX11_setS 5 = .ok (.iconst 1, 1) := by decide +kernel
theorem dX11_setS_6 : decode cX11_setS 6 = .ok (.goto 4, 3) := by decide +kernel
theorem dX11_setS_9 : decode cX11_setS 9 = .ok (.iconst 0, 1) := by decide +kernel
theorem dX11_setS_10 : decode cX11_setS 10 = .ok (.iconst 1, 1) := by decide +kernel
