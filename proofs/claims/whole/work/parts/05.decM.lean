theorem dX8_init_0 : decode cX8_init 0 = .ok (.aload_n 0, 1) := by decide +kernel
theorem dX8_init_1 : decode cX8_init 1 = .ok (.invokespecial 1, 3) := by decide +kernel
theorem dX8_init_4 : decode cX8_init 4 = .ok (.aload_n 0, 1) := by decide +kernel
theorem dX8_init_5 : decode cX8_init 5 = .ok (.ldc 7, 2) := by decide +kernel
theorem dX8_init_7 : decode cX8_init 7 = .ok (.newarray .byte, 2) := by decide +kernel
theorem dX8_init_9 : decode cX8_init 9 = .ok (.putfield 8, 3) := by decide +kernel
theorem dX8_init_12 : decode cX8_init 12 = .ok (.aload_n 0, 1) := by decide +kernel
theorem dX8_init_13 : decode cX8_init 13 = .ok (.ldc 7, 2) := by decide +kernel
theorem dX8_init_15 : decode cX8_init 15 = .ok (.newarray .byte, 2) := by decide +kernel
theorem dX8_init_17 : decode cX8_init 17 = .ok (.putfield 14, 3) := by decide +kernel
theorem dX8_init_20 : decode cX8_init 20 = .ok (.aload_n 0, 1) := by decide +kernel
theorem dX8_init_21 : decode cX8_init 21 = .ok (.sipush 3000, 3) := by decide +kernel
theorem dX8_init_24 : decode cX8_init 24 = .ok (.newarray .int, 2) := by decide +kernel
theorem dX8_init_26 : decode cX8_init 26 = .ok (.putfield 17, 3) := by decide +kernel
theorem dX8_init_29 : decode cX8_init 29 = .ok (.aload_n 0, 1) := by decide +kernel
theorem dX8_init_30 : decode cX8_init 30 = .ok (.sipush 3000, 3) := by decide +kernel
theorem dX8_init_33 : decode cX8_init 33 = .ok (.newarray .long, 2) := by decide +kernel
theorem dX8_init_35 : decode cX8_init 35 = .ok (.putfield 21, 3) := by decide +kernel
theorem dX8_init_38 : decode cX8_init 38 = .ok (.aload_n 0, 1) := by decide +kernel
theorem dX8_init_39 : decode cX8_init 39 = .ok (.sipush 3000, 3) := by decide +kernel
theorem dX8_init_42 : decode cX8_init 42 = .ok (.newarray .boolean, 2) := by decide +kernel
theorem dX8_init_44 : decode cX8_init 44 = .ok (.putfield 25, 3) := by decide +kernel
theorem dX8_init_47 : decode cX8_init 47 = .ok (.aload_n 0, 1) := by decide +kernel
theorem dX8_init_48 : decode cX8_init 48 = .ok (.sipush 3000, 3) := by decide +kernel
theorem dX8_init_51 : decode cX8_init 51 = .ok (.newarray .int, 2) := by decide +kernel
theorem dX8_init_53 : decode cX8_init 53 = .ok (.putfield 29, 3) := by decide +kernel
theorem dX8_init_56 : decode cX8_init 56 = .ok (.aload_n 0, 1) := by decide +kernel
theorem dX8_init_57 : decode cX8_init 57 = .ok (.sipush 3000, 3) := by decide +kernel
theorem dX8_init_60 : decode cX8_init 60 = .ok (.newarray .int, 2) := by decide +kernel
theorem dX8_init_62 : decode cX8_init 62 = .ok (.putfield 32, 3) := by decide +kernel
theorem dX8_init_65 : decode cX8_init 65 = .ok (.aload_n 0, 1) := by decide +kernel
theorem dX8_init_66 : decode cX8_init 66 = .ok (.sipush 3000, 3) := by decide +kernel
theorem dX8_init_69 : decode cX8_init 69 = .ok (.newarray .int, 2) := by decide +kernel
theorem dX8_init_71 : decode cX8_init 71 = .ok (.putfield 35, 3) := by decide +kernel
theorem dX8_init_74 : decode cX8_init 74 = .ok (.aload_n 0, 1) := by decide +kernel
theorem dX8_init_75 : decode cX8_init 75 = .ok (.sipush 3000, 3) := by decide +kernel
theorem dX8_init_78 : decode cX8_init 78 = .ok (.newarray .int, 2) := by decide +kernel
theorem dX8_init_80 : decode cX8_init 80 = .ok (.putfield 38, 3) := by decide +kernel
theorem dX8_init_83 : decode cX8_init 83 = .ok (.aload_n 0, 1) := by decide +kernel
theorem dX8_init_84 : decode cX8_init 84 = .ok (.sipush 6000, 3) := by decide +kernel
theorem dX8_init_87 : decode cX8_init 87 = .ok (.newarray .int, 2) := by decide +kernel
theorem dX8_init_89 : decode cX8_init 89 = .ok (.putfield 41, 3) := by decide +kernel
theorem dX8_init_92 : decode cX8_init 92 = .ok (.aload_n 0, 1) := by decide +kernel
theorem dX8_init_93 : decode cX8_init 93 = .ok (.sipush 6000, 3) := by decide +kernel
theorem dX8_init_96 : decode cX8_init 96 = .ok (.newarray .int, 2) := by decide +kernel
theorem dX8_init_98 : decode cX8_init 98 = .ok (.putfield 44, 3) := by decide +kernel
theorem dX8_init_101 : decode cX8_init 101 = .ok (.aload_n 0, 1) := by decide +kernel
theorem dX8_init_102 : decode cX8_init 102 = .ok (.ldc 7, 2) := by decide +kernel
theorem dX8_init_104 : decode cX8_init 104 = .ok (.newarray .byte, 2) := by decide +kernel
theorem dX8_init_106 : decode cX8_init 106 = .ok (.putfield 47, 3) := by decide +kernel
theorem dX8_init_109 : decode cX8_init 109 = .ok (.aload_n 0, 1) := by decide +kernel
theorem dX8_init_110 : decode cX8_init 110 = .ok (.ldc 7, 2) := by decide +kernel
theorem dX8_init_112 : decode cX8_init 112 = .ok (.newarray .byte, 2) := by decide +kernel
theorem dX8_init_114 : decode cX8_init 114 = .ok (.putfield 50, 3) := by decide +kernel
theorem dX8_init_117 : decode cX8_init 117 = .ok (.aload_n 0, 1) := by decide +kernel
theorem dX8_init_118 : decode cX8_init 118 = .ok (.ldc 7, 2) := by decide +kernel
theorem dX8_init_120 : decode cX8_init 120 = .ok (.newarray .byte, 2) := by decide +kernel
theorem dX8_init_122 : decode cX8_init 122 = .ok (.putfield 53, 3) := by decide +kernel
theorem dX8_init_125 : decode cX8_init 125 = .ok (.aload_n 0, 1) := by decide +kernel
theorem dX8_init_126 : decode cX8_init 126 = .ok (.sipush 3000, 3) := by decide +kernel
theorem dX8_init_129 : decode cX8_init 129 = .ok (.newarray .int, 2) := by decide +kernel
theorem dX8_init_131 : decode cX8_init 131 = .ok (.putfield 56, 3) := by decide +kernel
theorem dX8_init_134 : decode cX8_init 134 = .ok (.aload_n 0, 1) := by decide +kernel
theorem dX8_init_135 : decode cX8_init 135 = .ok (.sipush 3000, 3) := by decide +kernel
theorem dX8_init_138 : decode cX8_init 138 = .ok (.newarray .int, 2) := by decide +kernel
theorem dX8_init_140 : decode cX8_init 140 = .ok (.putfield 59, 3) := by decide +kernel
theorem dX8_init_143 : decode cX8_init 143 = .ok (.aload_n 0, 1) := by decide +kernel
theorem dX8_init_144 : decode cX8_init 144 = .ok (.bipush 24, 2) := by decide +kernel
theorem dX8_init_146 : decode cX8_init 146 = .ok (.newarray .int, 2) := by decide +kernel
theorem dX8_init_148 : decode cX8_init 148 = .ok (.putfield 62, 3) := by decide +kernel
theorem dX8_init_151 : decode cX8_init 151 = .ok (.aload_n 0, 1) := by decide +kernel
theorem dX8_init_152 : decode cX8_init 152 = .ok (.bipush 24, 2) := by decide +kernel
theorem dX8_init_154 : decode cX8_init 154 = .ok (.newarray .long, 2) := by decide +kernel
theorem dX8_init_156 : decode cX8_init 156 = .ok (.putfield 65, 3) := by decide +kernel
theorem dX8_init_159 : decode cX8_init 159 = .ok (.aload_n 0, 1) := by decide +kernel
theorem dX8_init_160 : decode cX8_init 160 = .ok (.sipush 3000, 3) := by decide +kernel
theorem dX8_init_163 : decode cX8_init 163 = .ok (.newarray .int, 2) := by decide +kernel
theorem dX8_init_165 : decode cX8_init 165 = .ok (.putfield 68, 3) := by decide +kernel
theorem dX8_init_168 : decode cX8_init 168 = .ok (.return_, 1) := by decide +kernel
theorem dX8_thrown_0 : decode cX8_thrown 0 = .ok (.aload_n 0, 1) := by decide +kernel
theorem dX8_thrown_1 : decode cX8_thrown 1 = .ok (.getfield 71, 3) := by decide +kernel
theorem dX8_thrown_4 : decode cX8_thrown 4 = .ok (.ireturn, 1) := by decide +kernel
theorem dX8_kindOf_0 : decode cX8_kindOf 0 = .ok (.iload_n 0, 1) := by decide +kernel
theorem dX8_kindOf_1 : decode cX8_kindOf 1 = .ok (.sipush 128, 3) := by decide +kernel
theorem dX8_kindOf_4 : decode cX8_kindOf 4 = .ok (.if_icmp .lt 24, 3) := by decide +kernel
theorem dX8_kindOf_7 : decode cX8_kindOf 7 = .ok (.iload_n 0, 1) := by decide +kernel
theorem dX8_kindOf_8 : decode cX8_kindOf 8 = .ok (.sipush 224, 3) := by decide +kernel
theorem dX8_kindOf_11 : decode cX8_kindOf 11 = .ok (.if_icmp .ge 17, 3) := by decide +kernel
theorem dX8_kindOf_14 : decode cX8_kindOf 14 = .ok (.iload_n 0, 1) := by decide +kernel
theorem dX8_kindOf_15 : decode cX8_kindOf 15 = .ok (.sipush 204, 3) := by decide +kernel
theorem dX8_kindOf_18 : decode cX8_kindOf 18 = .ok (.if_icmp .lt 12, 3) := by decide +kernel
theorem dX8_kindOf_21 : decode cX8_kindOf 21 = .ok (.iload_n 0, 1) := by decide +kernel
theorem dX8_kindOf_22 : decode cX8_kindOf 22 = .ok (.sipush 211, 3) := by decide +kernel
theorem dX8_kindOf_25 : decode cX8_kindOf 25 = .ok (.if_icmp .gt 5, 3) := by decide +kernel
theorem dX8_kindOf_28 : decode cX8_kindOf 28 = .ok (.iconst 2, 1) := by decide +kernel
theorem dX8_kindOf_29 : decode cX8_kindOf 29 = .ok (.ireturn, 1) := by decide +kernel
theorem dX8_kindOf_30 : decode cX8_kindOf 30 = .ok (.iload_n 0, 1) := by decide +kernel
theorem dX8_kindOf_31 : decode cX8_kindOf 31 = .ok (.sipush 144, 3) := by decide +kernel
theorem dX8_kindOf_34 : decode cX8_kindOf 34 = .ok (.if_icmp .lt 10, 3) := by decide +kernel
theorem dX8_kindOf_37 : decode cX8_kindOf 37 = .ok (.iload_n 0, 1) := by decide +kernel
theorem dX8_kindOf_38 : decode cX8_kindOf 38 = .ok (.sipush 222, 3) := by decide +kernel
theorem dX8_kindOf_41 : decode cX8_kindOf 41 = .ok (.if_icmp .lt 6, 3) := by decide +kernel
theorem dX8_kindOf_44 : decode cX8_kindOf 44 = .ok (.bipush 8, 2) := by decide +kernel
theorem dX8_kindOf_46 : decode cX8_kindOf 46 = .ok (.ireturn, 1) := by decide +kernel
theorem dX8_kindOf_47 : decode cX8_kindOf 47 = .ok (.iload_n 0, 1) := by decide +kernel
theorem dX8_kindOf_48 : decode cX8_kindOf 48 = .ok (.sipush 160, 3) := by decide +kernel
theorem dX8_kindOf_51 : decode cX8_kindOf 51 = .ok (.if_icmp .lt 10, 3) := by decide +kernel
theorem dX8_kindOf_54 : decode cX8_kindOf 54 = .ok (.iload_n 0, 1) := by decide +kernel
theorem dX8_kindOf_55 : decode cX8_kindOf 55 = .ok (.sipush 220, 3) := by decide +kernel
theorem dX8_kindOf_58 : decode cX8_kindOf 58 = .ok (.if_icmp .lt 6, 3) := by decide +kernel
theorem dX8_kindOf_61 : decode cX8_kindOf 61 = .ok (.bipush 7, 2) := by decide +kernel
theorem dX8_kindOf_63 : decode cX8_kindOf 63 = .ok (.ireturn, 1) := by decide +kernel
theorem dX8_kindOf_64 : decode cX8_kindOf 64 = .ok (.iload_n 0, 1) := by decide +kernel
theorem dX8_kindOf_65 : decode cX8_kindOf 65 = .ok (.sipush 192, 3) := by decide +kernel
theorem dX8_kindOf_68 : decode cX8_kindOf 68 = .ok (.if_icmp .lt 10, 3) := by decide +kernel
theorem dX8_kindOf_71 : decode cX8_kindOf 71 = .ok (.iload_n 0, 1) := by decide +kernel
theorem dX8_kindOf_72 : decode cX8_kindOf 72 = .ok (.sipush 217, 3) := by decide +kernel
theorem dX8_kindOf_75 : decode cX8_kindOf 75 = .ok (.if_icmp .lt 5, 3) := by decide +kernel
theorem dX8_kindOf_78 : decode cX8_kindOf 78 = .ok (.iconst 5, 1) := by decide +kernel
theorem dX8_kindOf_79 : decode cX8_kindOf 79 = .ok (.ireturn, 1) := by decide +kernel
theorem dX8_kindOf_80 : decode cX8_kindOf 80 = .ok (.iload_n 0, 1) := by decide +kernel
theorem dX8_kindOf_81 : decode cX8_kindOf 81 = .ok (.tableswitch 76 192 203 #[63, 65, 67, 67, 69, 69, 69, 76, 76, 76, 72, 74], 63) := by decide +kernel
theorem dX8_kindOf_144 : decode cX8_kindOf 144 = .ok (.iconst 0, 1) := by decide +kernel
theorem dX8_kindOf_145 : decode cX8_kindOf 145 = .ok (.ireturn, 1) := by decide +kernel
theorem dX8_kindOf_146 : decode cX8_kindOf 146 = .ok (.iconst (-1), 1) := by decide +kernel
theorem dX8_kindOf_147 : decode cX8_kindOf 147 = .ok (.ireturn, 1) := by decide +kernel
theorem dX8_kindOf_148 : decode cX8_kindOf 148 = .ok (.iconst 1, 1) := by decide +kernel
theorem dX8_kindOf_149 : decode cX8_kindOf 149 = .ok (.ireturn, 1) := by decide +kernel
theorem dX8_kindOf_150 : decode cX8_kindOf 150 = .ok (.bipush 6, 2) := by decide +kernel
theorem dX8_kindOf_152 : decode cX8_kindOf 152 = .ok (.ireturn, 1) := by decide +kernel
theorem dX8_kindOf_153 : decode cX8_kindOf 153 = .ok (.iconst 3, 1) := by decide +kernel
theorem dX8_kindOf_154 : decode cX8_kindOf 154 = .ok (.ireturn, 1) := by decide +kernel
theorem dX8_kindOf_155 : decode cX8_kindOf 155 = .ok (.iconst 4, 1) := by decide +kernel
theorem dX8_kindOf_156 : decode cX8_kindOf 156 = .ok (.ireturn, 1) := by decide +kernel
theorem dX8_kindOf_157 : decode cX8_kindOf 157 = .ok (.bipush 9, 2) := by decide +kernel
theorem dX8_kindOf_159 : decode cX8_kindOf 159 = .ok (.ireturn, 1) := by decide +kernel
theorem dX8_width_0 : decode cX8_width 0 = .ok (.iload_n 0, 1) := by decide +kernel
theorem dX8_width_1 : decode cX8_width 1 = .ok (.tableswitch 136 196 223 #[127, 129, 131, 127, 129, 131, 131, 133, 127, 129, 131, 133, 127, 129, 131, 133, 136, 136, 136, 136, 136, 127, 129, 131, 129, 131, 129, 131], 127) := by decide +kernel
theorem dX8_width_128 : decode cX8_width 128 = .ok (.iconst 1, 1) := by decide +kernel
theorem dX8_width_129 : decode cX8_width 129 = .ok (.ireturn, 1) := by decide +kernel
theorem dX8_width_130 : decode cX8_width 130 = .ok (.iconst 2, 1) := by decide +kernel
theorem dX8_width_131 : decode cX8_width 131 = .ok (.ireturn, 1) := by decide +kernel
theorem dX8_width_132 : decode cX8_width 132 = .ok (.iconst 4, 1) := by decide +kernel
theorem dX8_width_133 : decode cX8_width 133 = .ok (.ireturn, 1) := by decide +kernel
theorem dX8_width_134 : decode cX8_width 134 = .ok (.bipush 8, 2) := by decide +kernel
theorem dX8_width_136 : decode cX8_width 136 = .ok (.ireturn, 1) := by decide +kernel
theorem dX8_width_137 : decode cX8_width 137 = .ok (.iconst 0, 1) := by decide +kernel
theorem dX8_width_138 : decode cX8_width 138 = .ok (.ireturn, 1) := by decide +kernel
theorem dX8_number_0 : decode cX8_number 0 = .ok (.lconst 0, 1) := by decide +kernel
theorem dX8_number_1 : decode cX8_number 1 = .ok (.lstore 4, 2) := by decide +kernel
theorem dX8_number_3 : decode cX8_number 3 = .ok (.iconst 0, 1) := by decide +kernel
theorem dX8_number_4 : decode cX8_number 4 = .ok (.istore 6, 2) := by decide +kernel
theorem dX8_number_6 : decode cX8_number 6 = .ok (.iload 6, 2) := by decide +kernel
theorem dX8_number_8 : decode cX8_number 8 = .ok (.iload_n 3, 1) := by decide +kernel
theorem dX8_number_9 : decode cX8_number 9 = .ok (.if_icmp .ge 29, 3) := by decide +kernel
theorem dX8_number_12 : decode cX8_number 12 = .ok (.lload 4, 2) := by decide +kernel
theorem dX8_number_14 : decode cX8_number 14 = .ok (.ldc2_w 75, 3) := by decide +kernel
theorem dX8_number_17 : decode cX8_number 17 = .ok (.lmul, 1) := by decide +kernel
theorem dX8_number_18 : decode cX8_number 18 = .ok (.aload_n 1, 1) := by decide +kernel
theorem dX8_number_19 : decode cX8_number 19 = .ok (.iload_n 2, 1) := by decide +kernel
theorem dX8_number_20 : decode cX8_number 20 = .ok (.iload 6, 2) := by decide +kernel
theorem dX8_number_22 : decode cX8_number 22 = .ok (.iadd, 1) := by decide +kernel
theorem dX8_number_23 : decode cX8_number 23 = .ok (.baload, 1) := by decide +kernel
theorem dX8_number_24 : decode cX8_number 24 = .ok (.sipush 255, 3) := by decide +kernel
theorem dX8_number_27 : decode cX8_number 27 = .ok (.iand, 1) := by decide +kernel
theorem dX8_number_28 : decode cX8_number 28 = .ok (.i2l, 1) := by decide +kernel
theorem dX8_number_29 : decode cX8_number 29 = .ok (.ladd, 1) := by decide +kernel
theorem dX8_number_30 : decode cX8_number 30 = .ok (.lstore 4, 2) := by decide +kernel
theorem dX8_number_32 : decode cX8_number 32 = .ok (.iinc 6 1, 3) := by decide +kernel
theorem dX8_number_35 : decode cX8_number 35 = .ok (.goto (-29), 3) := by decide +kernel
theorem dX8_number_38 : decode cX8_number 38 = .ok (.lload 4, 2) := by decide +kernel
theorem dX8_number_40 : decode cX8_number 40 = .ok (.lreturn, 1) := by decide +kernel
theorem dX8_many_0 : decode cX8_many 0 = .ok (.iload_n 1, 1) := by decide +kernel
theorem dX8_many_1 : decode cX8_many 1 = .ok (.sipush 128, 3) := by decide +kernel
theorem dX8_many_4 : decode cX8_many 4 = .ok (.if_icmp .lt 10, 3) := by decide +kernel
theorem dX8_many_7 : decode cX8_many 7 = .ok (.iload_n 1, 1) := by decide +kernel
theorem dX8_many_8 : decode cX8_many 8 = .ok (.sipush 224, 3) := by decide +kernel
theorem dX8_many_11 : decode cX8_many 11 = .ok (.if_icmp .lt 5, 3) := by decide +kernel
theorem dX8_many_14 : decode cX8_many 14 = .ok (.lconst 0, 1) := by decide +kernel
theorem dX8_many_15 : decode cX8_many 15 = .ok (.lreturn, 1) := by decide +kernel
theorem dX8_many_16 : decode cX8_many 16 = .ok (.iload_n 1, 1) := by decide +kernel
theorem dX8_many_17 : decode cX8_many 17 = .ok (.sipush 160, 3) := by decide +kernel
theorem dX8_many_20 : decode cX8_many 20 = .ok (.if_icmp .ge 9, 3) := by decide +kernel
theorem dX8_many_23 : decode cX8_many 23 = .ok (.iload_n 1, 1) := by decide +kernel
theorem dX8_many_24 : decode cX8_many 24 = .ok (.bipush 16, 2) := by decide +kernel
theorem dX8_many_26 : decode cX8_many 26 = .ok (.irem, 1) := by decide +kernel
theorem dX8_many_27 : decode cX8_many 27 = .ok (.i2l, 1) := by decide +kernel
theorem dX8_many_28 : decode cX8_many 28 = .ok (.lreturn, 1) := by decide +kernel
theorem dX8_many_29 : decode cX8_many 29 = .ok (.iload_n 1, 1) := by decide +kernel
theorem dX8_many_30 : decode cX8_many 30 = .ok (.sipush 192, 3) := by decide +kernel
theorem dX8_many_33 : decode cX8_many 33 = .ok (.if_icmp .ge 9, 3) := by decide +kernel
theorem dX8_many_36 : decode cX8_many 36 = .ok (.iload_n 1, 1) := by decide +kernel
theorem dX8_many_37 : decode cX8_many 37 = .ok (.bipush 32, 2) := by decide +kernel
theorem dX8_many_39 : decode cX8_many 39 = .ok (.irem, 1) := by decide +kernel
theorem dX8_many_40 : decode cX8_many 40 = .ok (.i2l, 1) := by decide +kernel
theorem dX8_many_41 : decode cX8_many 41 = .ok (.lreturn, 1) := by decide +kernel
theorem dX8_many_42 : decode cX8_many 42 = .ok (.iload_n 1, 1) := by decide +kernel
theorem dX8_many_43 : decode cX8_many 43 = .ok (.sipush 212, 3) := by decide +kernel
theorem dX8_many_46 : decode cX8_many 46 = .ok (.if_icmp .lt 18, 3) := by decide +kernel
theorem dX8_many_49 : decode cX8_many 49 = .ok (.iload_n 1, 1) := by decide +kernel
theorem dX8_many_50 : decode cX8_many 50 = .ok (.sipush 216, 3) := by decide +kernel
theorem dX8_many_53 : decode cX8_many 53 = .ok (.if_icmp .gt 11, 3) := by decide +kernel
theorem dX8_many_56 : decode cX8_many 56 = .ok (.lconst 1, 1) := by decide +kernel
theorem dX8_many_57 : decode cX8_many 57 = .ok (.iload_n 1, 1) := by decide +kernel
theorem dX8_many_58 : decode cX8_many 58 = .ok (.sipush 212, 3) := by decide +kernel
theorem dX8_many_61 : decode cX8_many 61 = .ok (.isub, 1) := by decide +kernel
theorem dX8_many_62 : decode cX8_many 62 = .ok (.lshl, 1) := by decide +kernel
theorem dX8_many_63 : decode cX8_many 63 = .ok (.lreturn, 1) := by decide +kernel
theorem dX8_many_64 : decode cX8_many 64 = .ok (.iload_n 1, 1) := by decide +kernel
theorem dX8_many_65 : decode cX8_many 65 = .ok (.invokestatic 77, 3) := by decide +kernel
theorem dX8_many_68 : decode cX8_many 68 = .ok (.iconst 5, 1) := by decide +kernel
theorem dX8_many_69 : decode cX8_many 69 = .ok (.if_icmp .ge 7, 3) := by decide +kernel
theorem dX8_many_72 : decode cX8_many 72 = .ok (.lconst 0, 1) := by decide +kernel
theorem dX8_many_73 : decode cX8_many 73 = .ok (.goto 18, 3) := by decide +kernel
theorem dX8_many_76 : decode cX8_many 76 = .ok (.aload_n 0, 1) := by decide +kernel
theorem dX8_many_77 : decode cX8_many 77 = .ok (.aload_n 0, 1) := by decide +kernel
theorem dX8_many_78 : decode cX8_many 78 = .ok (.getfield 8, 3) := by decide +kernel
theorem dX8_many_81 : decode cX8_many 81 = .ok (.iload_n 2, 1) := by decide +kernel
theorem dX8_many_82 : decode cX8_many 82 = .ok (.iconst 1, 1) := by decide +kernel
theorem dX8_many_83 : decode cX8_many 83 = .ok (.iadd, 1) := by decide +kernel
theorem dX8_many_84 : decode cX8_many 84 = .ok (.iload_n 1, 1) := by decide +kernel
theorem dX8_many_85 : decode cX8_many 85 = .ok (.invokestatic 81, 3) := by decide +kernel
theorem dX8_many_88 : decode cX8_many 88 = .ok (.invokevirtual 84, 3) := by decide +kernel
theorem dX8_many_91 : decode cX8_many 91 = .ok (.lreturn, 1) := by decide +kernel
theorem dX8_headOf_0 : decode cX8_headOf 0 = .ok (.iconst 1, 1) := by decide +kernel
theorem dX8_headOf_1 : decode cX8_headOf 1 = .ok (.iload_n 0, 1) := by decide +kernel
theorem dX8_headOf_2 : decode cX8_headOf 2 = .ok (.invokestatic 81, 3) := by decide +kernel
theorem dX8_headOf_5 : decode cX8_headOf 5 = .ok (.iadd, 1) := by decide +kernel
theorem dX8_headOf_6 : decode cX8_headOf 6 = .ok (.iload_n 0, 1) := by decide +kernel
theorem dX8_headOf_7 : decode cX8_headOf 7 = .ok (.invokestatic 77, 3) := by decide +kernel
theorem dX8_headOf_10 : decode cX8_headOf 10 = .ok (.bipush 9, 2) := by decide +kernel
theorem dX8_headOf_12 : decode cX8_headOf 12 = .ok (.if_icmp .ne 7, 3) := by decide +kernel
theorem dX8_headOf_15 : decode cX8_headOf 15 = .ok (.iconst 1, 1) := by decide +kernel
theorem dX8_headOf_16 : decode cX8_headOf 16 = .ok (.goto 4, 3) := by decide +kernel
theorem dX8_headOf_19 : decode cX8_headOf 19 = .ok (.iconst 0, 1) := by decide +kernel
theorem dX8_headOf_20 : decode cX8_headOf 20 = .ok (.iadd, 1) := by decide +kernel
theorem dX8_headOf_21 : decode cX8_headOf 21 = .ok (.ireturn, 1) := by decide +kernel
theorem dX8_isGroup_0 : decode cX8_isGroup 0 = .ok (.iload_n 0, 1) := by decide +kernel
theorem dX8_isGroup_1 : decode cX8_isGroup 1 = .ok (.bipush 7, 2) := by decide +kernel
theorem dX8_isGroup_3 : decode cX8_isGroup 3 = .ok (.if_icmp .eq 9, 3) := by decide +kernel
theorem dX8_isGroup_6 : decode cX8_isGroup 6 = .ok (.iload_n 0, 1) := by decide +kernel
theorem dX8_isGroup_7 : decode cX8_isGroup 7 = .ok (.bipush 8, 2) := by decide +kernel
theorem dX8_isGroup_9 : decode cX8_isGroup 9 = .ok (.if_icmp .ne 7, 3) := by decide +kernel
theorem dX8_isGroup_12 : decode cX8_isGroup 12 = .ok (.iconst 1, 1) := by decide +kernel
theorem dX8_isGroup_13 : decode cX8_isGroup 13 = .ok (.goto 4, 3) := by decide +kernel
theorem dX8_isGroup_16 : decode cX8_isGroup 16 = .ok (.iconst 0, 1) := by decide +kernel
theorem dX8_isGroup_17 : decode cX8_isGroup 17 = .ok (.ireturn, 1) := by decide +kernel
theorem dX8_skip_0 : decode cX8_skip 0 = .ok (.aload_n 0, 1) := by decide +kernel
theorem dX8_skip_1 : decode cX8_skip 1 = .ok (.iload_n 1, 1) := by decide +kernel
theorem dX8_skip_2 : decode cX8_skip 2 = .ok (.ifCond .lt 15, 3) := by decide +kernel
theorem dX8_skip_5 : decode cX8_skip 5 = .ok (.iload_n 1, 1) := by decide +kernel
theorem dX8_skip_6 : decode cX8_skip 6 = .ok (.aload_n 0, 1) := by decide +kernel
theorem dX8_skip_7 : decode cX8_skip 7 = .ok (.getfield 88, 3) := by decide +kernel
theorem dX8_skip_10 : decode cX8_skip 10 = .ok (.if_icmp .ge 7, 3) := by decide +kernel
theorem dX8_skip_13 : decode cX8_skip 13 = .ok (.iconst 0, 1) := by decide +kernel
theorem dX8_skip_14 : decode cX8_skip 14 = .ok (.goto 4, 3) := by decide +kernel
theorem dX8_skip_17 : decode cX8_skip 17 = .ok (.iconst 1, 1) := by decide +kernel
theorem dX8_skip_18 : decode cX8_skip 18 = .ok (.putfield 71, 3) := by decide +kernel
theorem dX8_skip_21 : decode cX8_skip 21 = .ok (.aload_n 0, 1) := by decide +kernel
theorem dX8_skip_22 : decode cX8_skip 22 = .ok (.getfield 71, 3) := by decide +kernel
theorem dX8_skip_25 : decode cX8_skip 25 = .ok (.ifCond .le 5, 3) := by decide +kernel
theorem dX8_skip_28 : decode cX8_skip 28 = .ok (.iconst 0, 1) := by decide +kernel
theorem dX8_skip_29 : decode cX8_skip 29 = .ok (.ireturn, 1) := by decide +kernel
theorem dX8_skip_30 : decode cX8_skip 30 = .ok (.lconst 1, 1) := by decide +kernel
theorem dX8_skip_31 : decode cX8_skip 31 = .ok (.lstore_n 2, 1) := by decide +kernel
theorem dX8_skip_32 : decode cX8_skip 32 = .ok (.iload_n 1, 1) := by decide +kernel
theorem dX8_skip_33 : decode cX8_skip 33 = .ok (.i2l, 1) := by decide +kernel
theorem dX8_skip_34 : decode cX8_skip 34 = .ok (.lstore 4, 2) := by decide +kernel
theorem dX8_skip_36 : decode cX8_skip 36 = .ok (.lload_n 2, 1) := by decide +kernel
theorem dX8_skip_37 : decode cX8_skip 37 = .ok (.lconst 0, 1) := by decide +kernel
theorem dX8_skip_38 : decode cX8_skip 38 = .ok (.lcmp, 1) := by decide +kernel
theorem dX8_skip_39 : decode cX8_skip 39 = .ok (.ifCond .le 136, 3) := by decide +kernel
theorem dX8_skip_42 : decode cX8_skip 42 = .ok (.lload 4, 2) := by decide +kernel
theorem dX8_skip_44 : decode cX8_skip 44 = .ok (.aload_n 0, 1) := by decide +kernel
theorem dX8_skip_45 : decode cX8_skip 45 = .ok (.getfield 88, 3) := by decide +kernel
theorem dX8_skip_48 : decode cX8_skip 48 = .ok (.i2l, 1) := by decide +kernel
theorem dX8_skip_49 : decode cX8_skip 49 = .ok (.lcmp, 1) := by decide +kernel
theorem dX8_skip_50 : decode cX8_skip 50 = .ok (.ifCond .lt 5, 3) := by decide +kernel
theorem dX8_skip_53 : decode cX8_skip 53 = .ok (.iconst (-1), 1) := by decide +kernel
theorem dX8_skip_54 : decode cX8_skip 54 = .ok (.ireturn, 1) := by decide +kernel
theorem dX8_skip_55 : decode cX8_skip 55 = .ok (.aload_n 0, 1) := by decide +kernel
theorem dX8_skip_56 : decode cX8_skip 56 = .ok (.getfield 8, 3) := by decide +kernel
theorem dX8_skip_59 : decode cX8_skip 59 = .ok (.lload 4, 2) := by decide +kernel
theorem dX8_skip_61 : decode cX8_skip 61 = .ok (.l2i, 1) := by decide +kernel
theorem dX8_skip_62 : decode cX8_skip 62 = .ok (.baload, 1) := by decide +kernel
theorem dX8_skip_63 : decode cX8_skip 63 = .ok (.sipush 255, 3) := by decide +kernel
theorem dX8_skip_66 : decode cX8_skip 66 = .ok (.iand, 1) := by decide +kernel
theorem dX8_skip_67 : decode cX8_skip 67 = .ok (.istore 6, 2) := by decide +kernel
theorem dX8_skip_69 : decode cX8_skip 69 = .ok (.iload 6, 2) := by decide +kernel
theorem dX8_skip_71 : decode cX8_skip 71 = .ok (.invokestatic 77, 3) := by decide +kernel
theorem dX8_skip_74 : decode cX8_skip 74 = .ok (.istore 7, 2) := by decide +kernel
theorem dX8_skip_76 : decode cX8_skip 76 = .ok (.iload 7, 2) := by decide +kernel
theorem dX8_skip_78 : decode cX8_skip 78 = .ok (.ifCond .lt 21, 3) := by decide +kernel
theorem dX8_skip_81 : decode cX8_skip 81 = .ok (.lload 4, 2) := by decide +kernel
theorem dX8_skip_83 : decode cX8_skip 83 = .ok (.iload 6, 2) := by decide +kernel
theorem dX8_skip_85 : decode cX8_skip 85 = .ok (.invokestatic 91, 3) := by decide +kernel
theorem dX8_skip_88 : decode cX8_skip 88 = .ok (.i2l, 1) := by decide +kernel
theorem dX8_skip_89 : decode cX8_skip 89 = .ok (.ladd, 1) := by decide +kernel
theorem dX8_skip_90 : decode cX8_skip 90 = .ok (.aload_n 0, 1) := by decide +kernel
theorem dX8_skip_91 : decode cX8_skip 91 = .ok (.getfield 88, 3) := by decide +kernel
theorem dX8_skip_94 : decode cX8_skip 94 = .ok (.i2l, 1) := by decide +kernel
theorem dX8_skip_95 : decode cX8_skip 95 = .ok (.lcmp, 1) := by decide +kernel
theorem dX8_skip_96 : decode cX8_skip 96 = .ok (.ifCond .le 5, 3) := by decide +kernel
theorem dX8_skip_99 : decode cX8_skip 99 = .ok (.iconst (-1), 1) := by decide +kernel
theorem dX8_skip_100 : decode cX8_skip 100 = .ok (.ireturn, 1) := by decide +kernel
theorem dX8_skip_101 : decode cX8_skip 101 = .ok (.aload_n 0, 1) := by decide +kernel
theorem dX8_skip_102 : decode cX8_skip 102 = .ok (.iload 6, 2) := by decide +kernel
theorem dX8_skip_104 : decode cX8_skip 104 = .ok (.lload 4, 2) := by decide +kernel
theorem dX8_skip_106 : decode cX8_skip 106 = .ok (.l2i, 1) := by decide +kernel
theorem dX8_skip_107 : decode cX8_skip 107 = .ok (.invokevirtual 94, 3) := by decide +kernel
theorem dX8_skip_110 : decode cX8_skip 110 = .ok (.lstore 8, 2) := by decide +kernel
theorem dX8_skip_112 : decode cX8_skip 112 = .ok (.lload_n 2, 1) := by decide +kernel
theorem dX8_skip_113 : decode cX8_skip 113 = .ok (.lconst 1, 1) := by decide +kernel
theorem dX8_skip_114 : decode cX8_skip 114 = .ok (.lsub, 1) := by decide +kernel
theorem dX8_skip_115 : decode cX8_skip 115 = .ok (.iload 7, 2) := by decide +kernel
theorem dX8_skip_117 : decode cX8_skip 117 = .ok (.bipush 7, 2) := by decide +kernel
theorem dX8_skip_119 : decode cX8_skip 119 = .ok (.if_icmp .ne 8, 3) := by decide +kernel
theorem dX8_skip_122 : decode cX8_skip 122 = .ok (.lload 8, 2) := by decide +kernel
theorem dX8_skip_124 : decode cX8_skip 124 = .ok (.goto 20, 3) := by decide +kernel
theorem dX8_skip_127 : decode cX8_skip 127 = .ok (.iload 7, 2) := by decide +kernel
theorem dX8_skip_129 : decode cX8_skip 129 = .ok (.bipush 8, 2) := by decide +kernel
theorem dX8_skip_131 : decode cX8_skip 131 = .ok (.if_icmp .ne 12, 3) := by decide +kernel
theorem dX8_skip_134 : decode cX8_skip 134 = .ok (.ldc2_w 98, 3) := by decide +kernel
theorem dX8_skip_137 : decode cX8_skip 137 = .ok (.lload 8, 2) := by decide +kernel
theorem dX8_skip_139 : decode cX8_skip 139 = .ok (.lmul, 1) := by decide +kernel
theorem dX8_skip_140 : decode cX8_skip 140 = .ok (.goto 4, 3) := by decide +kernel
theorem dX8_skip_143 : decode cX8_skip 143 = .ok (.lconst 0, 1) := by decide +kernel
theorem dX8_skip_144 : decode cX8_skip 144 = .ok (.ladd, 1) := by decide +kernel
theorem dX8_skip_145 : decode cX8_skip 145 = .ok (.lstore_n 2, 1) := by decide +kernel
theorem dX8_skip_146 : decode cX8_skip 146 = .ok (.lload 4, 2) := by decide +kernel
theorem dX8_skip_148 : decode cX8_skip 148 = .ok (.iload 6, 2) := by decide +kernel
theorem dX8_skip_150 : decode cX8_skip 150 = .ok (.invokestatic 91, 3) := by decide +kernel
theorem dX8_skip_153 : decode cX8_skip 153 = .ok (.i2l, 1) := by decide +kernel
theorem dX8_skip_154 : decode cX8_skip 154 = .ok (.ladd, 1) := by decide +kernel
theorem dX8_skip_155 : decode cX8_skip 155 = .ok (.iload 7, 2) := by decide +kernel
theorem dX8_skip_157 : decode cX8_skip 157 = .ok (.invokestatic 100, 3) := by decide +kernel
theorem dX8_skip_160 : decode cX8_skip 160 = .ok (.ifCond .eq 7, 3) := by decide +kernel
theorem dX8_skip_163 : decode cX8_skip 163 = .ok (.lconst 0, 1) := by decide +kernel
theorem dX8_skip_164 : decode cX8_skip 164 = .ok (.goto 5, 3) := by decide +kernel
theorem dX8_skip_167 : decode cX8_skip 167 = .ok (.lload 8, 2) := by decide +kernel
theorem dX8_skip_169 : decode cX8_skip 169 = .ok (.ladd, 1) := by decide +kernel
theorem dX8_skip_170 : decode cX8_skip 170 = .ok (.lstore 4, 2) := by decide +kernel
theorem dX8_skip_172 : decode cX8_skip 172 = .ok (.goto (-136), 3) := by decide +kernel
theorem dX8_skip_175 : decode cX8_skip 175 = .ok (.lload 4, 2) := by decide +kernel
theorem dX8_skip_177 : decode cX8_skip 177 = .ok (.aload_n 0, 1) := by decide +kernel
theorem dX8_skip_178 : decode cX8_skip 178 = .ok (.getfield 88, 3) := by decide +kernel
theorem dX8_skip_181 : decode cX8_skip 181 = .ok (.i2l, 1) := by decide +kernel
theorem dX8_skip_182 : decode cX8_skip 182 = .ok (.lcmp, 1) := by decide +kernel
theorem dX8_skip_183 : decode cX8_skip 183 = .ok (.ifCond .le 7, 3) := by decide +kernel
theorem dX8_skip_186 : decode cX8_skip 186 = .ok (.iconst (-1), 1) := by decide +kernel
theorem dX8_skip_187 : decode cX8_skip 187 = .ok (.goto 6, 3) := by decide +kernel
theorem dX8_skip_190 : decode cX8_skip 190 = .ok (.lload 4, 2) := by decide +kernel
theorem dX8_skip_192 : decode cX8_skip 192 = .ok (.l2i, 1) := by decide +kernel
theorem dX8_skip_193 : decode cX8_skip 193 = .ok (.ireturn, 1) := by decide +kernel
theorem dX8_goodPart_0 : decode cX8_goodPart 0 = .ok (.iload_n 1, 1) := by decide +kernel
theorem dX8_goodPart_1 : decode cX8_goodPart 1 = .ok (.istore_n 3, 1) := by decide +kernel
theorem dX8_goodPart_2 : decode cX8_goodPart 2 = .ok (.iload_n 3, 1) := by decide +kernel
theorem dX8_goodPart_3 : decode cX8_goodPart 3 = .ok (.iload_n 2, 1) := by decide +kernel
theorem dX8_goodPart_4 : decode cX8_goodPart 4 = .ok (.if_icmp .ge 275, 3) := by decide +kernel
theorem dX8_goodPart_7 : decode cX8_goodPart 7 = .ok (.aload_n 0, 1) := by decide +kernel
theorem dX8_goodPart_8 : decode cX8_goodPart 8 = .ok (.iload_n 3, 1) := by decide +kernel
theorem dX8_goodPart_9 : decode cX8_goodPart 9 = .ok (.baload, 1) := by decide +kernel
theorem dX8_goodPart_10 : decode cX8_goodPart 10 = .ok (.sipush 255, 3) := by decide +kernel
theorem dX8_goodPart_13 : decode cX8_goodPart 13 = .ok (.iand, 1) := by decide +kernel
theorem dX8_goodPart_14 : decode cX8_goodPart 14 = .ok (.istore 4, 2) := by decide +kernel
theorem dX8_goodPart_16 : decode cX8_goodPart 16 = .ok (.iload 4, 2) := by decide +kernel
theorem dX8_goodPart_18 : decode cX8_goodPart 18 = .ok (.sipush 128, 3) := by decide +kernel
theorem dX8_goodPart_21 : decode cX8_goodPart 21 = .ok (.if_icmp .ge 7, 3) := by decide +kernel
theorem dX8_goodPart_24 : decode cX8_goodPart 24 = .ok (.iconst 1, 1) := by decide +kernel
theorem dX8_goodPart_25 : decode cX8_goodPart 25 = .ok (.goto 64, 3) := by decide +kernel
theorem dX8_goodPart_28 : decode cX8_goodPart 28 = .ok (.iload 4, 2) := by decide +kernel
theorem dX8_goodPart_30 : decode cX8_goodPart 30 = .ok (.sipush 192, 3) := by decide +kernel
theorem dX8_goodPart_33 : decode cX8_goodPart 33 = .ok (.if_icmp .lt 15, 3) := by decide +kernel
theorem dX8_goodPart_36 : decode cX8_goodPart 36 = .ok (.iload 4, 2) := by decide +kernel
theorem dX8_goodPart_38 : decode cX8_goodPart 38 = .ok (.sipush 224, 3) := by decide +kernel
theorem dX8_goodPart_41 : decode cX8_goodPart 41 = .ok (.if_icmp .ge 7, 3) := by decide +kernel
theorem dX8_goodPart_44 : decode cX8_goodPart 44 = .ok (.iconst 2, 1) := by decide +kernel
theorem dX8_goodPart_45 : decode cX8_goodPart 45 = .ok (.goto 44, 3) := by decide +kernel
theorem dX8_goodPart_48 : decode cX8_goodPart 48 = .ok (.iload 4, 2) := by decide +kernel
theorem dX8_goodPart_50 : decode cX8_goodPart 50 = .ok (.sipush 224, 3) := by decide +kernel
theorem dX8_goodPart_53 : decode cX8_goodPart 53 = .ok (.if_icmp .lt 15, 3) := by decide +kernel
theorem dX8_goodPart_56 : decode cX8_goodPart 56 = .ok (.iload 4, 2) := by decide +kernel
theorem dX8_goodPart_58 : decode cX8_goodPart 58 = .ok (.sipush 240, 3) := by decide +kernel
theorem dX8_goodPart_61 : decode cX8_goodPart 61 = .ok (.if_icmp .ge 7, 3) := by decide +kernel
theorem dX8_goodPart_64 : decode cX8_goodPart 64 = .ok (.iconst 3, 1) := by decide +kernel
theorem dX8_goodPart_65 : decode cX8_goodPart 65 = .ok (.goto 24, 3) := by decide +kernel
theorem dX8_goodPart_68 : decode cX8_goodPart 68 = .ok (.iload 4, 2) := by decide +kernel
theorem dX8_goodPart_70 : decode cX8_goodPart 70 = .ok (.sipush 240, 3) := by decide +kernel
theorem dX8_goodPart_73 : decode cX8_goodPart 73 = .ok (.if_icmp .lt 15, 3) := by decide +kernel
theorem dX8_goodPart_76 : decode cX8_goodPart 76 = .ok (.iload 4, 2) := by decide +kernel
theorem dX8_goodPart_78 : decode cX8_goodPart 78 = .ok (.sipush 248, 3) := by decide +kernel
theorem dX8_goodPart_81 : decode cX8_goodPart 81 = .ok (.if_icmp .ge 7, 3) := by decide +kernel
theorem dX8_goodPart_84 : decode cX8_goodPart 84 = .ok (.iconst 4, 1) := by decide +kernel
theorem dX8_goodPart_85 : decode cX8_goodPart 85 = .ok (.goto 4, 3) := by decide +kernel
theorem dX8_goodPart_88 : decode cX8_goodPart 88 = .ok (.iconst 0, 1) := by decide +kernel
theorem dX8_goodPart_89 : decode cX8_goodPart 89 = .ok (.istore 5, 2) := by decide +kernel
theorem dX8_goodPart_91 : decode cX8_goodPart 91 = .ok (.iload 5, 2) := by decide +kernel
theorem dX8_goodPart_93 : decode cX8_goodPart 93 = .ok (.ifCond .eq 11, 3) := by decide +kernel
theorem dX8_goodPart_96 : decode cX8_goodPart 96 = .ok (.iload_n 3, 1) := by decide +kernel
theorem dX8_goodPart_97 : decode cX8_goodPart 97 = .ok (.iload 5, 2) := by decide +kernel
theorem dX8_goodPart_99 : decode cX8_goodPart 99 = .ok (.iadd, 1) := by decide +kernel
theorem dX8_goodPart_100 : decode cX8_goodPart 100 = .ok (.iload_n 2, 1) := by decide +kernel
theorem dX8_goodPart_101 : decode cX8_goodPart 101 = .ok (.if_icmp .le 7, 3) := by decide +kernel
theorem dX8_goodPart_104 : decode cX8_goodPart 104 = .ok (.iload_n 3, 1) := by decide +kernel
theorem dX8_goodPart_105 : decode cX8_goodPart 105 = .ok (.iload_n 1, 1) := by decide +kernel
theorem dX8_goodPart_106 : decode cX8_goodPart 106 = .ok (.isub, 1) := by decide +kernel
theorem dX8_goodPart_107 : decode cX8_goodPart 107 = .ok (.ireturn, 1) := by decide +kernel
theorem dX8_goodPart_108 : decode cX8_goodPart 108 = .ok (.iload 5, 2) := by decide +kernel
theorem dX8_goodPart_110 : decode cX8_goodPart 110 = .ok (.iconst 1, 1) := by decide +kernel
theorem dX8_goodPart_111 : decode cX8_goodPart 111 = .ok (.if_icmp .ne 8, 3) := by decide +kernel
theorem dX8_goodPart_114 : decode cX8_goodPart 114 = .ok (.iload 4, 2) := by decide +kernel
theorem dX8_goodPart_116 : decode cX8_goodPart 116 = .ok (.goto 13, 3) := by decide +kernel
theorem dX8_goodPart_119 : decode cX8_goodPart 119 = .ok (.iload 4, 2) := by decide +kernel
theorem dX8_goodPart_121 : decode cX8_goodPart 121 = .ok (.iconst 1, 1) := by decide +kernel
theorem dX8_goodPart_122 : decode cX8_goodPart 122 = .ok (.bipush 7, 2) := by decide +kernel
theorem dX8_goodPart_124 : decode cX8_goodPart 124 = .ok (.iload 5, 2) := by decide +kernel
theorem dX8_goodPart_126 : decode cX8_goodPart 126 = .ok (.isub, 1) := by decide +kernel
theorem dX8_goodPart_127 : decode cX8_goodPart 127 = .ok (.ishl, 1) := by decide +kernel
theorem dX8_goodPart_128 : decode cX8_goodPart 128 = .ok (.irem, 1) := by decide +kernel
theorem dX8_goodPart_129 : decode cX8_goodPart 129 = .ok (.istore 6, 2) := by decide +kernel
theorem dX8_goodPart_131 : decode cX8_goodPart 131 = .ok (.iconst 1, 1) := by decide +kernel
theorem dX8_goodPart_132 : decode cX8_goodPart 132 = .ok (.istore 7, 2) := by decide +kernel
theorem dX8_goodPart_134 : decode cX8_goodPart 134 = .ok (.iconst 1, 1) := by decide +kernel
theorem dX8_goodPart_135 : decode cX8_goodPart 135 = .ok (.istore 8, 2) := by decide +kernel
theorem dX8_goodPart_137 : decode cX8_goodPart 137 = .ok (.iload 8, 2) := by decide +kernel
theorem dX8_goodPart_139 : decode cX8_goodPart 139 = .ok (.iload 5, 2) := by decide +kernel
theorem dX8_goodPart_141 : decode cX8_goodPart 141 = .ok (.if_icmp .ge 55, 3) := by decide +kernel
theorem dX8_goodPart_144 : decode cX8_goodPart 144 = .ok (.aload_n 0, 1) := by decide +kernel
theorem dX8_goodPart_145 : decode cX8_goodPart 145 = .ok (.iload_n 3, 1) := by decide +kernel
theorem dX8_goodPart_146 : decode cX8_goodPart 146 = .ok (.iload 8, 2) := by decide +kernel
theorem dX8_goodPart_148 : decode cX8_goodPart 148 = .ok (.iadd, 1) := by decide +kernel
theorem dX8_goodPart_149 : decode cX8_goodPart 149 = .ok (.baload, 1) := by decide +kernel
theorem dX8_goodPart_150 : decode cX8_goodPart 150 = .ok (.sipush 255, 3) := by decide +kernel
theorem dX8_goodPart_153 : decode cX8_goodPart 153 = .ok (.iand, 1) := by decide +kernel
theorem dX8_goodPart_154 : decode cX8_goodPart 154 = .ok (.istore 9, 2) := by decide +kernel
theorem dX8_goodPart_156 : decode cX8_goodPart 156 = .ok (.iload 7, 2) := by decide +kernel
theorem dX8_goodPart_158 : decode cX8_goodPart 158 = .ok (.ifCond .eq 16, 3) := by decide +kernel
theorem dX8_goodPart_161 : decode cX8_goodPart 161 = .ok (.iload 9, 2) := by decide +kernel
theorem dX8_goodPart_163 : decode cX8_goodPart 163 = .ok (.bipush 64, 2) := by decide +kernel
theorem dX8_goodPart_165 : decode cX8_goodPart 165 = .ok (.idiv, 1) := by decide +kernel
theorem dX8_goodPart_166 : decode cX8_goodPart 166 = .ok (.iconst 2, 1) := by decide +kernel
theorem dX8_goodPart_167 : decode cX8_goodPart 167 = .ok (.if_icmp .ne 7, 3) := by decide +kernel
theorem dX8_goodPart_170 : decode cX8_goodPart 170 = .ok (.iconst 1, 1) := by decide +kernel
theorem dX8_goodPart_171 : decode cX8_goodPart 171 = .ok (.goto 4, 3) := by decide +kernel
theorem dX8_goodPart_174 : decode cX8_goodPart 174 = .ok (.iconst 0, 1) := by decide +kernel
theorem dX8_goodPart_175 : decode cX8_goodPart 175 = .ok (.istore 7, 2) := by decide +kernel
theorem dX8_goodPart_177 : decode cX8_goodPart 177 = .ok (.iload 6, 2) := by decide +kernel
theorem dX8_goodPart_179 : decode cX8_goodPart 179 = .ok (.bipush 64, 2) := by decide +kernel
theorem dX8_goodPart_181 : decode cX8_goodPart 181 = .ok (.imul, 1) := by decide +kernel
theorem dX8_goodPart_182 : decode cX8_goodPart 182 = .ok (.iload 9, 2) := by decide +kernel
theorem dX8_goodPart_184 : decode cX8_goodPart 184 = .ok (.bipush 64, 2) := by decide +kernel
theorem dX8_goodPart_186 : decode cX8_goodPart 186 = .ok (.irem, 1) := by decide +kernel
theorem dX8_goodPart_187 : decode cX8_goodPart 187 = .ok (.iadd, 1) := by decide +kernel
theorem dX8_goodPart_188 : decode cX8_goodPart 188 = .ok (.istore 6, 2) := by decide +kernel
theorem dX8_goodPart_190 : decode cX8_goodPart 190 = .ok (.iinc 8 1, 3) := by decide +kernel
theorem dX8_goodPart_193 : decode cX8_goodPart 193 = .ok (.goto (-56), 3) := by decide +kernel
theorem dX8_goodPart_196 : decode cX8_goodPart 196 = .ok (.iload 5, 2) := by decide +kernel
theorem dX8_goodPart_198 : decode cX8_goodPart 198 = .ok (.iconst 1, 1) := by decide +kernel
theorem dX8_goodPart_199 : decode cX8_goodPart 199 = .ok (.if_icmp .ne 7, 3) := by decide +kernel
theorem dX8_goodPart_202 : decode cX8_goodPart 202 = .ok (.iconst 0, 1) := by decide +kernel
theorem dX8_goodPart_203 : decode cX8_goodPart 203 = .ok (.goto 29, 3) := by decide +kernel
theorem dX8_goodPart_206 : decode cX8_goodPart 206 = .ok (.iload 5, 2) := by decide +kernel
theorem dX8_goodPart_208 : decode cX8_goodPart 208 = .ok (.iconst 2, 1) := by decide +kernel
theorem dX8_goodPart_209 : decode cX8_goodPart 209 = .ok (.if_icmp .ne 9, 3) := by decide +kernel
theorem dX8_goodPart_212 : decode cX8_goodPart 212 = .ok (.sipush 128, 3) := by decide +kernel
theorem dX8_goodPart_215 : decode cX8_goodPart 215 = .ok (.goto 17, 3) := by decide +kernel
theorem dX8_goodPart_218 : decode cX8_goodPart 218 = .ok (.iload 5, 2) := by decide +kernel
theorem dX8_goodPart_220 : decode cX8_goodPart 220 = .ok (.iconst 3, 1) := by decide +kernel
theorem dX8_goodPart_221 : decode cX8_goodPart 221 = .ok (.if_icmp .ne 9, 3) := by decide +kernel
theorem dX8_goodPart_224 : decode cX8_goodPart 224 = .ok (.sipush 2048, 3) := by decide +kernel
theorem dX8_goodPart_227 : decode cX8_goodPart 227 = .ok (.goto 5, 3) := by decide +kernel
theorem dX8_goodPart_230 : decode cX8_goodPart 230 = .ok (.ldc 7, 2) := by decide +kernel
theorem dX8_goodPart_232 : decode cX8_goodPart 232 = .ok (.istore 8, 2) := by decide +kernel
theorem dX8_goodPart_234 : decode cX8_goodPart 234 = .ok (.iload 7, 2) := by decide +kernel
theorem dX8_goodPart_236 : decode cX8_goodPart 236 = .ok (.ifCond .eq 31, 3) := by decide +kernel
theorem dX8_goodPart_239 : decode cX8_goodPart 239 = .ok (.iload 6, 2) := by decide +kernel
theorem dX8_goodPart_241 : decode cX8_goodPart 241 = .ok (.iload 8, 2) := by decide +kernel
theorem dX8_goodPart_243 : decode cX8_goodPart 243 = .ok (.if_icmp .lt 24, 3) := by decide +kernel
theorem dX8_goodPart_246 : decode cX8_goodPart 246 = .ok (.iload 6, 2) := by decide +kernel
theorem dX8_goodPart_248 : decode cX8_goodPart 248 = .ok (.ldc 104, 2) := by decide +kernel
theorem dX8_goodPart_250 : decode cX8_goodPart 250 = .ok (.if_icmp .gt 17, 3) := by decide +kernel
theorem dX8_goodPart_253 : decode cX8_goodPart 253 = .ok (.iload 6, 2) := by decide +kernel
theorem dX8_goodPart_255 : decode cX8_goodPart 255 = .ok (.ldc 105, 2) := by decide +kernel
theorem dX8_goodPart_257 : decode cX8_goodPart 257 = .ok (.if_icmp .lt 14, 3) := by decide +kernel
theorem dX8_goodPart_260 : decode cX8_goodPart 260 = .ok (.iload 6, 2) := by decide +kernel
theorem dX8_goodPart_262 : decode cX8_goodPart 262 = .ok (.ldc 106, 2) := by decide +kernel
theorem dX8_goodPart_264 : decode cX8_goodPart 264 = .ok (.if_icmp .gt 7, 3) := by decide +kernel
theorem dX8_goodPart_267 : decode cX8_goodPart 267 = .ok (.iload_n 3, 1) := by decide +kernel
theorem dX8_goodPart_268 : decode cX8_goodPart 268 = .ok (.iload_n 1, 1) := by decide +kernel
theorem dX8_goodPart_269 : decode cX8_goodPart 269 = .ok (.isub, 1) := by decide +kernel
theorem dX8_goodPart_270 : decode cX8_goodPart 270 = .ok (.ireturn, 1) := by decide +kernel
theorem dX8_goodPart_271 : decode cX8_goodPart 271 = .ok (.iload_n 3, 1) := by decide +kernel
theorem dX8_goodPart_272 : decode cX8_goodPart 272 = .ok (.iload 5, 2) := by decide +kernel
theorem dX8_goodPart_274 : decode cX8_goodPart 274 = .ok (.iadd, 1) := by decide +kernel
theorem dX8_goodPart_275 : decode cX8_goodPart 275 = .ok (.istore_n 3, 1) := by decide +kernel
theorem dX8_goodPart_276 : decode cX8_goodPart 276 = .ok (.goto (-274), 3) := by decide +kernel
theorem dX8_goodPart_279 : decode cX8_goodPart 279 = .ok (.iload_n 2, 1) := by decide +kernel
theorem dX8_goodPart_280 : decode cX8_goodPart 280 = .ok (.iload_n 1, 1) := by decide +kernel
theorem dX8_goodPart_281 : decode cX8_goodPart 281 = .ok (.isub, 1) := by decide +kernel
theorem dX8_goodPart_282 : decode cX8_goodPart 282 = .ok (.ireturn, 1) := by decide +kernel
theorem dX8_make_0 : decode cX8_make 0 = .ok (.aload_n 0, 1) := by decide +kernel
theorem dX8_make_1 : decode cX8_make 1 = .ok (.getfield 107, 3) := by decide +kernel
theorem dX8_make_4 : decode cX8_make 4 = .ok (.istore 4, 2) := by decide +kernel
theorem dX8_make_6 : decode cX8_make 6 = .ok (.aload_n 0, 1) := by decide +kernel
theorem dX8_make_7 : decode cX8_make 7 = .ok (.dup, 1) := by decide +kernel
theorem dX8_make_8 : decode cX8_make 8 = .ok (.getfield 107, 3) := by decide +kernel
theorem dX8_make_11 : decode cX8_make 11 = .ok (.iconst 1, 1) := by decide +kernel
theorem dX8_make_12 : decode cX8_make 12 = .ok (.iadd, 1) := by decide +kernel
theorem dX8_make_13 : decode cX8_make 13 = .ok (.putfield 107, 3) := by decide +kernel
theorem dX8_make_16 : decode cX8_make 16 = .ok (.aload_n 0, 1) := by decide +kernel
theorem dX8_make_17 : decode cX8_make 17 = .ok (.getfield 17, 3) := by decide +kernel
theorem dX8_make_20 : decode cX8_make 20 = .ok (.iload 4, 2) := by decide +kernel
theorem dX8_make_22 : decode cX8_make 22 = .ok (.iload_n 1, 1) := by decide +kernel
theorem dX8_make_23 : decode cX8_make 23 = .ok (.iastore, 1) := by decide +kernel
theorem dX8_make_24 : decode cX8_make 24 = .ok (.aload_n 0, 1) := by decide +kernel
theorem dX8_make_25 : decode cX8_make 25 = .ok (.getfield 21, 3) := by decide +kernel
theorem dX8_make_28 : decode cX8_make 28 = .ok (.iload 4, 2) := by decide +kernel
theorem dX8_make_30 : decode cX8_make 30 = .ok (.lload_n 2, 1) := by decide +kernel
theorem dX8_make_31 : decode cX8_make 31 = .ok (.lastore, 1) := by decide +kernel
theorem dX8_make_32 : decode cX8_make 32 = .ok (.aload_n 0, 1) := by decide +kernel
theorem dX8_make_33 : decode cX8_make 33 = .ok (.getfield 25, 3) := by decide +kernel
theorem dX8_make_36 : decode cX8_make 36 = .ok (.iload 4, 2) := by decide +kernel
theorem dX8_make_38 : decode cX8_make 38 = .ok (.iconst 0, 1) := by decide +kernel
theorem dX8_make_39 : decode cX8_make 39 = .ok (.bastore, 1) := by decide +kernel
theorem dX8_make_40 : decode cX8_make 40 = .ok (.aload_n 0, 1) := by decide +kernel
theorem dX8_make_41 : decode cX8_make 41 = .ok (.getfield 29, 3) := by decide +kernel
theorem dX8_make_44 : decode cX8_make 44 = .ok (.iload 4, 2) := by decide +kernel
theorem dX8_make_46 : decode cX8_make 46 = .ok (.iconst 0, 1) := by decide +kernel
theorem dX8_make_47 : decode cX8_make 47 = .ok (.iastore, 1) := by decide +kernel
theorem dX8_make_48 : decode cX8_make 48 = .ok (.aload_n 0, 1) := by decide +kernel
theorem dX8_make_49 : decode cX8_make 49 = .ok (.getfield 32, 3) := by decide +kernel
theorem dX8_make_52 : decode cX8_make 52 = .ok (.iload 4, 2) := by decide +kernel
theorem dX8_make_54 : decode cX8_make 54 = .ok (.iconst (-1), 1) := by decide +kernel
theorem dX8_make_55 : decode cX8_make 55 = .ok (.iastore, 1) := by decide +kernel
theorem dX8_make_56 : decode cX8_make 56 = .ok (.aload_n 0, 1) := by decide +kernel
theorem dX8_make_57 : decode cX8_make 57 = .ok (.getfield 35, 3) := by decide +kernel
theorem dX8_make_60 : decode cX8_make 60 = .ok (.iload 4, 2) := by decide +kernel
theorem dX8_make_62 : decode cX8_make 62 = .ok (.iconst (-1), 1) := by decide +kernel
theorem dX8_make_63 : decode cX8_make 63 = .ok (.iastore, 1) := by decide +kernel
theorem dX8_make_64 : decode cX8_make 64 = .ok (.aload_n 0, 1) := by decide +kernel
theorem dX8_make_65 : decode cX8_make 65 = .ok (.getfield 38, 3) := by decide +kernel
theorem dX8_make_68 : decode cX8_make 68 = .ok (.iload 4, 2) := by decide +kernel
theorem dX8_make_70 : decode cX8_make 70 = .ok (.iconst 0, 1) := by decide +kernel
theorem dX8_make_71 : decode cX8_make 71 = .ok (.iastore, 1) := by decide +kernel
theorem dX8_make_72 : decode cX8_make 72 = .ok (.aload_n 0, 1) := by decide +kernel
theorem dX8_make_73 : decode cX8_make 73 = .ok (.getfield 56, 3) := by decide +kernel
theorem dX8_make_76 : decode cX8_make 76 = .ok (.iload 4, 2) := by decide +kernel
theorem dX8_make_78 : decode cX8_make 78 = .ok (.iconst 0, 1) := by decide +kernel
theorem dX8_make_79 : decode cX8_make 79 = .ok (.iastore, 1) := by decide +kernel
theorem dX8_make_80 : decode cX8_make 80 = .ok (.iload 4, 2) := by decide +kernel
theorem dX8_make_82 : decode cX8_make 82 = .ok (.ireturn, 1) := by decide +kernel
theorem dX8_makeRow_0 : decode cX8_makeRow 0 = .ok (.aload_n 0, 1) := by decide +kernel
theorem dX8_makeRow_1 : decode cX8_makeRow 1 = .ok (.iload_n 1, 1) := by decide +kernel
theorem dX8_makeRow_2 : decode cX8_makeRow 2 = .ok (.lconst 0, 1) := by decide +kernel
theorem dX8_makeRow_3 : decode cX8_makeRow 3 = .ok (.invokevirtual 110, 3) := by decide +kernel
theorem dX8_makeRow_6 : decode cX8_makeRow 6 = .ok (.istore 4, 2) := by decide +kernel
theorem dX8_makeRow_8 : decode cX8_makeRow 8 = .ok (.aload_n 0, 1) := by decide +kernel
theorem dX8_makeRow_9 : decode cX8_makeRow 9 = .ok (.getfield 32, 3) := by decide +kernel
theorem dX8_makeRow_12 : decode cX8_makeRow 12 = .ok (.iload 4, 2) := by decide +kernel
theorem dX8_makeRow_14 : decode cX8_makeRow 14 = .ok (.aload_n 0, 1) := by decide +kernel
theorem dX8_makeRow_15 : decode cX8_makeRow 15 = .ok (.getfield 114, 3) := by decide +kernel
theorem dX8_makeRow_18 : decode cX8_makeRow 18 = .ok (.iastore, 1) := by decide +kernel
theorem dX8_makeRow_19 : decode cX8_makeRow 19 = .ok (.aload_n 0, 1) := by decide +kernel
theorem dX8_makeRow_20 : decode cX8_makeRow 20 = .ok (.getfield 38, 3) := by decide +kernel
theorem dX8_makeRow_23 : decode cX8_makeRow 23 = .ok (.iload 4, 2) := by decide +kernel
theorem dX8_makeRow_25 : decode cX8_makeRow 25 = .ok (.iload_n 3, 1) := by decide +kernel
theorem dX8_makeRow_26 : decode cX8_makeRow 26 = .ok (.iastore, 1) := by decide +kernel
theorem dX8_makeRow_27 : decode cX8_makeRow 27 = .ok (.iconst 0, 1) := by decide +kernel
theorem dX8_makeRow_28 : decode cX8_makeRow 28 = .ok (.istore 5, 2) := by decide +kernel
theorem dX8_makeRow_30 : decode cX8_makeRow 30 = .ok (.iload 5, 2) := by decide +kernel
theorem dX8_makeRow_32 : decode cX8_makeRow 32 = .ok (.iload_n 3, 1) := by decide +kernel
theorem dX8_makeRow_33 : decode cX8_makeRow 33 = .ok (.if_icmp .ge 30, 3) := by decide +kernel
theorem dX8_makeRow_36 : decode cX8_makeRow 36 = .ok (.aload_n 0, 1) := by decide +kernel
theorem dX8_makeRow_37 : decode cX8_makeRow 37 = .ok (.getfield 47, 3) := by decide +kernel
theorem dX8_makeRow_40 : decode cX8_makeRow 40 = .ok (.aload_n 0, 1) := by decide +kernel
theorem dX8_makeRow_41 : decode cX8_makeRow 41 = .ok (.getfield 114, 3) := by decide +kernel
theorem dX8_makeRow_44 : decode cX8_makeRow 44 = .ok (.iload 5, 2) := by decide +kernel
theorem dX8_makeRow_46 : decode cX8_makeRow 46 = .ok (.iadd, 1) := by decide +kernel
theorem dX8_makeRow_47 : decode cX8_makeRow 47 = .ok (.aload_n 0, 1) := by decide +kernel
theorem dX8_makeRow_48 : decode cX8_makeRow 48 = .ok (.getfield 8, 3) := by decide +kernel
theorem dX8_makeRow_51 : decode cX8_makeRow 51 = .ok (.iload_n 2, 1) := by decide +kernel
theorem dX8_makeRow_52 : decode cX8_makeRow 52 = .ok (.iload 5, 2) := by decide +kernel
theorem dX8_makeRow_54 : decode cX8_makeRow 54 = .ok (.iadd, 1) := by decide +kernel
theorem dX8_makeRow_55 : decode cX8_makeRow 55 = .ok (.baload, 1) := by decide +kernel
theorem dX8_makeRow_56 : decode cX8_makeRow 56 = .ok (.bastore, 1) := by decide +kernel
theorem dX8_makeRow_57 : decode cX8_makeRow 57 = .ok (.iinc 5 1, 3) := by decide +kernel
theorem dX8_makeRow_60 : decode cX8_makeRow 60 = .ok (.goto (-30), 3) := by decide +kernel
theorem dX8_makeRow_63 : decode cX8_makeRow 63 = .ok (.aload_n 0, 1) := by decide +kernel
theorem dX8_makeRow_64 : decode cX8_makeRow 64 = .ok (.aload_n 0, 1) := by decide +kernel
theorem dX8_makeRow_65 : decode cX8_makeRow 65 = .ok (.getfield 114, 3) := by decide +kernel
theorem dX8_makeRow_68 : decode cX8_makeRow 68 = .ok (.iload_n 3, 1) := by decide +kernel
theorem dX8_makeRow_69 : decode cX8_makeRow 69 = .ok (.iadd, 1) := by decide +kernel
theorem dX8_makeRow_70 : decode cX8_makeRow 70 = .ok (.putfield 114, 3) := by decide +kernel
theorem dX8_makeRow_73 : decode cX8_makeRow 73 = .ok (.iload 4, 2) := by decide +kernel
theorem dX8_makeRow_75 : decode cX8_makeRow 75 = .ok (.ireturn, 1) := by decide +kernel
theorem dX8_link_0 : decode cX8_link 0 = .ok (.aload_n 0, 1) := by decide +kernel
theorem dX8_link_1 : decode cX8_link 1 = .ok (.getfield 117, 3) := by decide +kernel
theorem dX8_link_4 : decode cX8_link 4 = .ok (.istore_n 3, 1) := by decide +kernel
theorem dX8_link_5 : decode cX8_link 5 = .ok (.aload_n 0, 1) := by decide +kernel
theorem dX8_link_6 : decode cX8_link 6 = .ok (.dup, 1) := by decide +kernel
theorem dX8_link_7 : decode cX8_link 7 = .ok (.getfield 117, 3) := by decide +kernel
theorem dX8_link_10 : decode cX8_link 10 = .ok (.iconst 1, 1) := by decide +kernel
theorem dX8_link_11 : decode cX8_link 11 = .ok (.iadd, 1) := by decide +kernel
theorem dX8_link_12 : decode cX8_link 12 = .ok (.putfield 117, 3) := by decide +kernel
theorem dX8_link_15 : decode cX8_link 15 = .ok (.aload_n 0, 1) := by decide +kernel
theorem dX8_link_16 : decode cX8_link 16 = .ok (.getfield 41, 3) := by decide +kernel
theorem dX8_link_19 : decode cX8_link 19 = .ok (.iload_n 3, 1) := by decide +kernel
theorem dX8_link_20 : decode cX8_link 20 = .ok (.iload_n 2, 1) := by decide +kernel
theorem dX8_link_21 : decode cX8_link 21 = .ok (.iastore, 1) := by decide +kernel
theorem dX8_link_22 : decode cX8_link 22 = .ok (.aload_n 0, 1) := by decide +kernel
theorem dX8_link_23 : decode cX8_link 23 = .ok (.getfield 44, 3) := by decide +kernel
theorem dX8_link_26 : decode cX8_link 26 = .ok (.iload_n 3, 1) := by decide +kernel
theorem dX8_link_27 : decode cX8_link 27 = .ok (.iconst (-1), 1) := by decide +kernel
theorem dX8_link_28 : decode cX8_link 28 = .ok (.iastore, 1) := by decide +kernel
theorem dX8_link_29 : decode cX8_link 29 = .ok (.aload_n 0, 1) := by decide +kernel
theorem dX8_link_30 : decode cX8_link 30 = .ok (.getfield 32, 3) := by decide +kernel
theorem dX8_link_33 : decode cX8_link 33 = .ok (.iload_n 1, 1) := by decide +kernel
theorem dX8_link_34 : decode cX8_link 34 = .ok (.iaload, 1) := by decide +kernel
theorem dX8_link_35 : decode cX8_link 35 = .ok (.ifCond .ge 13, 3) := by decide +kernel
theorem dX8_link_38 : decode cX8_link 38 = .ok (.aload_n 0, 1) := by decide +kernel
theorem dX8_link_39 : decode cX8_link 39 = .ok (.getfield 32, 3) := by decide +kernel
theorem dX8_link_42 : decode cX8_link 42 = .ok (.iload_n 1, 1) := by decide +kernel
theorem dX8_link_43 : decode cX8_link 43 = .ok (.iload_n 3, 1) := by decide +kernel
theorem dX8_link_44 : decode cX8_link 44 = .ok (.iastore, 1) := by decide +kernel
theorem dX8_link_45 : decode cX8_link 45 = .ok (.goto 15, 3) := by decide +kernel
theorem dX8_link_48 : decode cX8_link 48 = .ok (.aload_n 0, 1) := by decide +kernel
theorem dX8_link_49 : decode cX8_link 49 = .ok (.getfield 44, 3) := by decide +kernel
theorem dX8_link_52 : decode cX8_link 52 = .ok (.aload_n 0, 1) := by decide +kernel
theorem dX8_link_53 : decode cX8_link 53 = .ok (.getfield 35, 3) := by decide +kernel
theorem dX8_link_56 : decode cX8_link 56 = .ok (.iload_n 1, 1) := by decide +kernel
theorem dX8_link_57 : decode cX8_link 57 = .ok (.iaload, 1) := by decide +kernel
theorem dX8_link_58 : decode cX8_link 58 = .ok (.iload_n 3, 1) := by decide +kernel
theorem dX8_link_59 : decode cX8_link 59 = .ok (.iastore, 1) := by decide +kernel
theorem dX8_link_60 : decode cX8_link 60 = .ok (.aload_n 0, 1) := by decide +kernel
theorem dX8_link_61 : decode cX8_link 61 = .ok (.getfield 35, 3) := by decide +kernel
theorem dX8_link_64 : decode cX8_link 64 = .ok (.iload_n 1, 1) := by decide +kernel
theorem dX8_link_65 : decode cX8_link 65 = .ok (.iload_n 3, 1) := by decide +kernel
theorem dX8_link_66 : decode cX8_link 66 = .ok (.iastore, 1) := by decide +kernel
theorem dX8_link_67 : decode cX8_link 67 = .ok (.return_, 1) := by decide +kernel
theorem dX8_isValue_0 : decode cX8_isValue 0 = .ok (.iload_n 1, 1) := by decide +kernel
theorem dX8_isValue_1 : decode cX8_isValue 1 = .ok (.ifCond .lt 15, 3) := by decide +kernel
theorem dX8_isValue_4 : decode cX8_isValue 4 = .ok (.iload_n 1, 1) := by decide +kernel
theorem dX8_isValue_5 : decode cX8_isValue 5 = .ok (.aload_n 0, 1) := by decide +kernel
theorem dX8_isValue_6 : decode cX8_isValue 6 = .ok (.getfield 107, 3) := by decide +kernel
theorem dX8_isValue_9 : decode cX8_isValue 9 = .ok (.if_icmp .ge 7, 3) := by decide +kernel
theorem dX8_isValue_12 : decode cX8_isValue 12 = .ok (.iconst 1, 1) := by decide +kernel
theorem dX8_isValue_13 : decode cX8_isValue 13 = .ok (.goto 4, 3) := by decide +kernel
theorem dX8_isValue_16 : decode cX8_isValue 16 = .ok (.iconst 0, 1) := by decide +kernel
theorem dX8_isValue_17 : decode cX8_isValue 17 = .ok (.ireturn, 1) := by decide +kernel
theorem dX8_nil_0 : decode cX8_nil 0 = .ok (.aload_n 0, 1) := by decide +kernel
theorem dX8_nil_1 : decode cX8_nil 1 = .ok (.aload_n 0, 1) := by decide +kernel
theorem dX8_nil_2 : decode cX8_nil 2 = .ok (.getfield 107, 3) := by decide +kernel
theorem dX8_nil_5 : decode cX8_nil 5 = .ok (.sipush 3000, 3) := by decide +kernel
theorem dX8_nil_8 : decode cX8_nil 8 = .ok (.if_icmp .ne 7, 3) := by decide +kernel
theorem dX8_nil_11 : decode cX8_nil 11 = .ok (.iconst 1, 1) := by decide +kernel
theorem dX8_nil_12 : decode cX8_nil 12 = .ok (.goto 4, 3) := by decide +kernel
theorem dX8_nil_15 : decode cX8_nil 15 = .ok (.iconst 0, 1) := by decide +kernel
theorem dX8_nil_16 : decode cX8_nil 16 = .ok (.putfield 71, 3) := by decide +kernel
theorem dX8_nil_19 : decode cX8_nil 19 = .ok (.aload_n 0, 1) := by decide +kernel
theorem dX8_nil_20 : decode cX8_nil 20 = .ok (.getfield 71, 3) := by decide +kernel
theorem dX8_nil_23 : decode cX8_nil 23 = .ok (.ifCond .le 7, 3) := by decide +kernel
theorem dX8_nil_26 : decode cX8_nil 26 = .ok (.iconst 0, 1) := by decide +kernel
theorem dX8_nil_27 : decode cX8_nil 27 = .ok (.goto 9, 3) := by decide +kernel
theorem dX8_nil_30 : decode cX8_nil 30 = .ok (.aload_n 0, 1) := by decide +kernel
theorem dX8_nil_31 : decode cX8_nil 31 = .ok (.iconst 0, 1) := by decide +kernel
theorem dX8_nil_32 : decode cX8_nil 32 = .ok (.lconst 0, 1) := by decide +kernel
theorem dX8_nil_33 : decode cX8_nil 33 = .ok (.invokevirtual 110, 3) := by decide +kernel
theorem dX8_nil_36 : decode cX8_nil 36 = .ok (.ireturn, 1) := by decide +kernel
theorem dX8_truth_0 : decode cX8_truth 0 = .ok (.aload_n 0, 1) := by decide +kernel
theorem dX8_truth_1 : decode cX8_truth 1 = .ok (.aload_n 0, 1) := by decide +kernel
theorem dX8_truth_2 : decode cX8_truth 2 = .ok (.getfield 107, 3) := by decide +kernel
theorem dX8_truth_5 : decode cX8_truth 5 = .ok (.sipush 3000, 3) := by decide +kernel
theorem dX8_truth_8 : decode cX8_truth 8 = .ok (.if_icmp .ne 7, 3) := by decide +kernel
theorem dX8_truth_11 : decode cX8_truth 11 = .ok (.iconst 1, 1) := by decide +kernel
theorem dX8_truth_12 : decode cX8_truth 12 = .ok (.goto 4, 3) := by decide +kernel
theorem dX8_truth_15 : decode cX8_truth 15 = .ok (.iconst 0, 1) := by decide +kernel
theorem dX8_truth_16 : decode cX8_truth 16 = .ok (.putfield 71, 3) := by decide +kernel
theorem dX8_truth_19 : decode cX8_truth 19 = .ok (.aload_n 0, 1) := by decide +kernel
theorem dX8_truth_20 : decode cX8_truth 20 = .ok (.getfield 71, 3) := by decide +kernel
theorem dX8_truth_23 : decode cX8_truth 23 = .ok (.ifCond .le 5, 3) := by decide +kernel
theorem dX8_truth_26 : decode cX8_truth 26 = .ok (.iconst 0, 1) := by decide +kernel
theorem dX8_truth_27 : decode cX8_truth 27 = .ok (.ireturn, 1) := by decide +kernel
theorem dX8_truth_28 : decode cX8_truth 28 = .ok (.aload_n 0, 1) := by decide +kernel
theorem dX8_truth_29 : decode cX8_truth 29 = .ok (.iconst 1, 1) := by decide +kernel
theorem dX8_truth_30 : decode cX8_truth 30 = .ok (.lconst 0, 1) := by decide +kernel
theorem dX8_truth_31 : decode cX8_truth 31 = .ok (.invokevirtual 110, 3) := by decide +kernel
theorem dX8_truth_34 : decode cX8_truth 34 = .ok (.istore_n 2, 1) := by decide +kernel
theorem dX8_truth_35 : decode cX8_truth 35 = .ok (.aload_n 0, 1) := by decide +kernel
theorem dX8_truth_36 : decode cX8_truth 36 = .ok (.getfield 29, 3) := by decide +kernel
theorem dX8_truth_39 : decode cX8_truth 39 = .ok (.iload_n 2, 1) := by decide +kernel
theorem dX8_truth_40 : decode cX8_truth 40 = .ok (.iload_n 1, 1) := by decide +kernel
theorem dX8_truth_41 : decode cX8_truth 41 = .ok (.ifCond .eq 7, 3) := by decide +kernel
theorem dX8_truth_44 : decode cX8_truth 44 = .ok (.iconst 1, 1) := by decide +kernel
theorem dX8_truth_45 : decode cX8_truth 45 = .ok (.goto 4, 3) := by decide +kernel
theorem dX8_truth_48 : decode cX8_truth 48 = .ok (.iconst 0, 1) := by decide +kernel
theorem dX8_truth_49 : decode cX8_truth 49 = .ok (.iastore, 1) := by decide +kernel
theorem dX8_truth_50 : decode cX8_truth 50 = .ok (.iload_n 2, 1) := by decide +kernel
theorem dX8_truth_51 : decode cX8_truth 51 = .ok (.ireturn, 1) := by decide +kernel
theorem dX8_integer_0 : decode cX8_integer 0 = .ok (.aload_n 0, 1) := by decide +kernel
theorem dX8_integer_1 : decode cX8_integer 1 = .ok (.aload_n 0, 1) := by decide +kernel
theorem dX8_integer_2 : decode cX8_integer 2 = .ok (.getfield 107, 3) := by decide +kernel
theorem dX8_integer_5 : decode cX8_integer 5 = .ok (.sipush 3000, 3) := by decide +kernel
theorem dX8_integer_8 : decode cX8_integer 8 = .ok (.if_icmp .ne 7, 3) := by decide +kernel
theorem dX8_integer_11 : decode cX8_integer 11 = .ok (.iconst 1, 1) := by decide +kernel
theorem dX8_integer_12 : decode cX8_integer 12 = .ok (.goto 4, 3) := by decide +kernel
theorem dX8_integer_15 : decode cX8_integer 15 = .ok (.iconst 0, 1) := by decide +kernel
theorem dX8_integer_16 : decode cX8_integer 16 = .ok (.putfield 71, 3) := by decide +kernel
theorem dX8_integer_19 : decode cX8_integer 19 = .ok (.aload_n 0, 1) := by decide +kernel
theorem dX8_integer_20 : decode cX8_integer 20 = .ok (.getfield 71, 3) := by decide +kernel
theorem dX8_integer_23 : decode cX8_integer 23 = .ok (.ifCond .le 5, 3) := by decide +kernel
theorem dX8_integer_26 : decode cX8_integer 26 = .ok (.iconst 0, 1) := by decide +kernel
theorem dX8_integer_27 : decode cX8_integer 27 = .ok (.ireturn, 1) := by decide +kernel
theorem dX8_integer_28 : decode cX8_integer 28 = .ok (.aload_n 0, 1) := by decide +kernel
theorem dX8_integer_29 : decode cX8_integer 29 = .ok (.iconst 2, 1) := by decide +kernel
theorem dX8_integer_30 : decode cX8_integer 30 = .ok (.lload_n 1, 1) := by decide +kernel
theorem dX8_integer_31 : decode cX8_integer 31 = .ok (.invokevirtual 110, 3) := by decide +kernel
theorem dX8_integer_34 : decode cX8_integer 34 = .ok (.istore 4, 2) := by decide +kernel
theorem dX8_integer_36 : decode cX8_integer 36 = .ok (.aload_n 0, 1) := by decide +kernel
theorem dX8_integer_37 : decode cX8_integer 37 = .ok (.getfield 25, 3) := by decide +kernel
theorem dX8_integer_40 : decode cX8_integer 40 = .ok (.iload 4, 2) := by decide +kernel
theorem dX8_integer_42 : decode cX8_integer 42 = .ok (.iload_n 3, 1) := by decide +kernel
theorem dX8_integer_43 : decode cX8_integer 43 = .ok (.ifCond .eq 13, 3) := by decide +kernel
theorem dX8_integer_46 : decode cX8_integer 46 = .ok (.lload_n 1, 1) := by decide +kernel
theorem dX8_integer_47 : decode cX8_integer 47 = .ok (.lconst 0, 1) := by decide +kernel
theorem dX8_integer_48 : decode cX8_integer 48 = .ok (.lcmp, 1) := by decide +kernel
theorem dX8_integer_49 : decode cX8_integer 49 = .ok (.ifCond .ge 7, 3) := by decide +kernel
theorem dX8_integer_52 : decode cX8_integer 52 = .ok (.iconst 1, 1) := by decide +kernel
theorem dX8_integer_53 : decode cX8_integer 53 = .ok (.goto 4, 3) := by decide +kernel
theorem dX8_integer_56 : decode cX8_integer 56 = .ok (.iconst 0, 1) := by decide +kernel
theorem dX8_integer_57 : decode cX8_integer 57 = .ok (.bastore, 1) := by decide +kernel
theorem dX8_integer_58 : decode cX8_integer 58 = .ok (.iload 4, 2) := by decide +kernel
theorem dX8_integer_60 : decode cX8_integer 60 = .ok (.ireturn, 1) := by decide +kernel
theorem dX8_real_0 : decode cX8_real 0 = .ok (.aload_n 0, 1) := by decide +kernel
theorem dX8_real_1 : decode cX8_real 1 = .ok (.aload_n 0, 1) := by decide +kernel
theorem dX8_real_2 : decode cX8_real 2 = .ok (.getfield 107, 3) := by decide +kernel
theorem dX8_real_5 : decode cX8_real 5 = .ok (.sipush 3000, 3) := by decide +kernel
theorem dX8_real_8 : decode cX8_real 8 = .ok (.if_icmp .ne 7, 3) := by decide +kernel
theorem dX8_real_11 : decode cX8_real 11 = .ok (.iconst 1, 1) := by decide +kernel
theorem dX8_real_12 : decode cX8_real 12 = .ok (.goto 4, 3) := by decide +kernel
theorem dX8_real_15 : decode cX8_real 15 = .ok (.iconst 0, 1) := by decide +kernel
theorem dX8_real_16 : decode cX8_real 16 = .ok (.putfield 71, 3) := by decide +kernel
theorem dX8_real_19 : decode cX8_real 19 = .ok (.aload_n 0, 1) := by decide +kernel
theorem dX8_real_20 : decode cX8_real 20 = .ok (.getfield 71, 3) := by decide +kernel
theorem dX8_real_23 : decode cX8_real 23 = .ok (.ifCond .le 7, 3) := by decide +kernel
theorem dX8_real_26 : decode cX8_real 26 = .ok (.iconst 0, 1) := by decide +kernel
theorem dX8_real_27 : decode cX8_real 27 = .ok (.goto 29, 3) := by decide +kernel
theorem dX8_real_30 : decode cX8_real 30 = .ok (.aload_n 0, 1) := by decide +kernel
theorem dX8_real_31 : decode cX8_real 31 = .ok (.iload_n 3, 1) := by decide +kernel
theorem dX8_real_32 : decode cX8_real 32 = .ok (.ifCond .eq 7, 3) := by decide +kernel
theorem dX8_real_35 : decode cX8_real 35 = .ok (.iconst 4, 1) := by decide +kernel
theorem dX8_real_36 : decode cX8_real 36 = .ok (.goto 4, 3) := by decide +kernel
theorem dX8_real_39 : decode cX8_real 39 = .ok (.iconst 3, 1) := by decide +kernel
theorem dX8_real_40 : decode cX8_real 40 = .ok (.iload_n 3, 1) := by decide +kernel
theorem dX8_real_41 : decode cX8_real 41 = .ok (.ifCond .eq 7, 3) := by decide +kernel
theorem dX8_real_44 : decode cX8_real 44 = .ok (.lload_n 1, 1) := by decide +kernel
theorem dX8_real_45 : decode cX8_real 45 = .ok (.goto 8, 3) := by decide +kernel
theorem dX8_real_48 : decode cX8_real 48 = .ok (.lload_n 1, 1) := by decide +kernel
theorem dX8_real_49 : decode cX8_real 49 = .ok (.ldc2_w 120, 3) := by decide +kernel
theorem dX8_real_52 : decode cX8_real 52 = .ok (.land, 1) := by decide +kernel
theorem dX8_real_53 : decode cX8_real 53 = .ok (.invokevirtual 110, 3) := by decide +kernel
theorem dX8_real_56 : decode cX8_real 56 = .ok (.ireturn, 1) := by decide +kernel
theorem dX8_row_0 : decode cX8_row 0 = .ok (.iload_n 1, 1) := by decide +kernel
theorem dX8_row_1 : decode cX8_row 1 = .ok (.bipush 6, 2) := by decide +kernel
theorem dX8_row_3 : decode cX8_row 3 = .ok (.if_icmp .eq 27, 3) := by decide +kernel
theorem dX8_row_6 : decode cX8_row 6 = .ok (.iload_n 1, 1) := by decide +kernel
theorem dX8_row_7 : decode cX8_row 7 = .ok (.iconst 5, 1) := by decide +kernel
theorem dX8_row_8 : decode cX8_row 8 = .ok (.if_icmp .ne 26, 3) := by decide +kernel
theorem dX8_row_11 : decode cX8_row 11 = .ok (.aload_n 0, 1) := by decide +kernel
theorem dX8_row_12 : decode cX8_row 12 = .ok (.getfield 8, 3) := by decide +kernel
theorem dX8_row_15 : decode cX8_row 15 = .ok (.iconst 0, 1) := by decide +kernel
theorem dX8_row_16 : decode cX8_row 16 = .ok (.aload_n 0, 1) := by decide +kernel
theorem dX8_row_17 : decode cX8_row 17 = .ok (.getfield 88, 3) := by decide +kernel
theorem dX8_row_20 : decode cX8_row 20 = .ok (.invokestatic 122, 3) := by decide +kernel
theorem dX8_row_23 : decode cX8_row 23 = .ok (.aload_n 0, 1) := by decide +kernel
theorem dX8_row_24 : decode cX8_row 24 = .ok (.getfield 88, 3) := by decide +kernel
theorem dX8_row_27 : decode cX8_row 27 = .ok (.if_icmp .ne 7, 3) := by decide +kernel
theorem dX8_row_30 : decode cX8_row 30 = .ok (.iconst 1, 1) := by decide +kernel
theorem dX8_row_31 : decode cX8_row 31 = .ok (.goto 4, 3) := by decide +kernel
theorem dX8_row_34 : decode cX8_row 34 = .ok (.iconst 0, 1) := by decide +kernel
theorem dX8_row_35 : decode cX8_row 35 = .ok (.istore_n 2, 1) := by decide +kernel
theorem dX8_row_36 : decode cX8_row 36 = .ok (.aload_n 0, 1) := by decide +kernel
theorem dX8_row_37 : decode cX8_row 37 = .ok (.iload_n 2, 1) := by decide +kernel
theorem dX8_row_38 : decode cX8_row 38 = .ok (.ifCond .ne 7, 3) := by decide +kernel
theorem dX8_row_41 : decode cX8_row 41 = .ok (.iconst 1, 1) := by decide +kernel
theorem dX8_row_42 : decode cX8_row 42 = .ok (.goto 32, 3) := by decide +kernel
theorem dX8_row_45 : decode cX8_row 45 = .ok (.aload_n 0, 1) := by decide +kernel
theorem dX8_row_46 : decode cX8_row 46 = .ok (.getfield 107, 3) := by decide +kernel
theorem dX8_row_49 : decode cX8_row 49 = .ok (.sipush 3000, 3) := by decide +kernel
theorem dX8_row_52 : decode cX8_row 52 = .ok (.if_icmp .eq 17, 3) := by decide +kernel
theorem dX8_row_55 : decode cX8_row 55 = .ok (.aload_n 0, 1) := by decide +kernel
theorem dX8_row_56 : decode cX8_row 56 = .ok (.getfield 114, 3) := by decide +kernel
theorem dX8_row_59 : decode cX8_row 59 = .ok (.aload_n 0, 1) := by decide +kernel
theorem dX8_row_60 : decode cX8_row 60 = .ok (.getfield 88, 3) := by decide +kernel
theorem dX8_row_63 : decode cX8_row 63 = .ok (.iadd, 1) := by decide +kernel
theorem dX8_row_64 : decode cX8_row 64 = .ok (.ldc 7, 2) := by decide +kernel
theorem dX8_row_66 : decode cX8_row 66 = .ok (.if_icmp .le 7, 3) := by decide +kernel
theorem dX8_row_69 : decode cX8_row 69 = .ok (.iconst 2, 1) := by decide +kernel
theorem dX8_row_70 : decode cX8_row 70 = .ok (.goto 4, 3) := by decide +kernel
theorem dX8_row_73 : decode cX8_row 73 = .ok (.iconst 0, 1) := by decide +kernel
theorem dX8_row_74 : decode cX8_row 74 = .ok (.putfield 71, 3) := by decide +kernel
theorem dX8_row_77 : decode cX8_row 77 = .ok (.aload_n 0, 1) := by decide +kernel
theorem dX8_row_78 : decode cX8_row 78 = .ok (.getfield 71, 3) := by decide +kernel
theorem dX8_row_81 : decode cX8_row 81 = .ok (.ifCond .le 5, 3) := by decide +kernel
theorem dX8_row_84 : decode cX8_row 84 = .ok (.iconst 0, 1) := by decide +kernel
theorem dX8_row_85 : decode cX8_row 85 = .ok (.ireturn, 1) := by decide +kernel
theorem dX8_row_86 : decode cX8_row 86 = .ok (.aload_n 0, 1) := by decide +kernel
theorem dX8_row_87 : decode cX8_row 87 = .ok (.iload_n 1, 1) := by decide +kernel
theorem dX8_row_88 : decode cX8_row 88 = .ok (.iconst 0, 1) := by decide +kernel
theorem dX8_row_89 : decode cX8_row 89 = .ok (.aload_n 0, 1) := by decide +kernel
theorem dX8_row_90 : decode cX8_row 90 = .ok (.getfield 88, 3) := by decide +kernel
theorem dX8_row_93 : decode cX8_row 93 = .ok (.invokevirtual 126, 3) := by decide +kernel
theorem dX8_row_96 : decode cX8_row 96 = .ok (.istore_n 3, 1) := by decide +kernel
theorem dX8_row_97 : decode cX8_row 97 = .ok (.aload_n 0, 1) := by decide +kernel
theorem dX8_row_98 : decode cX8_row 98 = .ok (.iconst 0, 1) := by decide +kernel
theorem dX8_row_99 : decode cX8_row 99 = .ok (.putfield 88, 3) := by decide +kernel
theorem dX8_row_102 : decode cX8_row 102 = .ok (.iload_n 3, 1) := by decide +kernel
theorem dX8_row_103 : decode cX8_row 103 = .ok (.ireturn, 1) := by decide +kernel
theorem dX8_extension_0 : decode cX8_extension 0 = .ok (.iload_n 1, 1) := by decide +kernel
theorem dX8_extension_1 : decode cX8_extension 1 = .ok (.bipush (-128), 2) := by decide +kernel
theorem dX8_extension_3 : decode cX8_extension 3 = .ok (.if_icmp .lt 22, 3) := by decide +kernel
theorem dX8_extension_6 : decode cX8_extension 6 = .ok (.iload_n 1, 1) := by decide +kernel
theorem dX8_extension_7 : decode cX8_extension 7 = .ok (.bipush 127, 2) := by decide +kernel
theorem dX8_extension_9 : decode cX8_extension 9 = .ok (.if_icmp .gt 16, 3) := by decide +kernel
theorem dX8_extension_12 : decode cX8_extension 12 = .ok (.iload_n 1, 1) := by decide +kernel
theorem dX8_extension_13 : decode cX8_extension 13 = .ok (.iconst (-1), 1) := by decide +kernel
theorem dX8_extension_14 : decode cX8_extension 14 = .ok (.if_icmp .eq 11, 3) := by decide +kernel
theorem dX8_extension_17 : decode cX8_extension 17 = .ok (.iload_n 1, 1) := by decide +kernel
theorem dX8_extension_18 : decode cX8_extension 18 = .ok (.ifCond .eq 7, 3) := by decide +kernel
theorem dX8_extension_21 : decode cX8_extension 21 = .ok (.iconst 1, 1) := by decide +kernel
theorem dX8_extension_22 : decode cX8_extension 22 = .ok (.goto 4, 3) := by decide +kernel
theorem dX8_extension_25 : decode cX8_extension 25 = .ok (.iconst 0, 1) := by decide +kernel
theorem dX8_extension_26 : decode cX8_extension 26 = .ok (.istore_n 2, 1) := by decide +kernel
theorem dX8_extension_27 : decode cX8_extension 27 = .ok (.aload_n 0, 1) := by decide +kernel
theorem dX8_extension_28 : decode cX8_extension 28 = .ok (.iload_n 2, 1) := by decide +kernel
theorem dX8_extension_29 : decode cX8_extension 29 = .ok (.ifCond .ne 7, 3) := by decide +kernel
theorem dX8_extension_32 : decode cX8_extension 32 = .ok (.iconst 1, 1) := by decide +kernel
theorem dX8_extension_33 : decode cX8_extension 33 = .ok (.goto 32, 3) := by decide +kernel
theorem dX8_extension_36 : decode cX8_extension 36 = .ok (.aload_n 0, 1) := by decide +kernel
theorem dX8_extension_37 : decode cX8_extension 37 = .ok (.getfield 107, 3) := by decide +kernel
theorem dX8_extension_40 : decode cX8_extension 40 = .ok (.sipush 3000, 3) := by decide +kernel
theorem dX8_extension_43 : decode cX8_extension 43 = .ok (.if_icmp .eq 17, 3) := by decide +kernel
theorem dX8_extension_46 : decode cX8_extension 46 = .ok (.aload_n 0, 1) := by decide +kernel
theorem dX8_extension_47 : decode cX8_extension 47 = .ok (.getfield 114, 3) := by decide +kernel
theorem dX8_extension_50 : decode cX8_extension 50 = .ok (.aload_n 0, 1) := by decide +kernel
theorem dX8_extension_51 : decode cX8_extension 51 = .ok (.getfield 88, 3) := by decide +kernel
theorem dX8_extension_54 : decode cX8_extension 54 = .ok (.iadd, 1) := by decide +kernel
theorem dX8_extension_55 : decode cX8_extension 55 = .ok (.ldc 7, 2) := by decide +kernel
theorem dX8_extension_57 : decode cX8_extension 57 = .ok (.if_icmp .le 7, 3) := by decide +kernel
theorem dX8_extension_60 : decode cX8_extension 60 = .ok (.iconst 2, 1) := by decide +kernel
theorem dX8_extension_61 : decode cX8_extension 61 = .ok (.goto 4, 3) := by decide +kernel
theorem dX8_extension_64 : decode cX8_extension 64 = .ok (.iconst 0, 1) := by decide +kernel
theorem dX8_extension_65 : decode cX8_extension 65 = .ok (.putfield 71, 3) := by decide +kernel
theorem dX8_extension_68 : decode cX8_extension 68 = .ok (.aload_n 0, 1) := by decide +kernel
theorem dX8_extension_69 : decode cX8_extension 69 = .ok (.getfield 71, 3) := by decide +kernel
theorem dX8_extension_72 : decode cX8_extension 72 = .ok (.ifCond .le 5, 3) := by decide +kernel
theorem dX8_extension_75 : decode cX8_extension 75 = .ok (.iconst 0, 1) := by decide +kernel
theorem dX8_extension_76 : decode cX8_extension 76 = .ok (.ireturn, 1) := by decide +kernel
theorem dX8_extension_77 : decode cX8_extension 77 = .ok (.aload_n 0, 1) := by decide +kernel
theorem dX8_extension_78 : decode cX8_extension 78 = .ok (.bipush 9, 2) := by decide +kernel
theorem dX8_extension_80 : decode cX8_extension 80 = .ok (.iconst 0, 1) := by decide +kernel
theorem dX8_extension_81 : decode cX8_extension 81 = .ok (.aload_n 0, 1) := by decide +kernel
theorem dX8_extension_82 : decode cX8_extension 82 = .ok (.getfield 88, 3) := by decide +kernel
theorem dX8_extension_85 : decode cX8_extension 85 = .ok (.invokevirtual 126, 3) := by decide +kernel
theorem dX8_extension_88 : decode cX8_extension 88 = .ok (.istore_n 3, 1) := by decide +kernel
theorem dX8_extension_89 : decode cX8_extension 89 = .ok (.aload_n 0, 1) := by decide +kernel
theorem dX8_extension_90 : decode cX8_extension 90 = .ok (.getfield 29, 3) := by decide +kernel
theorem dX8_extension_93 : decode cX8_extension 93 = .ok (.iload_n 3, 1) := by decide +kernel
theorem dX8_extension_94 : decode cX8_extension 94 = .ok (.iload_n 1, 1) := by decide +kernel
theorem dX8_extension_95 : decode cX8_extension 95 = .ok (.iastore, 1) := by decide +kernel
theorem dX8_extension_96 : decode cX8_extension 96 = .ok (.aload_n 0, 1) := by decide +kernel
theorem dX8_extension_97 : decode cX8_extension 97 = .ok (.iconst 0, 1) := by decide +kernel
theorem dX8_extension_98 : decode cX8_extension 98 = .ok (.putfield 88, 3) := by decide +kernel
theorem dX8_extension_101 : decode cX8_extension 101 = .ok (.iload_n 3, 1) := by decide +kernel
theorem dX8_extension_102 : decode cX8_extension 102 = .ok (.ireturn, 1) := by decide +kernel
theorem dX8_time_0 : decode cX8_time 0 = .ok (.aload_n 0, 1) := by decide +kernel
theorem dX8_time_1 : decode cX8_time 1 = .ok (.iload_n 3, 1) := by decide +kernel
theorem dX8_time_2 : decode cX8_time 2 = .ok (.ifCond .lt 9, 3) := by decide +kernel
theorem dX8_time_5 : decode cX8_time 5 = .ok (.iload_n 3, 1) := by decide +kernel
theorem dX8_time_6 : decode cX8_time 6 = .ok (.ldc 130, 2) := by decide +kernel
theorem dX8_time_8 : decode cX8_time 8 = .ok (.if_icmp .le 7, 3) := by decide +kernel
theorem dX8_time_11 : decode cX8_time 11 = .ok (.iconst 1, 1) := by decide +kernel
theorem dX8_time_12 : decode cX8_time 12 = .ok (.goto 18, 3) := by decide +kernel
theorem dX8_time_15 : decode cX8_time 15 = .ok (.aload_n 0, 1) := by decide +kernel
theorem dX8_time_16 : decode cX8_time 16 = .ok (.getfield 107, 3) := by decide +kernel
theorem dX8_time_19 : decode cX8_time 19 = .ok (.sipush 3000, 3) := by decide +kernel
theorem dX8_time_22 : decode cX8_time 22 = .ok (.if_icmp .ne 7, 3) := by decide +kernel
theorem dX8_time_25 : decode cX8_time 25 = .ok (.iconst 2, 1) := by decide +kernel
theorem dX8_time_26 : decode cX8_time 26 = .ok (.goto 4, 3) := by decide +kernel
theorem dX8_time_29 : decode cX8_time 29 = .ok (.iconst 0, 1) := by decide +kernel
theorem dX8_time_30 : decode cX8_time 30 = .ok (.putfield 71, 3) := by decide +kernel
theorem dX8_time_33 : decode cX8_time 33 = .ok (.aload_n 0, 1) := by decide +kernel
theorem dX8_time_34 : decode cX8_time 34 = .ok (.getfield 71, 3) := by decide +kernel
theorem dX8_time_37 : decode cX8_time 37 = .ok (.ifCond .le 5, 3) := by decide +kernel
theorem dX8_time_40 : decode cX8_time 40 = .ok (.iconst 0, 1) := by decide +kernel
theorem dX8_time_41 : decode cX8_time 41 = .ok (.ireturn, 1) := by decide +kernel
theorem dX8_time_42 : decode cX8_time 42 = .ok (.aload_n 0, 1) := by decide +kernel
theorem dX8_time_43 : decode cX8_time 43 = .ok (.bipush 10, 2) := by decide +kernel
theorem dX8_time_45 : decode cX8_time 45 = .ok (.lload_n 1, 1) := by decide +kernel
theorem dX8_time_46 : decode cX8_time 46 = .ok (.invokevirtual 110, 3) := by decide +kernel
theorem dX8_time_49 : decode cX8_time 49 = .ok (.istore 4, 2) := by decide +kernel
theorem dX8_time_51 : decode cX8_time 51 = .ok (.aload_n 0, 1) := by decide +kernel
theorem dX8_time_52 : decode cX8_time 52 = .ok (.getfield 29, 3) := by decide +kernel
theorem dX8_time_55 : decode cX8_time 55 = .ok (.iload 4, 2) := by decide +kernel
theorem dX8_time_57 : decode cX8_time 57 = .ok (.iload_n 3, 1) := by decide +kernel
theorem dX8_time_58 : decode cX8_time 58 = .ok (.iastore, 1) := by decide +kernel
theorem dX8_time_59 : decode cX8_time 59 = .ok (.iload 4, 2) := by decide +kernel
theorem dX8_time_61 : decode cX8_time 61 = .ok (.ireturn, 1) := by decide +kernel
theorem dX8_group_0 : decode cX8_group 0 = .ok (.aload_n 0, 1) := by decide +kernel
theorem dX8_group_1 : decode cX8_group 1 = .ok (.iload_n 1, 1) := by decide +kernel
theorem dX8_group_2 : decode cX8_group 2 = .ok (.invokestatic 100, 3) := by decide +kernel
theorem dX8_group_5 : decode cX8_group 5 = .ok (.ifCond .ne 7, 3) := by decide +kernel
theorem dX8_group_8 : decode cX8_group 8 = .ok (.iconst 1, 1) := by decide +kernel
theorem dX8_group_9 : decode cX8_group 9 = .ok (.goto 18, 3) := by decide +kernel
theorem dX8_group_12 : decode cX8_group 12 = .ok (.aload_n 0, 1) := by decide +kernel
theorem dX8_group_13 : decode cX8_group 13 = .ok (.getfield 107, 3) := by decide +kernel
theorem dX8_group_16 : decode cX8_group 16 = .ok (.sipush 3000, 3) := by decide +kernel
theorem dX8_group_19 : decode cX8_group 19 = .ok (.if_icmp .ne 7, 3) := by decide +kernel
theorem dX8_group_22 : decode cX8_group 22 = .ok (.iconst 2, 1) := by decide +kernel
theorem dX8_group_23 : decode cX8_group 23 = .ok (.goto 4, 3) := by decide +kernel
theorem dX8_group_26 : decode cX8_group 26 = .ok (.iconst 0, 1) := by decide +kernel
theorem dX8_group_27 : decode cX8_group 27 = .ok (.putfield 71, 3) := by decide +kernel
theorem dX8_group_30 : decode cX8_group 30 = .ok (.aload_n 0, 1) := by decide +kernel
theorem dX8_group_31 : decode cX8_group 31 = .ok (.getfield 71, 3) := by decide +kernel
theorem dX8_group_34 : decode cX8_group 34 = .ok (.ifCond .le 7, 3) := by decide +kernel
theorem dX8_group_37 : decode cX8_group 37 = .ok (.iconst 0, 1) := by decide +kernel
theorem dX8_group_38 : decode cX8_group 38 = .ok (.goto 9, 3) := by decide +kernel
theorem dX8_group_41 : decode cX8_group 41 = .ok (.aload_n 0, 1) := by decide +kernel
theorem dX8_group_42 : decode cX8_group 42 = .ok (.iload_n 1, 1) := by decide +kernel
theorem dX8_group_43 : decode cX8_group 43 = .ok (.lconst 0, 1) := by decide +kernel
theorem dX8_group_44 : decode cX8_group 44 = .ok (.invokevirtual 110, 3) := by decide +kernel
theorem dX8_group_47 : decode cX8_group 47 = .ok (.ireturn, 1) := by decide +kernel
theorem dX8_add_0 : decode cX8_add 0 = .ok (.aload_n 0, 1) := by decide +kernel
theorem dX8_add_1 : decode cX8_add 1 = .ok (.aload_n 0, 1) := by decide +kernel
theorem dX8_add_2 : decode cX8_add 2 = .ok (.iload_n 1, 1) := by decide +kernel
theorem dX8_add_3 : decode cX8_add 3 = .ok (.invokevirtual 131, 3) := by decide +kernel
theorem dX8_add_6 : decode cX8_add 6 = .ok (.ifCond .eq 11, 3) := by decide +kernel
theorem dX8_add_9 : decode cX8_add 9 = .ok (.aload_n 0, 1) := by decide +kernel
theorem dX8_add_10 : decode cX8_add 10 = .ok (.iload_n 2, 1) := by decide +kernel
theorem dX8_add_11 : decode cX8_add 11 = .ok (.invokevirtual 131, 3) := by decide +kernel
theorem dX8_add_14 : decode cX8_add 14 = .ok (.ifCond .ne 7, 3) := by decide +kernel
theorem dX8_add_17 : decode cX8_add 17 = .ok (.iconst 1, 1) := by decide +kernel
theorem dX8_add_18 : decode cX8_add 18 = .ok (.goto 33, 3) := by decide +kernel
theorem dX8_add_21 : decode cX8_add 21 = .ok (.aload_n 0, 1) := by decide +kernel
theorem dX8_add_22 : decode cX8_add 22 = .ok (.getfield 17, 3) := by decide +kernel
theorem dX8_add_25 : decode cX8_add 25 = .ok (.iload_n 1, 1) := by decide +kernel
theorem dX8_add_26 : decode cX8_add 26 = .ok (.iaload, 1) := by decide +kernel
theorem dX8_add_27 : decode cX8_add 27 = .ok (.bipush 7, 2) := by decide +kernel
theorem dX8_add_29 : decode cX8_add 29 = .ok (.if_icmp .eq 7, 3) := by decide +kernel
theorem dX8_add_32 : decode cX8_add 32 = .ok (.iconst 2, 1) := by decide +kernel
theorem dX8_add_33 : decode cX8_add 33 = .ok (.goto 18, 3) := by decide +kernel
theorem dX8_add_36 : decode cX8_add 36 = .ok (.aload_n 0, 1) := by decide +kernel
theorem dX8_add_37 : decode cX8_add 37 = .ok (.getfield 117, 3) := by decide +kernel
theorem dX8_add_40 : decode cX8_add 40 = .ok (.sipush 6000, 3) := by decide +kernel
theorem dX8_add_43 : decode cX8_add 43 = .ok (.if_icmp .ne 7, 3) := by decide +kernel
theorem dX8_add_46 : decode cX8_add 46 = .ok (.iconst 3, 1) := by decide +kernel
theorem dX8_add_47 : decode cX8_add 47 = .ok (.goto 4, 3) := by decide +kernel
theorem dX8_add_50 : decode cX8_add 50 = .ok (.iconst 0, 1) := by decide +kernel
theorem dX8_add_51 : decode cX8_add 51 = .ok (.putfield 71, 3) := by decide +kernel
theorem dX8_add_54 : decode cX8_add 54 = .ok (.aload_n 0, 1) := by decide +kernel
theorem dX8_add_55 : decode cX8_add 55 = .ok (.getfield 71, 3) := by decide +kernel
theorem dX8_add_58 : decode cX8_add 58 = .ok (.ifCond .le 5, 3) := by decide +kernel
theorem dX8_add_61 : decode cX8_add 61 = .ok (.iconst 0, 1) := by decide +kernel
theorem dX8_add_62 : decode cX8_add 62 = .ok (.ireturn, 1) := by decide +kernel
theorem dX8_add_63 : decode cX8_add 63 = .ok (.aload_n 0, 1) := by decide +kernel
theorem dX8_add_64 : decode cX8_add 64 = .ok (.iload_n 1, 1) := by decide +kernel
theorem dX8_add_65 : decode cX8_add 65 = .ok (.iload_n 2, 1) := by decide +kernel
theorem dX8_add_66 : decode cX8_add 66 = .ok (.invokevirtual 134, 3) := by decide +kernel
theorem dX8_add_69 : decode cX8_add 69 = .ok (.aload_n 0, 1) := by decide +kernel
theorem dX8_add_70 : decode cX8_add 70 = .ok (.getfield 38, 3) := by decide +kernel
theorem dX8_add_73 : decode cX8_add 73 = .ok (.iload_n 1, 1) := by decide +kernel
theorem dX8_add_74 : decode cX8_add 74 = .ok (.dup2, 1) := by decide +kernel
theorem dX8_add_75 : decode cX8_add 75 = .ok (.iaload, 1) := by decide +kernel
theorem dX8_add_76 : decode cX8_add 76 = .ok (.iconst 1, 1) := by decide +kernel
theorem dX8_add_77 : decode cX8_add 77 = .ok (.iadd, 1) := by decide +kernel
theorem dX8_add_78 : decode cX8_add 78 = .ok (.iastore, 1) := by decide +kernel
theorem dX8_add_79 : decode cX8_add 79 = .ok (.aload_n 0, 1) := by decide +kernel
theorem dX8_add_80 : decode cX8_add 80 = .ok (.getfield 38, 3) := by decide +kernel
theorem dX8_add_83 : decode cX8_add 83 = .ok (.iload_n 1, 1) := by decide +kernel
theorem dX8_add_84 : decode cX8_add 84 = .ok (.iaload, 1) := by decide +kernel
theorem dX8_add_85 : decode cX8_add 85 = .ok (.ireturn, 1) := by decide +kernel
theorem dX8_put_0 : decode cX8_put 0 = .ok (.aload_n 0, 1) := by decide +kernel
theorem dX8_put_1 : decode cX8_put 1 = .ok (.aload_n 0, 1) := by decide +kernel
theorem dX8_put_2 : decode cX8_put 2 = .ok (.iload_n 1, 1) := by decide +kernel
theorem dX8_put_3 : decode cX8_put 3 = .ok (.invokevirtual 131, 3) := by decide +kernel
theorem dX8_put_6 : decode cX8_put 6 = .ok (.ifCond .eq 19, 3) := by decide +kernel
theorem dX8_put_9 : decode cX8_put 9 = .ok (.aload_n 0, 1) := by decide +kernel
theorem dX8_put_10 : decode cX8_put 10 = .ok (.iload_n 2, 1) := by decide +kernel
theorem dX8_put_11 : decode cX8_put 11 = .ok (.invokevirtual 131, 3) := by decide +kernel
theorem dX8_put_14 : decode cX8_put 14 = .ok (.ifCond .eq 11, 3) := by decide +kernel
theorem dX8_put_17 : decode cX8_put 17 = .ok (.aload_n 0, 1) := by decide +kernel
theorem dX8_put_18 : decode cX8_put 18 = .ok (.iload_n 3, 1) := by decide +kernel
theorem dX8_put_19 : decode cX8_put 19 = .ok (.invokevirtual 131, 3) := by decide +kernel
theorem dX8_put_22 : decode cX8_put 22 = .ok (.ifCond .ne 7, 3) := by decide +kernel
theorem dX8_put_25 : decode cX8_put 25 = .ok (.iconst 1, 1) := by decide +kernel
theorem dX8_put_26 : decode cX8_put 26 = .ok (.goto 35, 3) := by decide +kernel
theorem dX8_put_29 : decode cX8_put 29 = .ok (.aload_n 0, 1) := by decide +kernel
theorem dX8_put_30 : decode cX8_put 30 = .ok (.getfield 17, 3) := by decide +kernel
theorem dX8_put_33 : decode cX8_put 33 = .ok (.iload_n 1, 1) := by decide +kernel
theorem dX8_put_34 : decode cX8_put 34 = .ok (.iaload, 1) := by decide +kernel
theorem dX8_put_35 : decode cX8_put 35 = .ok (.bipush 8, 2) := by decide +kernel
theorem dX8_put_37 : decode cX8_put 37 = .ok (.if_icmp .eq 7, 3) := by decide +kernel
theorem dX8_put_40 : decode cX8_put 40 = .ok (.iconst 2, 1) := by decide +kernel
theorem dX8_put_41 : decode cX8_put 41 = .ok (.goto 20, 3) := by decide +kernel
theorem dX8_put_44 : decode cX8_put 44 = .ok (.aload_n 0, 1) := by decide +kernel
theorem dX8_put_45 : decode cX8_put 45 = .ok (.getfield 117, 3) := by decide +kernel
theorem dX8_put_48 : decode cX8_put 48 = .ok (.iconst 2, 1) := by decide +kernel
theorem dX8_put_49 : decode cX8_put 49 = .ok (.iadd, 1) := by decide +kernel
theorem dX8_put_50 : decode cX8_put 50 = .ok (.sipush 6000, 3) := by decide +kernel
theorem dX8_put_53 : decode cX8_put 53 = .ok (.if_icmp .le 7, 3) := by decide +kernel
theorem dX8_put_56 : decode cX8_put 56 = .ok (.iconst 3, 1) := by decide +kernel
theorem dX8_put_57 : decode cX8_put 57 = .ok (.goto 4, 3) := by decide +kernel
theorem dX8_put_60 : decode cX8_put 60 = .ok (.iconst 0, 1) := by decide +kernel
theorem dX8_put_61 : decode cX8_put 61 = .ok (.putfield 71, 3) := by decide +kernel
theorem dX8_put_64 : decode cX8_put 64 = .ok (.aload_n 0, 1) := by decide +kernel
theorem dX8_put_65 : decode cX8_put 65 = .ok (.getfield 71, 3) := by decide +kernel
theorem dX8_put_68 : decode cX8_put 68 = .ok (.ifCond .le 5, 3) := by decide +kernel
theorem dX8_put_71 : decode cX8_put 71 = .ok (.iconst 0, 1) := by decide +kernel
theorem dX8_put_72 : decode cX8_put 72 = .ok (.ireturn, 1) := by decide +kernel
theorem dX8_put_73 : decode cX8_put 73 = .ok (.aload_n 0, 1) := by decide +kernel
theorem dX8_put_74 : decode cX8_put 74 = .ok (.iload_n 1, 1) := by decide +kernel
theorem dX8_put_75 : decode cX8_put 75 = .ok (.iload_n 2, 1) := by decide +kernel
theorem dX8_put_76 : decode cX8_put 76 = .ok (.invokevirtual 134, 3) := by decide +kernel
theorem dX8_put_79 : decode cX8_put 79 = .ok (.aload_n 0, 1) := by decide +kernel
theorem dX8_put_80 : decode cX8_put 80 = .ok (.iload_n 1, 1) := by decide +kernel
theorem dX8_put_81 : decode cX8_put 81 = .ok (.iload_n 3, 1) := by decide +kernel
theorem dX8_put_82 : decode cX8_put 82 = .ok (.invokevirtual 134, 3) := by decide +kernel
theorem dX8_put_85 : decode cX8_put 85 = .ok (.aload_n 0, 1) := by decide +kernel
theorem dX8_put_86 : decode cX8_put 86 = .ok (.getfield 38, 3) := by decide +kernel
theorem dX8_put_89 : decode cX8_put 89 = .ok (.iload_n 1, 1) := by decide +kernel
theorem dX8_put_90 : decode cX8_put 90 = .ok (.dup2, 1) := by decide +kernel
theorem dX8_put_91 : decode cX8_put 91 = .ok (.iaload, 1) := by decide +kernel
theorem dX8_put_92 : decode cX8_put 92 = .ok (.iconst 1, 1) := by decide +kernel
theorem dX8_put_93 : decode cX8_put 93 = .ok (.iadd, 1) := by decide +kernel
theorem dX8_put_94 : decode cX8_put 94 = .ok (.iastore, 1) := by decide +kernel
theorem dX8_put_95 : decode cX8_put 95 = .ok (.aload_n 0, 1) := by decide +kernel
theorem dX8_put_96 : decode cX8_put 96 = .ok (.getfield 38, 3) := by decide +kernel
theorem dX8_put_99 : decode cX8_put 99 = .ok (.iload_n 1, 1) := by decide +kernel
theorem dX8_put_100 : decode cX8_put 100 = .ok (.iaload, 1) := by decide +kernel
theorem dX8_put_101 : decode cX8_put 101 = .ok (.ireturn, 1) := by decide +kernel
theorem dX8_fail_0 : decode cX8_fail 0 = .ok (.aload_n 0, 1) := by decide +kernel
theorem dX8_fail_1 : decode cX8_fail 1 = .ok (.iload_n 1, 1) := by decide +kernel
theorem dX8_fail_2 : decode cX8_fail 2 = .ok (.putfield 138, 3) := by decide +kernel
theorem dX8_fail_5 : decode cX8_fail 5 = .ok (.aload_n 0, 1) := by decide +kernel
theorem dX8_fail_6 : decode cX8_fail 6 = .ok (.iload_n 2, 1) := by decide +kernel
theorem dX8_fail_7 : decode cX8_fail 7 = .ok (.putfield 141, 3) := by decide +kernel
theorem dX8_fail_10 : decode cX8_fail 10 = .ok (.iconst 0, 1) := by decide +kernel
theorem dX8_fail_11 : decode cX8_fail 11 = .ok (.ireturn, 1) := by decide +kernel
theorem dX8_readOne_0 : decode cX8_readOne 0 = .ok (.aload_n 0, 1) := by decide +kernel
theorem dX8_readOne_1 : decode cX8_readOne 1 = .ok (.getfield 144, 3) := by decide +kernel
theorem dX8_readOne_4 : decode cX8_readOne 4 = .ok (.istore_n 1, 1) := by decide +kernel
theorem dX8_readOne_5 : decode cX8_readOne 5 = .ok (.iload_n 1, 1) := by decide +kernel
theorem dX8_readOne_6 : decode cX8_readOne 6 = .ok (.aload_n 0, 1) := by decide +kernel
theorem dX8_readOne_7 : decode cX8_readOne 7 = .ok (.getfield 88, 3) := by decide +kernel
theorem dX8_readOne_10 : decode cX8_readOne 10 = .ok (.if_icmp .lt 13, 3) := by decide +kernel
theorem dX8_readOne_13 : decode cX8_readOne 13 = .ok (.aload_n 0, 1) := by decide +kernel
theorem dX8_readOne_14 : decode cX8_readOne 14 = .ok (.iconst 1, 1) := by decide +kernel
theorem dX8_readOne_15 : decode cX8_readOne 15 = .ok (.aload_n 0, 1) := by decide +kernel
theorem dX8_readOne_16 : decode cX8_readOne 16 = .ok (.getfield 88, 3) := by decide +kernel
theorem dX8_readOne_19 : decode cX8_readOne 19 = .ok (.invokevirtual 147, 3) := by decide +kernel
theorem dX8_readOne_22 : decode cX8_readOne 22 = .ok (.ireturn, 1) := by decide +kernel
theorem dX8_readOne_23 : decode cX8_readOne 23 = .ok (.aload_n 0, 1) := by decide +kernel
theorem dX8_readOne_24 : decode cX8_readOne 24 = .ok (.getfield 8, 3) := by decide +kernel
theorem dX8_readOne_27 : decode cX8_readOne 27 = .ok (.iload_n 1, 1) := by decide +kernel
theorem dX8_readOne_28 : decode cX8_readOne 28 = .ok (.baload, 1) := by decide +kernel
theorem dX8_readOne_29 : decode cX8_readOne 29 = .ok (.sipush 255, 3) := by decide +kernel
theorem dX8_readOne_32 : decode cX8_readOne 32 = .ok (.iand, 1) := by decide +kernel
theorem dX8_readOne_33 : decode cX8_readOne 33 = .ok (.istore_n 2, 1) := by decide +kernel
theorem dX8_readOne_34 : decode cX8_readOne 34 = .ok (.iload_n 2, 1) := by decide +kernel
theorem dX8_readOne_35 : decode cX8_readOne 35 = .ok (.invokestatic 77, 3) := by decide +kernel
theorem dX8_readOne_38 : decode cX8_readOne 38 = .ok (.istore_n 3, 1) := by decide +kernel
theorem dX8_readOne_39 : decode cX8_readOne 39 = .ok (.iload_n 3, 1) := by decide +kernel
theorem dX8_readOne_40 : decode cX8_readOne 40 = .ok (.ifCond .ge 10, 3) := by decide +kernel
theorem dX8_readOne_43 : decode cX8_readOne 43 = .ok (.aload_n 0, 1) := by decide +kernel
theorem dX8_readOne_44 : decode cX8_readOne 44 = .ok (.iconst 2, 1) := by decide +kernel
theorem dX8_readOne_45 : decode cX8_readOne 45 = .ok (.iload_n 1, 1) := by decide +kernel
theorem dX8_readOne_46 : decode cX8_readOne 46 = .ok (.invokevirtual 147, 3) := by decide +kernel
theorem dX8_readOne_49 : decode cX8_readOne 49 = .ok (.ireturn, 1) := by decide +kernel
theorem dX8_readOne_50 : decode cX8_readOne 50 = .ok (.iload_n 1, 1) := by decide +kernel
theorem dX8_readOne_51 : decode cX8_readOne 51 = .ok (.iload_n 2, 1) := by decide +kernel
theorem dX8_readOne_52 : decode cX8_readOne 52 = .ok (.invokestatic 91, 3) := by decide +kernel
theorem dX8_readOne_55 : decode cX8_readOne 55 = .ok (.iadd, 1) := by decide +kernel
theorem dX8_readOne_56 : decode cX8_readOne 56 = .ok (.aload_n 0, 1) := by decide +kernel
theorem dX8_readOne_57 : decode cX8_readOne 57 = .ok (.getfield 88, 3) := by decide +kernel
theorem dX8_readOne_60 : decode cX8_readOne 60 = .ok (.if_icmp .le 10, 3) := by decide +kernel
theorem dX8_readOne_63 : decode cX8_readOne 63 = .ok (.aload_n 0, 1) := by decide +kernel
theorem dX8_readOne_64 : decode cX8_readOne 64 = .ok (.iconst 1, 1) := by decide +kernel
theorem dX8_readOne_65 : decode cX8_readOne 65 = .ok (.iload_n 1, 1) := by decide +kernel
theorem dX8_readOne_66 : decode cX8_readOne 66 = .ok (.invokevirtual 147, 3) := by decide +kernel
theorem dX8_readOne_69 : decode cX8_readOne 69 = .ok (.ireturn, 1) := by decide +kernel
theorem dX8_readOne_70 : decode cX8_readOne 70 = .ok (.aload_n 0, 1) := by decide +kernel
theorem dX8_readOne_71 : decode cX8_readOne 71 = .ok (.iload_n 2, 1) := by decide +kernel
theorem dX8_readOne_72 : decode cX8_readOne 72 = .ok (.iload_n 1, 1) := by decide +kernel
theorem dX8_readOne_73 : decode cX8_readOne 73 = .ok (.invokevirtual 94, 3) := by decide +kernel
theorem dX8_readOne_76 : decode cX8_readOne 76 = .ok (.lstore 4, 2) := by decide +kernel
theorem dX8_readOne_78 : decode cX8_readOne 78 = .ok (.iload_n 3, 1) := by decide +kernel
theorem dX8_readOne_79 : decode cX8_readOne 79 = .ok (.invokestatic 100, 3) := by decide +kernel
theorem dX8_readOne_82 : decode cX8_readOne 82 = .ok (.ifCond .eq 12, 3) := by decide +kernel
theorem dX8_readOne_85 : decode cX8_readOne 85 = .ok (.aload_n 0, 1) := by decide +kernel
theorem dX8_readOne_86 : decode cX8_readOne 86 = .ok (.iload_n 3, 1) := by decide +kernel
theorem dX8_readOne_87 : decode cX8_readOne 87 = .ok (.lload 4, 2) := by decide +kernel
theorem dX8_readOne_89 : decode cX8_readOne 89 = .ok (.iload_n 1, 1) := by decide +kernel
theorem dX8_readOne_90 : decode cX8_readOne 90 = .ok (.invokevirtual 151, 3) := by decide +kernel
theorem dX8_readOne_93 : decode cX8_readOne 93 = .ok (.ireturn, 1) := by decide +kernel
theorem dX8_readOne_94 : decode cX8_readOne 94 = .ok (.lload 4, 2) := by decide +kernel
theorem dX8_readOne_96 : decode cX8_readOne 96 = .ok (.aload_n 0, 1) := by decide +kernel
theorem dX8_readOne_97 : decode cX8_readOne 97 = .ok (.getfield 88, 3) := by decide +kernel
theorem dX8_readOne_100 : decode cX8_readOne 100 = .ok (.iload_n 1, 1) := by decide +kernel
theorem dX8_readOne_101 : decode cX8_readOne 101 = .ok (.isub, 1) := by decide +kernel
theorem dX8_readOne_102 : decode cX8_readOne 102 = .ok (.iload_n 2, 1) := by decide +kernel
theorem dX8_readOne_103 : decode cX8_readOne 103 = .ok (.invokestatic 91, 3) := by decide +kernel
theorem dX8_readOne_106 : decode cX8_readOne 106 = .ok (.isub, 1) := by decide +kernel
theorem dX8_readOne_107 : decode cX8_readOne 107 = .ok (.i2l, 1) := by decide +kernel
theorem dX8_readOne_108 : decode cX8_readOne 108 = .ok (.lcmp, 1) := by decide +kernel
theorem dX8_readOne_109 : decode cX8_readOne 109 = .ok (.ifCond .le 10, 3) := by decide +kernel
theorem dX8_readOne_112 : decode cX8_readOne 112 = .ok (.aload_n 0, 1) := by decide +kernel
theorem dX8_readOne_113 : decode cX8_readOne 113 = .ok (.iconst 1, 1) := by decide +kernel
theorem dX8_readOne_114 : decode cX8_readOne 114 = .ok (.iload_n 1, 1) := by decide +kernel
theorem dX8_readOne_115 : decode cX8_readOne 115 = .ok (.invokevirtual 147, 3) := by decide +kernel
theorem dX8_readOne_118 : decode cX8_readOne 118 = .ok (.ireturn, 1) := by decide +kernel
theorem dX8_readOne_119 : decode cX8_readOne 119 = .ok (.iload_n 1, 1) := by decide +kernel
theorem dX8_readOne_120 : decode cX8_readOne 120 = .ok (.iload_n 2, 1) := by decide +kernel
theorem dX8_readOne_121 : decode cX8_readOne 121 = .ok (.invokestatic 91, 3) := by decide +kernel
theorem dX8_readOne_124 : decode cX8_readOne 124 = .ok (.iadd, 1) := by decide +kernel
theorem dX8_readOne_125 : decode cX8_readOne 125 = .ok (.istore 6, 2) := by decide +kernel
theorem dX8_readOne_127 : decode cX8_readOne 127 = .ok (.iload_n 3, 1) := by decide +kernel
theorem dX8_readOne_128 : decode cX8_readOne 128 = .ok (.bipush 9, 2) := by decide +kernel
theorem dX8_readOne_130 : decode cX8_readOne 130 = .ok (.if_icmp .ne 15, 3) := by decide +kernel
theorem dX8_readOne_133 : decode cX8_readOne 133 = .ok (.aload_n 0, 1) := by decide +kernel
theorem dX8_readOne_134 : decode cX8_readOne 134 = .ok (.getfield 8, 3) := by decide +kernel
theorem dX8_readOne_137 : decode cX8_readOne 137 = .ok (.iload 6, 2) := by decide +kernel
theorem dX8_readOne_139 : decode cX8_readOne 139 = .ok (.iconst 1, 1) := by decide +kernel
theorem dX8_readOne_140 : decode cX8_readOne 140 = .ok (.isub, 1) := by decide +kernel
theorem dX8_readOne_141 : decode cX8_readOne 141 = .ok (.baload, 1) := by decide +kernel
theorem dX8_readOne_142 : decode cX8_readOne 142 = .ok (.goto 4, 3) := by decide +kernel
theorem dX8_readOne_145 : decode cX8_readOne 145 = .ok (.iconst 1, 1) := by decide +kernel
theorem dX8_readOne_146 : decode cX8_readOne 146 = .ok (.istore 7, 2) := by decide +kernel
theorem dX8_readOne_148 : decode cX8_readOne 148 = .ok (.iload_n 3, 1) := by decide +kernel
theorem dX8_readOne_149 : decode cX8_readOne 149 = .ok (.iconst 5, 1) := by decide +kernel
theorem dX8_readOne_150 : decode cX8_readOne 150 = .ok (.if_icmp .ne 49, 3) := by decide +kernel
theorem dX8_readOne_153 : decode cX8_readOne 153 = .ok (.aload_n 0, 1) := by decide +kernel
theorem dX8_readOne_154 : decode cX8_readOne 154 = .ok (.getfield 8, 3) := by decide +kernel
theorem dX8_readOne_157 : decode cX8_readOne 157 = .ok (.iload 6, 2) := by decide +kernel
theorem dX8_readOne_159 : decode cX8_readOne 159 = .ok (.iload 6, 2) := by decide +kernel
theorem dX8_readOne_161 : decode cX8_readOne 161 = .ok (.lload 4, 2) := by decide +kernel
theorem dX8_readOne_163 : decode cX8_readOne 163 = .ok (.l2i, 1) := by decide +kernel
theorem dX8_readOne_164 : decode cX8_readOne 164 = .ok (.iadd, 1) := by decide +kernel
theorem dX8_readOne_165 : decode cX8_readOne 165 = .ok (.invokestatic 122, 3) := by decide +kernel
theorem dX8_readOne_168 : decode cX8_readOne 168 = .ok (.i2l, 1) := by decide +kernel
theorem dX8_readOne_169 : decode cX8_readOne 169 = .ok (.lload 4, 2) := by decide +kernel
theorem dX8_readOne_171 : decode cX8_readOne 171 = .ok (.lcmp, 1) := by decide +kernel
theorem dX8_readOne_172 : decode cX8_readOne 172 = .ok (.ifCond .ge 27, 3) := by decide +kernel
theorem dX8_readOne_175 : decode cX8_readOne 175 = .ok (.aload_n 0, 1) := by decide +kernel
theorem dX8_readOne_176 : decode cX8_readOne 176 = .ok (.iconst 3, 1) := by decide +kernel
theorem dX8_readOne_177 : decode cX8_readOne 177 = .ok (.iload 6, 2) := by decide +kernel
theorem dX8_readOne_179 : decode cX8_readOne 179 = .ok (.aload_n 0, 1) := by decide +kernel
theorem dX8_readOne_180 : decode cX8_readOne 180 = .ok (.getfield 8, 3) := by decide +kernel
theorem dX8_readOne_183 : decode cX8_readOne 183 = .ok (.iload 6, 2) := by decide +kernel
theorem dX8_readOne_185 : decode cX8_readOne 185 = .ok (.iload 6, 2) := by decide +kernel
theorem dX8_readOne_187 : decode cX8_readOne 187 = .ok (.lload 4, 2) := by decide +kernel
theorem dX8_readOne_189 : decode cX8_readOne 189 = .ok (.l2i, 1) := by decide +kernel
theorem dX8_readOne_190 : decode cX8_readOne 190 = .ok (.iadd, 1) := by decide +kernel
theorem dX8_readOne_191 : decode cX8_readOne 191 = .ok (.invokestatic 122, 3) := by decide +kernel
theorem dX8_readOne_194 : decode cX8_readOne 194 = .ok (.iadd, 1) := by decide +kernel
theorem dX8_readOne_195 : decode cX8_readOne 195 = .ok (.invokevirtual 147, 3) := by decide +kernel
theorem dX8_readOne_198 : decode cX8_readOne 198 = .ok (.ireturn, 1) := by decide +kernel
theorem dX8_readOne_199 : decode cX8_readOne 199 = .ok (.iload_n 3, 1) := by decide +kernel
theorem dX8_readOne_200 : decode cX8_readOne 200 = .ok (.bipush 9, 2) := by decide +kernel
theorem dX8_readOne_202 : decode cX8_readOne 202 = .ok (.if_icmp .ne 29, 3) := by decide +kernel
theorem dX8_readOne_205 : decode cX8_readOne 205 = .ok (.iload 7, 2) := by decide +kernel
theorem dX8_readOne_207 : decode cX8_readOne 207 = .ok (.ifCond .ne 24, 3) := by decide +kernel
theorem dX8_readOne_210 : decode cX8_readOne 210 = .ok (.aload_n 0, 1) := by decide +kernel
theorem dX8_readOne_211 : decode cX8_readOne 211 = .ok (.iload 6, 2) := by decide +kernel
theorem dX8_readOne_213 : decode cX8_readOne 213 = .ok (.lload 4, 2) := by decide +kernel
theorem dX8_readOne_215 : decode cX8_readOne 215 = .ok (.l2i, 1) := by decide +kernel
theorem dX8_readOne_216 : decode cX8_readOne 216 = .ok (.iadd, 1) := by decide +kernel
theorem dX8_readOne_217 : decode cX8_readOne 217 = .ok (.putfield 144, 3) := by decide +kernel
theorem dX8_readOne_220 : decode cX8_readOne 220 = .ok (.aload_n 0, 1) := by decide +kernel
theorem dX8_readOne_221 : decode cX8_readOne 221 = .ok (.iload 6, 2) := by decide +kernel
theorem dX8_readOne_223 : decode cX8_readOne 223 = .ok (.lload 4, 2) := by decide +kernel
theorem dX8_readOne_225 : decode cX8_readOne 225 = .ok (.l2i, 1) := by decide +kernel
theorem dX8_readOne_226 : decode cX8_readOne 226 = .ok (.iload_n 1, 1) := by decide +kernel
theorem dX8_readOne_227 : decode cX8_readOne 227 = .ok (.invokevirtual 155, 3) := by decide +kernel
theorem dX8_readOne_230 : decode cX8_readOne 230 = .ok (.ireturn, 1) := by decide +kernel
theorem dX8_readOne_231 : decode cX8_readOne 231 = .ok (.lconst 0, 1) := by decide +kernel
theorem dX8_readOne_232 : decode cX8_readOne 232 = .ok (.lstore 8, 2) := by decide +kernel
theorem dX8_readOne_234 : decode cX8_readOne 234 = .ok (.iload_n 3, 1) := by decide +kernel
theorem dX8_readOne_235 : decode cX8_readOne 235 = .ok (.bipush 9, 2) := by decide +kernel
theorem dX8_readOne_237 : decode cX8_readOne 237 = .ok (.if_icmp .ne 103, 3) := by decide +kernel
theorem dX8_readOne_240 : decode cX8_readOne 240 = .ok (.iload 7, 2) := by decide +kernel
theorem dX8_readOne_242 : decode cX8_readOne 242 = .ok (.iconst (-1), 1) := by decide +kernel
theorem dX8_readOne_243 : decode cX8_readOne 243 = .ok (.if_icmp .ne 97, 3) := by decide +kernel
theorem dX8_readOne_246 : decode cX8_readOne 246 = .ok (.lload 4, 2) := by decide +kernel
theorem dX8_readOne_248 : decode cX8_readOne 248 = .ok (.ldc2_w 159, 3) := by decide +kernel
theorem dX8_readOne_251 : decode cX8_readOne 251 = .ok (.lcmp, 1) := by decide +kernel
theorem dX8_readOne_252 : decode cX8_readOne 252 = .ok (.ifCond .ne 19, 3) := by decide +kernel
theorem dX8_readOne_255 : decode cX8_readOne 255 = .ok (.aload_n 0, 1) := by decide +kernel
theorem dX8_readOne_256 : decode cX8_readOne 256 = .ok (.aload_n 0, 1) := by decide +kernel
theorem dX8_readOne_257 : decode cX8_readOne 257 = .ok (.getfield 8, 3) := by decide +kernel
theorem dX8_readOne_260 : decode cX8_readOne 260 = .ok (.iload 6, 2) := by decide +kernel
theorem dX8_readOne_262 : decode cX8_readOne 262 = .ok (.iconst 4, 1) := by decide +kernel
theorem dX8_readOne_263 : decode cX8_readOne 263 = .ok (.invokevirtual 84, 3) := by decide +kernel
theorem dX8_readOne_266 : decode cX8_readOne 266 = .ok (.iconst 2, 1) := by decide +kernel
theorem dX8_readOne_267 : decode cX8_readOne 267 = .ok (.lshr, 1) := by decide +kernel
theorem dX8_readOne_268 : decode cX8_readOne 268 = .ok (.goto 27, 3) := by decide +kernel
theorem dX8_readOne_271 : decode cX8_readOne 271 = .ok (.lload 4, 2) := by decide +kernel
theorem dX8_readOne_273 : decode cX8_readOne 273 = .ok (.ldc2_w 161, 3) := by decide +kernel
theorem dX8_readOne_276 : decode cX8_readOne 276 = .ok (.lcmp, 1) := by decide +kernel
theorem dX8_readOne_277 : decode cX8_readOne 277 = .ok (.ifCond .ne 17, 3) := by decide +kernel
theorem dX8_readOne_280 : decode cX8_readOne 280 = .ok (.aload_n 0, 1) := by decide +kernel
theorem dX8_readOne_281 : decode cX8_readOne 281 = .ok (.aload_n 0, 1) := by decide +kernel
theorem dX8_readOne_282 : decode cX8_readOne 282 = .ok (.getfield 8, 3) := by decide +kernel
theorem dX8_readOne_285 : decode cX8_readOne 285 = .ok (.iload 6, 2) := by decide +kernel
theorem dX8_readOne_287 : decode cX8_readOne 287 = .ok (.iconst 4, 1) := by decide +kernel
theorem dX8_readOne_288 : decode cX8_readOne 288 = .ok (.invokevirtual 84, 3) := by decide +kernel
theorem dX8_readOne_291 : decode cX8_readOne 291 = .ok (.goto 4, 3) := by decide +kernel
theorem dX8_readOne_294 : decode cX8_readOne 294 = .ok (.lconst 0, 1) := by decide +kernel
theorem dX8_readOne_295 : decode cX8_readOne 295 = .ok (.lstore 8, 2) := by decide +kernel
theorem dX8_readOne_297 : decode cX8_readOne 297 = .ok (.lload 4, 2) := by decide +kernel
theorem dX8_readOne_299 : decode cX8_readOne 299 = .ok (.ldc2_w 163, 3) := by decide +kernel
theorem dX8_readOne_302 : decode cX8_readOne 302 = .ok (.lcmp, 1) := by decide +kernel
theorem dX8_readOne_303 : decode cX8_readOne 303 = .ok (.ifCond .eq 21, 3) := by decide +kernel
theorem dX8_readOne_306 : decode cX8_readOne 306 = .ok (.lload 4, 2) := by decide +kernel
theorem dX8_readOne_308 : decode cX8_readOne 308 = .ok (.ldc2_w 159, 3) := by decide +kernel
theorem dX8_readOne_311 : decode cX8_readOne 311 = .ok (.lcmp, 1) := by decide +kernel
theorem dX8_readOne_312 : decode cX8_readOne 312 = .ok (.ifCond .eq 12, 3) := by decide +kernel
theorem dX8_readOne_315 : decode cX8_readOne 315 = .ok (.lload 4, 2) := by decide +kernel
theorem dX8_readOne_317 : decode cX8_readOne 317 = .ok (.ldc2_w 161, 3) := by decide +kernel
theorem dX8_readOne_320 : decode cX8_readOne 320 = .ok (.lcmp, 1) := by decide +kernel
theorem dX8_readOne_321 : decode cX8_readOne 321 = .ok (.ifCond .ne 12, 3) := by decide +kernel
theorem dX8_readOne_324 : decode cX8_readOne 324 = .ok (.lload 8, 2) := by decide +kernel
theorem dX8_readOne_326 : decode cX8_readOne 326 = .ok (.ldc2_w 165, 3) := by decide +kernel
theorem dX8_readOne_329 : decode cX8_readOne 329 = .ok (.lcmp, 1) := by decide +kernel
theorem dX8_readOne_330 : decode cX8_readOne 330 = .ok (.ifCond .le 10, 3) := by decide +kernel
theorem dX8_readOne_333 : decode cX8_readOne 333 = .ok (.aload_n 0, 1) := by decide +kernel
theorem dX8_readOne_334 : decode cX8_readOne 334 = .ok (.iconst 4, 1) := by decide +kernel
theorem dX8_readOne_335 : decode cX8_readOne 335 = .ok (.iload_n 1, 1) := by decide +kernel
theorem dX8_readOne_336 : decode cX8_readOne 336 = .ok (.invokevirtual 147, 3) := by decide +kernel
theorem dX8_readOne_339 : decode cX8_readOne 339 = .ok (.ireturn, 1) := by decide +kernel
theorem dX8_readOne_340 : decode cX8_readOne 340 = .ok (.iload_n 3, 1) := by decide +kernel
theorem dX8_readOne_341 : decode cX8_readOne 341 = .ok (.iconst 5, 1) := by decide +kernel
theorem dX8_readOne_342 : decode cX8_readOne 342 = .ok (.if_icmp .eq 21, 3) := by decide +kernel
theorem dX8_readOne_345 : decode cX8_readOne 345 = .ok (.iload_n 3, 1) := by decide +kernel
theorem dX8_readOne_346 : decode cX8_readOne 346 = .ok (.bipush 6, 2) := by decide +kernel
theorem dX8_readOne_348 : decode cX8_readOne 348 = .ok (.if_icmp .eq 15, 3) := by decide +kernel
theorem dX8_readOne_351 : decode cX8_readOne 351 = .ok (.iload_n 3, 1) := by decide +kernel
theorem dX8_readOne_352 : decode cX8_readOne 352 = .ok (.bipush 9, 2) := by decide +kernel
theorem dX8_readOne_354 : decode cX8_readOne 354 = .ok (.if_icmp .ne 13, 3) := by decide +kernel
theorem dX8_readOne_357 : decode cX8_readOne 357 = .ok (.iload 7, 2) := by decide +kernel
theorem dX8_readOne_359 : decode cX8_readOne 359 = .ok (.iconst (-1), 1) := by decide +kernel
theorem dX8_readOne_360 : decode cX8_readOne 360 = .ok (.if_icmp .eq 7, 3) := by decide +kernel
theorem dX8_readOne_363 : decode cX8_readOne 363 = .ok (.iconst 1, 1) := by decide +kernel
theorem dX8_readOne_364 : decode cX8_readOne 364 = .ok (.goto 4, 3) := by decide +kernel
theorem dX8_readOne_367 : decode cX8_readOne 367 = .ok (.iconst 0, 1) := by decide +kernel
theorem dX8_readOne_368 : decode cX8_readOne 368 = .ok (.istore 10, 2) := by decide +kernel
theorem dX8_readOne_370 : decode cX8_readOne 370 = .ok (.aload_n 0, 1) := by decide +kernel
theorem dX8_readOne_371 : decode cX8_readOne 371 = .ok (.getfield 107, 3) := by decide +kernel
theorem dX8_readOne_374 : decode cX8_readOne 374 = .ok (.sipush 3000, 3) := by decide +kernel
theorem dX8_readOne_377 : decode cX8_readOne 377 = .ok (.if_icmp .eq 23, 3) := by decide +kernel
theorem dX8_readOne_380 : decode cX8_readOne 380 = .ok (.iload 10, 2) := by decide +kernel
theorem dX8_readOne_382 : decode cX8_readOne 382 = .ok (.ifCond .eq 26, 3) := by decide +kernel
theorem dX8_readOne_385 : decode cX8_readOne 385 = .ok (.aload_n 0, 1) := by decide +kernel
theorem dX8_readOne_386 : decode cX8_readOne 386 = .ok (.getfield 114, 3) := by decide +kernel
theorem dX8_readOne_389 : decode cX8_readOne 389 = .ok (.i2l, 1) := by decide +kernel
theorem dX8_readOne_390 : decode cX8_readOne 390 = .ok (.lload 4, 2) := by decide +kernel
theorem dX8_readOne_392 : decode cX8_readOne 392 = .ok (.ladd, 1) := by decide +kernel
theorem dX8_readOne_393 : decode cX8_readOne 393 = .ok (.ldc2_w 167, 3) := by decide +kernel
theorem dX8_readOne_396 : decode cX8_readOne 396 = .ok (.lcmp, 1) := by decide +kernel
theorem dX8_readOne_397 : decode cX8_readOne 397 = .ok (.ifCond .le 11, 3) := by decide +kernel
theorem dX8_readOne_400 : decode cX8_readOne 400 = .ok (.aload_n 0, 1) := by decide +kernel
theorem dX8_readOne_401 : decode cX8_readOne 401 = .ok (.bipush 7, 2) := by decide +kernel
theorem dX8_readOne_403 : decode cX8_readOne 403 = .ok (.iload_n 1, 1) := by decide +kernel
theorem dX8_readOne_404 : decode cX8_readOne 404 = .ok (.invokevirtual 147, 3) := by decide +kernel
theorem dX8_readOne_407 : decode cX8_readOne 407 = .ok (.ireturn, 1) := by decide +kernel
theorem dX8_readOne_408 : decode cX8_readOne 408 = .ok (.iload 10, 2) := by decide +kernel
theorem dX8_readOne_410 : decode cX8_readOne 410 = .ok (.ifCond .eq 41, 3) := by decide +kernel
theorem dX8_readOne_413 : decode cX8_readOne 413 = .ok (.aload_n 0, 1) := by decide +kernel
theorem dX8_readOne_414 : decode cX8_readOne 414 = .ok (.aload_n 0, 1) := by decide +kernel
theorem dX8_readOne_415 : decode cX8_readOne 415 = .ok (.iload_n 3, 1) := by decide +kernel
theorem dX8_readOne_416 : decode cX8_readOne 416 = .ok (.iload 6, 2) := by decide +kernel
theorem dX8_readOne_418 : decode cX8_readOne 418 = .ok (.lload 4, 2) := by decide +kernel
theorem dX8_readOne_420 : decode cX8_readOne 420 = .ok (.l2i, 1) := by decide +kernel
theorem dX8_readOne_421 : decode cX8_readOne 421 = .ok (.invokevirtual 126, 3) := by decide +kernel
theorem dX8_readOne_424 : decode cX8_readOne 424 = .ok (.putfield 169, 3) := by decide +kernel
theorem dX8_readOne_427 : decode cX8_readOne 427 = .ok (.aload_n 0, 1) := by decide +kernel
theorem dX8_readOne_428 : decode cX8_readOne 428 = .ok (.getfield 29, 3) := by decide +kernel
theorem dX8_readOne_431 : decode cX8_readOne 431 = .ok (.aload_n 0, 1) := by decide +kernel
theorem dX8_readOne_432 : decode cX8_readOne 432 = .ok (.getfield 169, 3) := by decide +kernel
theorem dX8_readOne_435 : decode cX8_readOne 435 = .ok (.iload_n 3, 1) := by decide +kernel
theorem dX8_readOne_436 : decode cX8_readOne 436 = .ok (.bipush 9, 2) := by decide +kernel
theorem dX8_readOne_438 : decode cX8_readOne 438 = .ok (.if_icmp .ne 8, 3) := by decide +kernel
theorem dX8_readOne_441 : decode cX8_readOne 441 = .ok (.iload 7, 2) := by decide +kernel
theorem dX8_readOne_443 : decode cX8_readOne 443 = .ok (.goto 4, 3) := by decide +kernel
theorem dX8_readOne_446 : decode cX8_readOne 446 = .ok (.iconst 0, 1) := by decide +kernel
theorem dX8_readOne_447 : decode cX8_readOne 447 = .ok (.iastore, 1) := by decide +kernel
theorem dX8_readOne_448 : decode cX8_readOne 448 = .ok (.goto 110, 3) := by decide +kernel
theorem dX8_readOne_451 : decode cX8_readOne 451 = .ok (.iload_n 3, 1) := by decide +kernel
theorem dX8_readOne_452 : decode cX8_readOne 452 = .ok (.bipush 9, 2) := by decide +kernel
theorem dX8_readOne_454 : decode cX8_readOne 454 = .ok (.if_icmp .ne 97, 3) := by decide +kernel
theorem dX8_readOne_457 : decode cX8_readOne 457 = .ok (.lload 4, 2) := by decide +kernel
theorem dX8_readOne_459 : decode cX8_readOne 459 = .ok (.ldc2_w 163, 3) := by decide +kernel
theorem dX8_readOne_462 : decode cX8_readOne 462 = .ok (.lcmp, 1) := by decide +kernel
theorem dX8_readOne_463 : decode cX8_readOne 463 = .ok (.ifCond .ne 17, 3) := by decide +kernel
theorem dX8_readOne_466 : decode cX8_readOne 466 = .ok (.aload_n 0, 1) := by decide +kernel
theorem dX8_readOne_467 : decode cX8_readOne 467 = .ok (.aload_n 0, 1) := by decide +kernel
theorem dX8_readOne_468 : decode cX8_readOne 468 = .ok (.getfield 8, 3) := by decide +kernel
theorem dX8_readOne_471 : decode cX8_readOne 471 = .ok (.iload 6, 2) := by decide +kernel
theorem dX8_readOne_473 : decode cX8_readOne 473 = .ok (.iconst 4, 1) := by decide +kernel
theorem dX8_readOne_474 : decode cX8_readOne 474 = .ok (.invokevirtual 84, 3) := by decide +kernel
theorem dX8_readOne_477 : decode cX8_readOne 477 = .ok (.goto 45, 3) := by decide +kernel
theorem dX8_readOne_480 : decode cX8_readOne 480 = .ok (.lload 4, 2) := by decide +kernel
theorem dX8_readOne_482 : decode cX8_readOne 482 = .ok (.ldc2_w 159, 3) := by decide +kernel
theorem dX8_readOne_485 : decode cX8_readOne 485 = .ok (.lcmp, 1) := by decide +kernel
theorem dX8_readOne_486 : decode cX8_readOne 486 = .ok (.ifCond .ne 22, 3) := by decide +kernel
theorem dX8_readOne_489 : decode cX8_readOne 489 = .ok (.aload_n 0, 1) := by decide +kernel
theorem dX8_readOne_490 : decode cX8_readOne 490 = .ok (.aload_n 0, 1) := by decide +kernel
theorem dX8_readOne_491 : decode cX8_readOne 491 = .ok (.getfield 8, 3) := by decide +kernel
theorem dX8_readOne_494 : decode cX8_readOne 494 = .ok (.iload 6, 2) := by decide +kernel
theorem dX8_readOne_496 : decode cX8_readOne 496 = .ok (.bipush 8, 2) := by decide +kernel
theorem dX8_readOne_498 : decode cX8_readOne 498 = .ok (.invokevirtual 84, 3) := by decide +kernel
theorem dX8_readOne_501 : decode cX8_readOne 501 = .ok (.ldc2_w 172, 3) := by decide +kernel
theorem dX8_readOne_504 : decode cX8_readOne 504 = .ok (.land, 1) := by decide +kernel
theorem dX8_readOne_505 : decode cX8_readOne 505 = .ok (.goto 17, 3) := by decide +kernel
theorem dX8_readOne_508 : decode cX8_readOne 508 = .ok (.aload_n 0, 1) := by decide +kernel
theorem dX8_readOne_509 : decode cX8_readOne 509 = .ok (.aload_n 0, 1) := by decide +kernel
theorem dX8_readOne_510 : decode cX8_readOne 510 = .ok (.getfield 8, 3) := by decide +kernel
theorem dX8_readOne_513 : decode cX8_readOne 513 = .ok (.iload 6, 2) := by decide +kernel
theorem dX8_readOne_515 : decode cX8_readOne 515 = .ok (.iconst 4, 1) := by decide +kernel
theorem dX8_readOne_516 : decode cX8_readOne 516 = .ok (.iadd, 1) := by decide +kernel
theorem dX8_readOne_517 : decode cX8_readOne 517 = .ok (.bipush 8, 2) := by decide +kernel
theorem dX8_readOne_519 : decode cX8_readOne 519 = .ok (.invokevirtual 84, 3) := by decide +kernel
theorem dX8_readOne_522 : decode cX8_readOne 522 = .ok (.lstore 11, 2) := by decide +kernel
theorem dX8_readOne_524 : decode cX8_readOne 524 = .ok (.aload_n 0, 1) := by decide +kernel
theorem dX8_readOne_525 : decode cX8_readOne 525 = .ok (.aload_n 0, 1) := by decide +kernel
theorem dX8_readOne_526 : decode cX8_readOne 526 = .ok (.bipush 10, 2) := by decide +kernel
theorem dX8_readOne_528 : decode cX8_readOne 528 = .ok (.lload 11, 2) := by decide +kernel
theorem dX8_readOne_530 : decode cX8_readOne 530 = .ok (.invokevirtual 110, 3) := by decide +kernel
theorem dX8_readOne_533 : decode cX8_readOne 533 = .ok (.putfield 169, 3) := by decide +kernel
theorem dX8_readOne_536 : decode cX8_readOne 536 = .ok (.aload_n 0, 1) := by decide +kernel
theorem dX8_readOne_537 : decode cX8_readOne 537 = .ok (.getfield 29, 3) := by decide +kernel
theorem dX8_readOne_540 : decode cX8_readOne 540 = .ok (.aload_n 0, 1) := by decide +kernel
theorem dX8_readOne_541 : decode cX8_readOne 541 = .ok (.getfield 169, 3) := by decide +kernel
theorem dX8_readOne_544 : decode cX8_readOne 544 = .ok (.lload 8, 2) := by decide +kernel
theorem dX8_readOne_546 : decode cX8_readOne 546 = .ok (.l2i, 1) := by decide +kernel
theorem dX8_readOne_547 : decode cX8_readOne 547 = .ok (.iastore, 1) := by decide +kernel
theorem dX8_readOne_548 : decode cX8_readOne 548 = .ok (.goto 10, 3) := by decide +kernel
theorem dX8_readOne_551 : decode cX8_readOne 551 = .ok (.aload_n 0, 1) := by decide +kernel
theorem dX8_readOne_552 : decode cX8_readOne 552 = .ok (.iload_n 3, 1) := by decide +kernel
theorem dX8_readOne_553 : decode cX8_readOne 553 = .ok (.iload_n 2, 1) := by decide +kernel
theorem dX8_readOne_554 : decode cX8_readOne 554 = .ok (.iload_n 1, 1) := by decide +kernel
theorem dX8_readOne_555 : decode cX8_readOne 555 = .ok (.invokevirtual 174, 3) := by decide +kernel
theorem dX8_readOne_558 : decode cX8_readOne 558 = .ok (.aload_n 0, 1) := by decide +kernel
theorem dX8_readOne_559 : decode cX8_readOne 559 = .ok (.iload 6, 2) := by decide +kernel
theorem dX8_readOne_561 : decode cX8_readOne 561 = .ok (.lload 4, 2) := by decide +kernel
theorem dX8_readOne_563 : decode cX8_readOne 563 = .ok (.l2i, 1) := by decide +kernel
theorem dX8_readOne_564 : decode cX8_readOne 564 = .ok (.iadd, 1) := by decide +kernel
theorem dX8_readOne_565 : decode cX8_readOne 565 = .ok (.putfield 144, 3) := by decide +kernel
theorem dX8_readOne_568 : decode cX8_readOne 568 = .ok (.iconst 1, 1) := by decide +kernel
theorem dX8_readOne_569 : decode cX8_readOne 569 = .ok (.ireturn, 1) := by decide +kernel
theorem dX8_readPlain_0 : decode cX8_readPlain 0 = .ok (.iload_n 1, 1) := by decide +kernel
theorem dX8_readPlain_1 : decode cX8_readPlain 1 = .ok (.iconst 2, 1) := by decide +kernel
theorem dX8_readPlain_2 : decode cX8_readPlain 2 = .ok (.if_icmp .ne 12, 3) := by decide +kernel
theorem dX8_readPlain_5 : decode cX8_readPlain 5 = .ok (.aload_n 0, 1) := by decide +kernel
theorem dX8_readPlain_6 : decode cX8_readPlain 6 = .ok (.iload_n 2, 1) := by decide +kernel
theorem dX8_readPlain_7 : decode cX8_readPlain 7 = .ok (.iload_n 3, 1) := by decide +kernel
theorem dX8_readPlain_8 : decode cX8_readPlain 8 = .ok (.invokevirtual 178, 3) := by decide +kernel
theorem dX8_readPlain_11 : decode cX8_readPlain 11 = .ok (.goto 18, 3) := by decide +kernel
theorem dX8_readPlain_14 : decode cX8_readPlain 14 = .ok (.aload_n 0, 1) := by decide +kernel
theorem dX8_readPlain_15 : decode cX8_readPlain 15 = .ok (.aload_n 0, 1) := by decide +kernel
theorem dX8_readPlain_16 : decode cX8_readPlain 16 = .ok (.getfield 8, 3) := by decide +kernel
theorem dX8_readPlain_19 : decode cX8_readPlain 19 = .ok (.iload_n 3, 1) := by decide +kernel
theorem dX8_readPlain_20 : decode cX8_readPlain 20 = .ok (.iconst 1, 1) := by decide +kernel
theorem dX8_readPlain_21 : decode cX8_readPlain 21 = .ok (.iadd, 1) := by decide +kernel
theorem dX8_readPlain_22 : decode cX8_readPlain 22 = .ok (.iload_n 2, 1) := by decide +kernel
theorem dX8_readPlain_23 : decode cX8_readPlain 23 = .ok (.invokestatic 81, 3) := by decide +kernel
theorem dX8_readPlain_26 : decode cX8_readPlain 26 = .ok (.invokevirtual 84, 3) := by decide +kernel
theorem dX8_readPlain_29 : decode cX8_readPlain 29 = .ok (.lstore 4, 2) := by decide +kernel
theorem dX8_readPlain_31 : decode cX8_readPlain 31 = .ok (.aload_n 0, 1) := by decide +kernel
theorem dX8_readPlain_32 : decode cX8_readPlain 32 = .ok (.aload_n 0, 1) := by decide +kernel
theorem dX8_readPlain_33 : decode cX8_readPlain 33 = .ok (.iload_n 1, 1) := by decide +kernel
theorem dX8_readPlain_34 : decode cX8_readPlain 34 = .ok (.iload_n 1, 1) := by decide +kernel
theorem dX8_readPlain_35 : decode cX8_readPlain 35 = .ok (.iconst 1, 1) := by decide +kernel
theorem dX8_readPlain_36 : decode cX8_readPlain 36 = .ok (.if_icmp .ne 7, 3) := by decide +kernel
theorem dX8_readPlain_39 : decode cX8_readPlain 39 = .ok (.lconst 0, 1) := by decide +kernel
theorem dX8_readPlain_40 : decode cX8_readPlain 40 = .ok (.goto 5, 3) := by decide +kernel
theorem dX8_readPlain_43 : decode cX8_readPlain 43 = .ok (.lload 4, 2) := by decide +kernel
theorem dX8_readPlain_45 : decode cX8_readPlain 45 = .ok (.invokevirtual 110, 3) := by decide +kernel
theorem dX8_readPlain_48 : decode cX8_readPlain 48 = .ok (.putfield 169, 3) := by decide +kernel
theorem dX8_readPlain_51 : decode cX8_readPlain 51 = .ok (.aload_n 0, 1) := by decide +kernel
theorem dX8_readPlain_52 : decode cX8_readPlain 52 = .ok (.getfield 29, 3) := by decide +kernel
theorem dX8_readPlain_55 : decode cX8_readPlain 55 = .ok (.aload_n 0, 1) := by decide +kernel
theorem dX8_readPlain_56 : decode cX8_readPlain 56 = .ok (.getfield 169, 3) := by decide +kernel
theorem dX8_readPlain_59 : decode cX8_readPlain 59 = .ok (.iload_n 2, 1) := by decide +kernel
theorem dX8_readPlain_60 : decode cX8_readPlain 60 = .ok (.sipush 195, 3) := by decide +kernel
theorem dX8_readPlain_63 : decode cX8_readPlain 63 = .ok (.if_icmp .ne 7, 3) := by decide +kernel
theorem dX8_readPlain_66 : decode cX8_readPlain 66 = .ok (.iconst 1, 1) := by decide +kernel
theorem dX8_readPlain_67 : decode cX8_readPlain 67 = .ok (.goto 4, 3) := by decide +kernel
theorem dX8_readPlain_70 : decode cX8_readPlain 70 = .ok (.iconst 0, 1) := by decide +kernel
theorem dX8_readPlain_71 : decode cX8_readPlain 71 = .ok (.iastore, 1) := by decide +kernel
theorem dX8_readPlain_72 : decode cX8_readPlain 72 = .ok (.aload_n 0, 1) := by decide +kernel
theorem dX8_readPlain_73 : decode cX8_readPlain 73 = .ok (.getfield 25, 3) := by decide +kernel
theorem dX8_readPlain_76 : decode cX8_readPlain 76 = .ok (.aload_n 0, 1) := by decide +kernel
theorem dX8_readPlain_77 : decode cX8_readPlain 77 = .ok (.getfield 169, 3) := by decide +kernel
theorem dX8_readPlain_80 : decode cX8_readPlain 80 = .ok (.iload_n 2, 1) := by decide +kernel
theorem dX8_readPlain_81 : decode cX8_readPlain 81 = .ok (.sipush 207, 3) := by decide +kernel
theorem dX8_readPlain_84 : decode cX8_readPlain 84 = .ok (.if_icmp .ne 14, 3) := by decide +kernel
theorem dX8_readPlain_87 : decode cX8_readPlain 87 = .ok (.lload 4, 2) := by decide +kernel
theorem dX8_readPlain_89 : decode cX8_readPlain 89 = .ok (.lconst 0, 1) := by decide +kernel
theorem dX8_readPlain_90 : decode cX8_readPlain 90 = .ok (.lcmp, 1) := by decide +kernel
theorem dX8_readPlain_91 : decode cX8_readPlain 91 = .ok (.ifCond .ge 7, 3) := by decide +kernel
theorem dX8_readPlain_94 : decode cX8_readPlain 94 = .ok (.iconst 1, 1) := by decide +kernel
theorem dX8_readPlain_95 : decode cX8_readPlain 95 = .ok (.goto 4, 3) := by decide +kernel
theorem dX8_readPlain_98 : decode cX8_readPlain 98 = .ok (.iconst 0, 1) := by decide +kernel
theorem dX8_readPlain_99 : decode cX8_readPlain 99 = .ok (.bastore, 1) := by decide +kernel
theorem dX8_readPlain_100 : decode cX8_readPlain 100 = .ok (.return_, 1) := by decide +kernel
theorem dX8_integerAt_0 : decode cX8_integerAt 0 = .ok (.iload_n 1, 1) := by decide +kernel
theorem dX8_integerAt_1 : decode cX8_integerAt 1 = .ok (.sipush 128, 3) := by decide +kernel
theorem dX8_integerAt_4 : decode cX8_integerAt 4 = .ok (.if_icmp .ge 6, 3) := by decide +kernel
theorem dX8_integerAt_7 : decode cX8_integerAt 7 = .ok (.iload_n 1, 1) := by decide +kernel
theorem dX8_integerAt_8 : decode cX8_integerAt 8 = .ok (.i2l, 1) := by decide +kernel
theorem dX8_integerAt_9 : decode cX8_integerAt 9 = .ok (.lreturn, 1) := by decide +kernel
theorem dX8_integerAt_10 : decode cX8_integerAt 10 = .ok (.iload_n 1, 1) := by decide +kernel
theorem dX8_integerAt_11 : decode cX8_integerAt 11 = .ok (.sipush 224, 3) := by decide +kernel
theorem dX8_integerAt_14 : decode cX8_integerAt 14 = .ok (.if_icmp .lt 10, 3) := by decide +kernel
theorem dX8_integerAt_17 : decode cX8_integerAt 17 = .ok (.iload_n 1, 1) := by decide +kernel
theorem dX8_integerAt_18 : decode cX8_integerAt 18 = .ok (.sipush 256, 3) := by decide +kernel
theorem dX8_integerAt_21 : decode cX8_integerAt 21 = .ok (.isub, 1) := by decide +kernel
theorem dX8_integerAt_22 : decode cX8_integerAt 22 = .ok (.i2l, 1) := by decide +kernel
theorem dX8_integerAt_23 : decode cX8_integerAt 23 = .ok (.lreturn, 1) := by decide +kernel
theorem dX8_integerAt_24 : decode cX8_integerAt 24 = .ok (.iload_n 1, 1) := by decide +kernel
theorem dX8_integerAt_25 : decode cX8_integerAt 25 = .ok (.invokestatic 81, 3) := by decide +kernel
theorem dX8_integerAt_28 : decode cX8_integerAt 28 = .ok (.istore_n 3, 1) := by decide +kernel
theorem dX8_integerAt_29 : decode cX8_integerAt 29 = .ok (.aload_n 0, 1) := by decide +kernel
theorem dX8_integerAt_30 : decode cX8_integerAt 30 = .ok (.aload_n 0, 1) := by decide +kernel
theorem dX8_integerAt_31 : decode cX8_integerAt 31 = .ok (.getfield 8, 3) := by decide +kernel
theorem dX8_integerAt_34 : decode cX8_integerAt 34 = .ok (.iload_n 2, 1) := by decide +kernel
theorem dX8_integerAt_35 : decode cX8_integerAt 35 = .ok (.iconst 1, 1) := by decide +kernel
theorem dX8_integerAt_36 : decode cX8_integerAt 36 = .ok (.iadd, 1) := by decide +kernel
theorem dX8_integerAt_37 : decode cX8_integerAt 37 = .ok (.iload_n 3, 1) := by decide +kernel
theorem dX8_integerAt_38 : decode cX8_integerAt 38 = .ok (.invokevirtual 84, 3) := by decide +kernel
theorem dX8_integerAt_41 : decode cX8_integerAt 41 = .ok (.lstore 4, 2) := by decide +kernel
theorem dX8_integerAt_43 : decode cX8_integerAt 43 = .ok (.iload_n 1, 1) := by decide +kernel
theorem dX8_integerAt_44 : decode cX8_integerAt 44 = .ok (.sipush 208, 3) := by decide +kernel
theorem dX8_integerAt_47 : decode cX8_integerAt 47 = .ok (.if_icmp .lt 35, 3) := by decide +kernel
theorem dX8_integerAt_50 : decode cX8_integerAt 50 = .ok (.iload_n 3, 1) := by decide +kernel
theorem dX8_integerAt_51 : decode cX8_integerAt 51 = .ok (.bipush 8, 2) := by decide +kernel
theorem dX8_integerAt_53 : decode cX8_integerAt 53 = .ok (.if_icmp .ge 29, 3) := by decide +kernel
theorem dX8_integerAt_56 : decode cX8_integerAt 56 = .ok (.lload 4, 2) := by decide +kernel
theorem dX8_integerAt_58 : decode cX8_integerAt 58 = .ok (.lconst 1, 1) := by decide +kernel
theorem dX8_integerAt_59 : decode cX8_integerAt 59 = .ok (.bipush 8, 2) := by decide +kernel
theorem dX8_integerAt_61 : decode cX8_integerAt 61 = .ok (.iload_n 3, 1) := by decide +kernel
theorem dX8_integerAt_62 : decode cX8_integerAt 62 = .ok (.imul, 1) := by decide +kernel
theorem dX8_integerAt_63 : decode cX8_integerAt 63 = .ok (.iconst 1, 1) := by decide +kernel
theorem dX8_integerAt_64 : decode cX8_integerAt 64 = .ok (.isub, 1) := by decide +kernel
theorem dX8_integerAt_65 : decode cX8_integerAt 65 = .ok (.lshl, 1) := by decide +kernel
theorem dX8_integerAt_66 : decode cX8_integerAt 66 = .ok (.lcmp, 1) := by decide +kernel
theorem dX8_integerAt_67 : decode cX8_integerAt 67 = .ok (.ifCond .lt 15, 3) := by decide +kernel
theorem dX8_integerAt_70 : decode cX8_integerAt 70 = .ok (.lload 4, 2) := by decide +kernel
theorem dX8_integerAt_72 : decode cX8_integerAt 72 = .ok (.lconst 1, 1) := by decide +kernel
theorem dX8_integerAt_73 : decode cX8_integerAt 73 = .ok (.bipush 8, 2) := by decide +kernel
theorem dX8_integerAt_75 : decode cX8_integerAt 75 = .ok (.iload_n 3, 1) := by decide +kernel
theorem dX8_integerAt_76 : decode cX8_integerAt 76 = .ok (.imul, 1) := by decide +kernel
theorem dX8_integerAt_77 : decode cX8_integerAt 77 = .ok (.lshl, 1) := by decide +kernel
theorem dX8_integerAt_78 : decode cX8_integerAt 78 = .ok (.lsub, 1) := by decide +kernel
theorem dX8_integerAt_79 : decode cX8_integerAt 79 = .ok (.goto 5, 3) := by decide +kernel
theorem dX8_integerAt_82 : decode cX8_integerAt 82 = .ok (.lload 4, 2) := by decide +kernel
theorem dX8_integerAt_84 : decode cX8_integerAt 84 = .ok (.lreturn, 1) := by decide +kernel
theorem dX8_refer_0 : decode cX8_refer 0 = .ok (.iload_n 2, 1) := by decide +kernel
theorem dX8_refer_1 : decode cX8_refer 1 = .ok (.ifCond .le 16, 3) := by decide +kernel
theorem dX8_refer_4 : decode cX8_refer 4 = .ok (.aload_n 0, 1) := by decide +kernel
theorem dX8_refer_5 : decode cX8_refer 5 = .ok (.getfield 8, 3) := by decide +kernel
theorem dX8_refer_8 : decode cX8_refer 8 = .ok (.iload_n 1, 1) := by decide +kernel
theorem dX8_refer_9 : decode cX8_refer 9 = .ok (.baload, 1) := by decide +kernel
theorem dX8_refer_10 : decode cX8_refer 10 = .ok (.sipush 255, 3) := by decide +kernel
theorem dX8_refer_13 : decode cX8_refer 13 = .ok (.iand, 1) := by decide +kernel
theorem dX8_refer_14 : decode cX8_refer 14 = .ok (.goto 4, 3) := by decide +kernel
theorem dX8_refer_17 : decode cX8_refer 17 = .ok (.iconst 0, 1) := by decide +kernel
theorem dX8_refer_18 : decode cX8_refer 18 = .ok (.istore 4, 2) := by decide +kernel
theorem dX8_refer_20 : decode cX8_refer 20 = .ok (.iload_n 2, 1) := by decide +kernel
theorem dX8_refer_21 : decode cX8_refer 21 = .ok (.ifCond .le 27, 3) := by decide +kernel
theorem dX8_refer_24 : decode cX8_refer 24 = .ok (.iload 4, 2) := by decide +kernel
theorem dX8_refer_26 : decode cX8_refer 26 = .ok (.invokestatic 77, 3) := by decide +kernel
theorem dX8_refer_29 : decode cX8_refer 29 = .ok (.iconst 2, 1) := by decide +kernel
theorem dX8_refer_30 : decode cX8_refer 30 = .ok (.if_icmp .ne 18, 3) := by decide +kernel
theorem dX8_refer_33 : decode cX8_refer 33 = .ok (.iload_n 2, 1) := by decide +kernel
theorem dX8_refer_34 : decode cX8_refer 34 = .ok (.iconst 1, 1) := by decide +kernel
theorem dX8_refer_35 : decode cX8_refer 35 = .ok (.iload 4, 2) := by decide +kernel
theorem dX8_refer_37 : decode cX8_refer 37 = .ok (.invokestatic 81, 3) := by decide +kernel
theorem dX8_refer_40 : decode cX8_refer 40 = .ok (.iadd, 1) := by decide +kernel
theorem dX8_refer_41 : decode cX8_refer 41 = .ok (.if_icmp .ne 7, 3) := by decide +kernel
theorem dX8_refer_44 : decode cX8_refer 44 = .ok (.iconst 1, 1) := by decide +kernel
theorem dX8_refer_45 : decode cX8_refer 45 = .ok (.goto 4, 3) := by decide +kernel
theorem dX8_refer_48 : decode cX8_refer 48 = .ok (.iconst 0, 1) := by decide +kernel
theorem dX8_refer_49 : decode cX8_refer 49 = .ok (.istore 5, 2) := by decide +kernel
theorem dX8_refer_51 : decode cX8_refer 51 = .ok (.iload 5, 2) := by decide +kernel
theorem dX8_refer_53 : decode cX8_refer 53 = .ok (.ifCond .eq 13, 3) := by decide +kernel
theorem dX8_refer_56 : decode cX8_refer 56 = .ok (.aload_n 0, 1) := by decide +kernel
theorem dX8_refer_57 : decode cX8_refer 57 = .ok (.iload 4, 2) := by decide +kernel
theorem dX8_refer_59 : decode cX8_refer 59 = .ok (.iload_n 1, 1) := by decide +kernel
theorem dX8_refer_60 : decode cX8_refer 60 = .ok (.invokevirtual 178, 3) := by decide +kernel
theorem dX8_refer_63 : decode cX8_refer 63 = .ok (.goto 6, 3) := by decide +kernel
theorem dX8_refer_66 : decode cX8_refer 66 = .ok (.ldc2_w 181, 3) := by decide +kernel
theorem dX8_refer_69 : decode cX8_refer 69 = .ok (.lstore 6, 2) := by decide +kernel
theorem dX8_refer_71 : decode cX8_refer 71 = .ok (.lload 6, 2) := by decide +kernel
theorem dX8_refer_73 : decode cX8_refer 73 = .ok (.lconst 0, 1) := by decide +kernel
theorem dX8_refer_74 : decode cX8_refer 74 = .ok (.lcmp, 1) := by decide +kernel
theorem dX8_refer_75 : decode cX8_refer 75 = .ok (.ifCond .lt 14, 3) := by decide +kernel
theorem dX8_refer_78 : decode cX8_refer 78 = .ok (.lload 6, 2) := by decide +kernel
theorem dX8_refer_80 : decode cX8_refer 80 = .ok (.aload_n 0, 1) := by decide +kernel
theorem dX8_refer_81 : decode cX8_refer 81 = .ok (.getfield 183, 3) := by decide +kernel
theorem dX8_refer_84 : decode cX8_refer 84 = .ok (.i2l, 1) := by decide +kernel
theorem dX8_refer_85 : decode cX8_refer 85 = .ok (.lcmp, 1) := by decide +kernel
theorem dX8_refer_86 : decode cX8_refer 86 = .ok (.ifCond .lt 10, 3) := by decide +kernel
theorem dX8_refer_89 : decode cX8_refer 89 = .ok (.aload_n 0, 1) := by decide +kernel
theorem dX8_refer_90 : decode cX8_refer 90 = .ok (.iconst 5, 1) := by decide +kernel
theorem dX8_refer_91 : decode cX8_refer 91 = .ok (.iload_n 3, 1) := by decide +kernel
theorem dX8_refer_92 : decode cX8_refer 92 = .ok (.invokevirtual 147, 3) := by decide +kernel
theorem dX8_refer_95 : decode cX8_refer 95 = .ok (.ireturn, 1) := by decide +kernel
theorem dX8_refer_96 : decode cX8_refer 96 = .ok (.aload_n 0, 1) := by decide +kernel
theorem dX8_refer_97 : decode cX8_refer 97 = .ok (.aload_n 0, 1) := by decide +kernel
theorem dX8_refer_98 : decode cX8_refer 98 = .ok (.getfield 68, 3) := by decide +kernel
theorem dX8_refer_101 : decode cX8_refer 101 = .ok (.lload 6, 2) := by decide +kernel
theorem dX8_refer_103 : decode cX8_refer 103 = .ok (.l2i, 1) := by decide +kernel
theorem dX8_refer_104 : decode cX8_refer 104 = .ok (.iaload, 1) := by decide +kernel
theorem dX8_refer_105 : decode cX8_refer 105 = .ok (.putfield 169, 3) := by decide +kernel
theorem dX8_refer_108 : decode cX8_refer 108 = .ok (.iconst 1, 1) := by decide +kernel
theorem dX8_refer_109 : decode cX8_refer 109 = .ok (.ireturn, 1) := by decide +kernel
theorem dX8_readGroup_0 : decode cX8_readGroup 0 = .ok (.aload_n 0, 1) := by decide +kernel
theorem dX8_readGroup_1 : decode cX8_readGroup 1 = .ok (.getfield 186, 3) := by decide +kernel
theorem dX8_readGroup_4 : decode cX8_readGroup 4 = .ok (.bipush 24, 2) := by decide +kernel
theorem dX8_readGroup_6 : decode cX8_readGroup 6 = .ok (.if_icmp .ne 12, 3) := by decide +kernel
theorem dX8_readGroup_9 : decode cX8_readGroup 9 = .ok (.aload_n 0, 1) := by decide +kernel
theorem dX8_readGroup_10 : decode cX8_readGroup 10 = .ok (.bipush 6, 2) := by decide +kernel
theorem dX8_readGroup_12 : decode cX8_readGroup 12 = .ok (.iload 4, 2) := by decide +kernel
theorem dX8_readGroup_14 : decode cX8_readGroup 14 = .ok (.invokevirtual 147, 3) := by decide +kernel
theorem dX8_readGroup_17 : decode cX8_readGroup 17 = .ok (.ireturn, 1) := by decide +kernel
theorem dX8_readGroup_18 : decode cX8_readGroup 18 = .ok (.iload_n 1, 1) := by decide +kernel
theorem dX8_readGroup_19 : decode cX8_readGroup 19 = .ok (.bipush 8, 2) := by decide +kernel
theorem dX8_readGroup_21 : decode cX8_readGroup 21 = .ok (.if_icmp .ne 11, 3) := by decide +kernel
theorem dX8_readGroup_24 : decode cX8_readGroup 24 = .ok (.ldc2_w 98, 3) := by decide +kernel
theorem dX8_readGroup_27 : decode cX8_readGroup 27 = .ok (.lload_n 2, 1) := by decide +kernel
theorem dX8_readGroup_28 : decode cX8_readGroup 28 = .ok (.lmul, 1) := by decide +kernel
theorem dX8_readGroup_29 : decode cX8_readGroup 29 = .ok (.goto 4, 3) := by decide +kernel
theorem dX8_readGroup_32 : decode cX8_readGroup 32 = .ok (.lload_n 2, 1) := by decide +kernel
theorem dX8_readGroup_33 : decode cX8_readGroup 33 = .ok (.lstore 5, 2) := by decide +kernel
theorem dX8_readGroup_35 : decode cX8_readGroup 35 = .ok (.aload_n 0, 1) := by decide +kernel
theorem dX8_readGroup_36 : decode cX8_readGroup 36 = .ok (.getfield 107, 3) := by decide +kernel
theorem dX8_readGroup_39 : decode cX8_readGroup 39 = .ok (.sipush 3000, 3) := by decide +kernel
theorem dX8_readGroup_42 : decode cX8_readGroup 42 = .ok (.if_icmp .eq 17, 3) := by decide +kernel
theorem dX8_readGroup_45 : decode cX8_readGroup 45 = .ok (.aload_n 0, 1) := by decide +kernel
theorem dX8_readGroup_46 : decode cX8_readGroup 46 = .ok (.getfield 189, 3) := by decide +kernel
theorem dX8_readGroup_49 : decode cX8_readGroup 49 = .ok (.lload 5, 2) := by decide +kernel
theorem dX8_readGroup_51 : decode cX8_readGroup 51 = .ok (.ladd, 1) := by decide +kernel
theorem dX8_readGroup_52 : decode cX8_readGroup 52 = .ok (.ldc2_w 193, 3) := by decide +kernel
theorem dX8_readGroup_55 : decode cX8_readGroup 55 = .ok (.lcmp, 1) := by decide +kernel
theorem dX8_readGroup_56 : decode cX8_readGroup 56 = .ok (.ifCond .le 12, 3) := by decide +kernel
theorem dX8_readGroup_59 : decode cX8_readGroup 59 = .ok (.aload_n 0, 1) := by decide +kernel
theorem dX8_readGroup_60 : decode cX8_readGroup 60 = .ok (.bipush 7, 2) := by decide +kernel
theorem dX8_readGroup_62 : decode cX8_readGroup 62 = .ok (.iload 4, 2) := by decide +kernel
theorem dX8_readGroup_64 : decode cX8_readGroup 64 = .ok (.invokevirtual 147, 3) := by decide +kernel
theorem dX8_readGroup_67 : decode cX8_readGroup 67 = .ok (.ireturn, 1) := by decide +kernel
theorem dX8_readGroup_68 : decode cX8_readGroup 68 = .ok (.aload_n 0, 1) := by decide +kernel
theorem dX8_readGroup_69 : decode cX8_readGroup 69 = .ok (.aload_n 0, 1) := by decide +kernel
theorem dX8_readGroup_70 : decode cX8_readGroup 70 = .ok (.getfield 189, 3) := by decide +kernel
theorem dX8_readGroup_73 : decode cX8_readGroup 73 = .ok (.lload 5, 2) := by decide +kernel
theorem dX8_readGroup_75 : decode cX8_readGroup 75 = .ok (.ladd, 1) := by decide +kernel
theorem dX8_readGroup_76 : decode cX8_readGroup 76 = .ok (.putfield 189, 3) := by decide +kernel
theorem dX8_readGroup_79 : decode cX8_readGroup 79 = .ok (.aload_n 0, 1) := by decide +kernel
theorem dX8_readGroup_80 : decode cX8_readGroup 80 = .ok (.aload_n 0, 1) := by decide +kernel
theorem dX8_readGroup_81 : decode cX8_readGroup 81 = .ok (.iload_n 1, 1) := by decide +kernel
theorem dX8_readGroup_82 : decode cX8_readGroup 82 = .ok (.lconst 0, 1) := by decide +kernel
theorem dX8_readGroup_83 : decode cX8_readGroup 83 = .ok (.invokevirtual 110, 3) := by decide +kernel
theorem dX8_readGroup_86 : decode cX8_readGroup 86 = .ok (.putfield 169, 3) := by decide +kernel
theorem dX8_readGroup_89 : decode cX8_readGroup 89 = .ok (.aload_n 0, 1) := by decide +kernel
theorem dX8_readGroup_90 : decode cX8_readGroup 90 = .ok (.getfield 38, 3) := by decide +kernel
theorem dX8_readGroup_93 : decode cX8_readGroup 93 = .ok (.aload_n 0, 1) := by decide +kernel
theorem dX8_readGroup_94 : decode cX8_readGroup 94 = .ok (.getfield 169, 3) := by decide +kernel
theorem dX8_readGroup_97 : decode cX8_readGroup 97 = .ok (.lload_n 2, 1) := by decide +kernel
theorem dX8_readGroup_98 : decode cX8_readGroup 98 = .ok (.l2i, 1) := by decide +kernel
theorem dX8_readGroup_99 : decode cX8_readGroup 99 = .ok (.iastore, 1) := by decide +kernel
theorem dX8_readGroup_100 : decode cX8_readGroup 100 = .ok (.aload_n 0, 1) := by decide +kernel
theorem dX8_readGroup_101 : decode cX8_readGroup 101 = .ok (.getfield 68, 3) := by decide +kernel
theorem dX8_readGroup_104 : decode cX8_readGroup 104 = .ok (.aload_n 0, 1) := by decide +kernel
theorem dX8_readGroup_105 : decode cX8_readGroup 105 = .ok (.getfield 183, 3) := by decide +kernel
theorem dX8_readGroup_108 : decode cX8_readGroup 108 = .ok (.aload_n 0, 1) := by decide +kernel
theorem dX8_readGroup_109 : decode cX8_readGroup 109 = .ok (.getfield 169, 3) := by decide +kernel
theorem dX8_readGroup_112 : decode cX8_readGroup 112 = .ok (.iastore, 1) := by decide +kernel
theorem dX8_readGroup_113 : decode cX8_readGroup 113 = .ok (.aload_n 0, 1) := by decide +kernel
theorem dX8_readGroup_114 : decode cX8_readGroup 114 = .ok (.dup, 1) := by decide +kernel
theorem dX8_readGroup_115 : decode cX8_readGroup 115 = .ok (.getfield 183, 3) := by decide +kernel
theorem dX8_readGroup_118 : decode cX8_readGroup 118 = .ok (.iconst 1, 1) := by decide +kernel
theorem dX8_readGroup_119 : decode cX8_readGroup 119 = .ok (.iadd, 1) := by decide +kernel
theorem dX8_readGroup_120 : decode cX8_readGroup 120 = .ok (.putfield 183, 3) := by decide +kernel
theorem dX8_readGroup_123 : decode cX8_readGroup 123 = .ok (.aload_n 0, 1) := by decide +kernel
theorem dX8_readGroup_124 : decode cX8_readGroup 124 = .ok (.getfield 62, 3) := by decide +kernel
theorem dX8_readGroup_127 : decode cX8_readGroup 127 = .ok (.aload_n 0, 1) := by decide +kernel
theorem dX8_readGroup_128 : decode cX8_readGroup 128 = .ok (.getfield 186, 3) := by decide +kernel
theorem dX8_readGroup_131 : decode cX8_readGroup 131 = .ok (.aload_n 0, 1) := by decide +kernel
theorem dX8_readGroup_132 : decode cX8_readGroup 132 = .ok (.getfield 169, 3) := by decide +kernel
theorem dX8_readGroup_135 : decode cX8_readGroup 135 = .ok (.iastore, 1) := by decide +kernel
theorem dX8_readGroup_136 : decode cX8_readGroup 136 = .ok (.aload_n 0, 1) := by decide +kernel
theorem dX8_readGroup_137 : decode cX8_readGroup 137 = .ok (.getfield 65, 3) := by decide +kernel
theorem dX8_readGroup_140 : decode cX8_readGroup 140 = .ok (.aload_n 0, 1) := by decide +kernel
theorem dX8_readGroup_141 : decode cX8_readGroup 141 = .ok (.getfield 186, 3) := by decide +kernel
theorem dX8_readGroup_144 : decode cX8_readGroup 144 = .ok (.lload 5, 2) := by decide +kernel
theorem dX8_readGroup_146 : decode cX8_readGroup 146 = .ok (.lastore, 1) := by decide +kernel
theorem dX8_readGroup_147 : decode cX8_readGroup 147 = .ok (.aload_n 0, 1) := by decide +kernel
theorem dX8_readGroup_148 : decode cX8_readGroup 148 = .ok (.dup, 1) := by decide +kernel
theorem dX8_readGroup_149 : decode cX8_readGroup 149 = .ok (.getfield 186, 3) := by decide +kernel
theorem dX8_readGroup_152 : decode cX8_readGroup 152 = .ok (.iconst 1, 1) := by decide +kernel
theorem dX8_readGroup_153 : decode cX8_readGroup 153 = .ok (.iadd, 1) := by decide +kernel
theorem dX8_readGroup_154 : decode cX8_readGroup 154 = .ok (.putfield 186, 3) := by decide +kernel
theorem dX8_readGroup_157 : decode cX8_readGroup 157 = .ok (.aload_n 0, 1) := by decide +kernel
theorem dX8_readGroup_158 : decode cX8_readGroup 158 = .ok (.iload 4, 2) := by decide +kernel
theorem dX8_readGroup_160 : decode cX8_readGroup 160 = .ok (.aload_n 0, 1) := by decide +kernel
theorem dX8_readGroup_161 : decode cX8_readGroup 161 = .ok (.getfield 8, 3) := by decide +kernel
theorem dX8_readGroup_164 : decode cX8_readGroup 164 = .ok (.iload 4, 2) := by decide +kernel
theorem dX8_readGroup_166 : decode cX8_readGroup 166 = .ok (.baload, 1) := by decide +kernel
theorem dX8_readGroup_167 : decode cX8_readGroup 167 = .ok (.sipush 255, 3) := by decide +kernel
theorem dX8_readGroup_170 : decode cX8_readGroup 170 = .ok (.iand, 1) := by decide +kernel
theorem dX8_readGroup_171 : decode cX8_readGroup 171 = .ok (.invokestatic 91, 3) := by decide +kernel
theorem dX8_readGroup_174 : decode cX8_readGroup 174 = .ok (.iadd, 1) := by decide +kernel
theorem dX8_readGroup_175 : decode cX8_readGroup 175 = .ok (.putfield 144, 3) := by decide +kernel
theorem dX8_readGroup_178 : decode cX8_readGroup 178 = .ok (.iconst 1, 1) := by decide +kernel
theorem dX8_readGroup_179 : decode cX8_readGroup 179 = .ok (.ireturn, 1) := by decide +kernel
theorem dX8_readAll_0 : decode cX8_readAll 0 = .ok (.aload_n 0, 1) := by decide +kernel
theorem dX8_readAll_1 : decode cX8_readAll 1 = .ok (.iconst 0, 1) := by decide +kernel
theorem dX8_readAll_2 : decode cX8_readAll 2 = .ok (.putfield 186, 3) := by decide +kernel
theorem dX8_readAll_5 : decode cX8_readAll 5 = .ok (.aload_n 0, 1) := by decide +kernel
theorem dX8_readAll_6 : decode cX8_readAll 6 = .ok (.iconst 0, 1) := by decide +kernel
theorem dX8_readAll_7 : decode cX8_readAll 7 = .ok (.putfield 144, 3) := by decide +kernel
theorem dX8_readAll_10 : decode cX8_readAll 10 = .ok (.aload_n 0, 1) := by decide +kernel
theorem dX8_readAll_11 : decode cX8_readAll 11 = .ok (.iconst 0, 1) := by decide +kernel
theorem dX8_readAll_12 : decode cX8_readAll 12 = .ok (.putfield 183, 3) := by decide +kernel
theorem dX8_readAll_15 : decode cX8_readAll 15 = .ok (.aload_n 0, 1) := by decide +kernel
theorem dX8_readAll_16 : decode cX8_readAll 16 = .ok (.aload_n 0, 1) := by decide +kernel
theorem dX8_readAll_17 : decode cX8_readAll 17 = .ok (.getfield 117, 3) := by decide +kernel
theorem dX8_readAll_20 : decode cX8_readAll 20 = .ok (.i2l, 1) := by decide +kernel
theorem dX8_readAll_21 : decode cX8_readAll 21 = .ok (.putfield 189, 3) := by decide +kernel
theorem dX8_readAll_24 : decode cX8_readAll 24 = .ok (.iconst 1, 1) := by decide +kernel
theorem dX8_readAll_25 : decode cX8_readAll 25 = .ok (.istore_n 1, 1) := by decide +kernel
theorem dX8_readAll_26 : decode cX8_readAll 26 = .ok (.iload_n 1, 1) := by decide +kernel
theorem dX8_readAll_27 : decode cX8_readAll 27 = .ok (.ifCond .eq 117, 3) := by decide +kernel
theorem dX8_readAll_30 : decode cX8_readAll 30 = .ok (.aload_n 0, 1) := by decide +kernel
theorem dX8_readAll_31 : decode cX8_readAll 31 = .ok (.getfield 186, 3) := by decide +kernel
theorem dX8_readAll_34 : decode cX8_readAll 34 = .ok (.istore_n 2, 1) := by decide +kernel
theorem dX8_readAll_35 : decode cX8_readAll 35 = .ok (.aload_n 0, 1) := by decide +kernel
theorem dX8_readAll_36 : decode cX8_readAll 36 = .ok (.getfield 186, 3) := by decide +kernel
theorem dX8_readAll_39 : decode cX8_readAll 39 = .ok (.ifCond .le 17, 3) := by decide +kernel
theorem dX8_readAll_42 : decode cX8_readAll 42 = .ok (.aload_n 0, 1) := by decide +kernel
theorem dX8_readAll_43 : decode cX8_readAll 43 = .ok (.getfield 62, 3) := by decide +kernel
theorem dX8_readAll_46 : decode cX8_readAll 46 = .ok (.aload_n 0, 1) := by decide +kernel
theorem dX8_readAll_47 : decode cX8_readAll 47 = .ok (.getfield 186, 3) := by decide +kernel
theorem dX8_readAll_50 : decode cX8_readAll 50 = .ok (.iconst 1, 1) := by decide +kernel
theorem dX8_readAll_51 : decode cX8_readAll 51 = .ok (.isub, 1) := by decide +kernel
theorem dX8_readAll_52 : decode cX8_readAll 52 = .ok (.iaload, 1) := by decide +kernel
theorem dX8_readAll_53 : decode cX8_readAll 53 = .ok (.goto 4, 3) := by decide +kernel
theorem dX8_readAll_56 : decode cX8_readAll 56 = .ok (.iconst (-1), 1) := by decide +kernel
theorem dX8_readAll_57 : decode cX8_readAll 57 = .ok (.istore_n 3, 1) := by decide +kernel
theorem dX8_readAll_58 : decode cX8_readAll 58 = .ok (.aload_n 0, 1) := by decide +kernel
theorem dX8_readAll_59 : decode cX8_readAll 59 = .ok (.invokevirtual 195, 3) := by decide +kernel
theorem dX8_readAll_62 : decode cX8_readAll 62 = .ok (.ifCond .ne 5, 3) := by decide +kernel
theorem dX8_readAll_65 : decode cX8_readAll 65 = .ok (.iconst 0, 1) := by decide +kernel
theorem dX8_readAll_66 : decode cX8_readAll 66 = .ok (.ireturn, 1) := by decide +kernel
theorem dX8_readAll_67 : decode cX8_readAll 67 = .ok (.iload_n 3, 1) := by decide +kernel
theorem dX8_readAll_68 : decode cX8_readAll 68 = .ok (.ifCond .lt 24, 3) := by decide +kernel
theorem dX8_readAll_71 : decode cX8_readAll 71 = .ok (.aload_n 0, 1) := by decide +kernel
theorem dX8_readAll_72 : decode cX8_readAll 72 = .ok (.iload_n 3, 1) := by decide +kernel
theorem dX8_readAll_73 : decode cX8_readAll 73 = .ok (.aload_n 0, 1) := by decide +kernel
theorem dX8_readAll_74 : decode cX8_readAll 74 = .ok (.getfield 169, 3) := by decide +kernel
theorem dX8_readAll_77 : decode cX8_readAll 77 = .ok (.invokevirtual 134, 3) := by decide +kernel
theorem dX8_readAll_80 : decode cX8_readAll 80 = .ok (.aload_n 0, 1) := by decide +kernel
theorem dX8_readAll_81 : decode cX8_readAll 81 = .ok (.getfield 65, 3) := by decide +kernel
theorem dX8_readAll_84 : decode cX8_readAll 84 = .ok (.iload_n 2, 1) := by decide +kernel
theorem dX8_readAll_85 : decode cX8_readAll 85 = .ok (.iconst 1, 1) := by decide +kernel
theorem dX8_readAll_86 : decode cX8_readAll 86 = .ok (.isub, 1) := by decide +kernel
theorem dX8_readAll_87 : decode cX8_readAll 87 = .ok (.dup2, 1) := by decide +kernel
theorem dX8_readAll_88 : decode cX8_readAll 88 = .ok (.laload, 1) := by decide +kernel
theorem dX8_readAll_89 : decode cX8_readAll 89 = .ok (.lconst 1, 1) := by decide +kernel
theorem dX8_readAll_90 : decode cX8_readAll 90 = .ok (.lsub, 1) := by decide +kernel
theorem dX8_readAll_91 : decode cX8_readAll 91 = .ok (.lastore, 1) := by decide +kernel
theorem dX8_readAll_92 : decode cX8_readAll 92 = .ok (.aload_n 0, 1) := by decide +kernel
theorem dX8_readAll_93 : decode cX8_readAll 93 = .ok (.getfield 186, 3) := by decide +kernel
theorem dX8_readAll_96 : decode cX8_readAll 96 = .ok (.ifCond .le 32, 3) := by decide +kernel
theorem dX8_readAll_99 : decode cX8_readAll 99 = .ok (.aload_n 0, 1) := by decide +kernel
theorem dX8_readAll_100 : decode cX8_readAll 100 = .ok (.getfield 65, 3) := by decide +kernel
theorem dX8_readAll_103 : decode cX8_readAll 103 = .ok (.aload_n 0, 1) := by decide +kernel
theorem dX8_readAll_104 : decode cX8_readAll 104 = .ok (.getfield 186, 3) := by decide +kernel
theorem dX8_readAll_107 : decode cX8_readAll 107 = .ok (.iconst 1, 1) := by decide +kernel
theorem dX8_readAll_108 : decode cX8_readAll 108 = .ok (.isub, 1) := by decide +kernel
theorem dX8_readAll_109 : decode cX8_readAll 109 = .ok (.laload, 1) := by decide +kernel
theorem dX8_readAll_110 : decode cX8_readAll 110 = .ok (.lconst 0, 1) := by decide +kernel
theorem dX8_readAll_111 : decode cX8_readAll 111 = .ok (.lcmp, 1) := by decide +kernel
theorem dX8_readAll_112 : decode cX8_readAll 112 = .ok (.ifCond .ne 16, 3) := by decide +kernel
theorem dX8_readAll_115 : decode cX8_readAll 115 = .ok (.aload_n 0, 1) := by decide +kernel
theorem dX8_readAll_116 : decode cX8_readAll 116 = .ok (.dup, 1) := by decide +kernel
theorem dX8_readAll_117 : decode cX8_readAll 117 = .ok (.getfield 186, 3) := by decide +kernel
theorem dX8_readAll_120 : decode cX8_readAll 120 = .ok (.iconst 1, 1) := by decide +kernel
theorem dX8_readAll_121 : decode cX8_readAll 121 = .ok (.isub, 1) := by decide +kernel
theorem dX8_readAll_122 : decode cX8_readAll 122 = .ok (.putfield 186, 3) := by decide +kernel
theorem dX8_readAll_125 : decode cX8_readAll 125 = .ok (.goto (-33), 3) := by decide +kernel
theorem dX8_readAll_128 : decode cX8_readAll 128 = .ok (.aload_n 0, 1) := by decide +kernel
theorem dX8_readAll_129 : decode cX8_readAll 129 = .ok (.getfield 186, 3) := by decide +kernel
theorem dX8_readAll_132 : decode cX8_readAll 132 = .ok (.ifCond .le 7, 3) := by decide +kernel
theorem dX8_readAll_135 : decode cX8_readAll 135 = .ok (.iconst 1, 1) := by decide +kernel
theorem dX8_readAll_136 : decode cX8_readAll 136 = .ok (.goto 4, 3) := by decide +kernel
theorem dX8_readAll_139 : decode cX8_readAll 139 = .ok (.iconst 0, 1) := by decide +kernel
theorem dX8_readAll_140 : decode cX8_readAll 140 = .ok (.istore_n 1, 1) := by decide +kernel
theorem dX8_readAll_141 : decode cX8_readAll 141 = .ok (.goto (-115), 3) := by decide +kernel
theorem dX8_readAll_144 : decode cX8_readAll 144 = .ok (.aload_n 0, 1) := by decide +kernel
theorem dX8_readAll_145 : decode cX8_readAll 145 = .ok (.getfield 144, 3) := by decide +kernel
theorem dX8_readAll_148 : decode cX8_readAll 148 = .ok (.aload_n 0, 1) := by decide +kernel
theorem dX8_readAll_149 : decode cX8_readAll 149 = .ok (.getfield 88, 3) := by decide +kernel
theorem dX8_readAll_152 : decode cX8_readAll 152 = .ok (.if_icmp .eq 16, 3) := by decide +kernel
theorem dX8_readAll_155 : decode cX8_readAll 155 = .ok (.aload_n 0, 1) := by decide +kernel
theorem dX8_readAll_156 : decode cX8_readAll 156 = .ok (.bipush 8, 2) := by decide +kernel
theorem dX8_readAll_158 : decode cX8_readAll 158 = .ok (.aload_n 0, 1) := by decide +kernel
theorem dX8_readAll_159 : decode cX8_readAll 159 = .ok (.getfield 144, 3) := by decide +kernel
theorem dX8_readAll_162 : decode cX8_readAll 162 = .ok (.invokevirtual 147, 3) := by decide +kernel
theorem dX8_readAll_165 : decode cX8_readAll 165 = .ok (.ifCond .eq 7, 3) := by decide +kernel
theorem dX8_readAll_168 : decode cX8_readAll 168 = .ok (.iconst 1, 1) := by decide +kernel
theorem dX8_readAll_169 : decode cX8_readAll 169 = .ok (.goto 4, 3) := by decide +kernel
theorem dX8_readAll_172 : decode cX8_readAll 172 = .ok (.iconst 0, 1) := by decide +kernel
theorem dX8_readAll_173 : decode cX8_readAll 173 = .ok (.ireturn, 1) := by decide +kernel
theorem dX8_unpack_0 : decode cX8_unpack 0 = .ok (.aload_n 0, 1) := by decide +kernel
theorem dX8_unpack_1 : decode cX8_unpack 1 = .ok (.iconst 0, 1) := by decide +kernel
theorem dX8_unpack_2 : decode cX8_unpack 2 = .ok (.putfield 71, 3) := by decide +kernel
theorem dX8_unpack_5 : decode cX8_unpack 5 = .ok (.aload_n 0, 1) := by decide +kernel
theorem dX8_unpack_6 : decode cX8_unpack 6 = .ok (.getfield 107, 3) := by decide +kernel
theorem dX8_unpack_9 : decode cX8_unpack 9 = .ok (.istore_n 1, 1) := by decide +kernel
theorem dX8_unpack_10 : decode cX8_unpack 10 = .ok (.aload_n 0, 1) := by decide +kernel
theorem dX8_unpack_11 : decode cX8_unpack 11 = .ok (.getfield 117, 3) := by decide +kernel
theorem dX8_unpack_14 : decode cX8_unpack 14 = .ok (.istore_n 2, 1) := by decide +kernel
theorem dX8_unpack_15 : decode cX8_unpack 15 = .ok (.aload_n 0, 1) := by decide +kernel
theorem dX8_unpack_16 : decode cX8_unpack 16 = .ok (.getfield 114, 3) := by decide +kernel
theorem dX8_unpack_19 : decode cX8_unpack 19 = .ok (.istore_n 3, 1) := by decide +kernel
theorem dX8_unpack_20 : decode cX8_unpack 20 = .ok (.aload_n 0, 1) := by decide +kernel
theorem dX8_unpack_21 : decode cX8_unpack 21 = .ok (.iconst 0, 1) := by decide +kernel
theorem dX8_unpack_22 : decode cX8_unpack 22 = .ok (.putfield 138, 3) := by decide +kernel
theorem dX8_unpack_25 : decode cX8_unpack 25 = .ok (.aload_n 0, 1) := by decide +kernel
theorem dX8_unpack_26 : decode cX8_unpack 26 = .ok (.iconst 0, 1) := by decide +kernel
theorem dX8_unpack_27 : decode cX8_unpack 27 = .ok (.putfield 141, 3) := by decide +kernel
theorem dX8_unpack_30 : decode cX8_unpack 30 = .ok (.aload_n 0, 1) := by decide +kernel
theorem dX8_unpack_31 : decode cX8_unpack 31 = .ok (.invokevirtual 199, 3) := by decide +kernel
theorem dX8_unpack_34 : decode cX8_unpack 34 = .ok (.istore 4, 2) := by decide +kernel
theorem dX8_unpack_36 : decode cX8_unpack 36 = .ok (.aload_n 0, 1) := by decide +kernel
theorem dX8_unpack_37 : decode cX8_unpack 37 = .ok (.iconst 0, 1) := by decide +kernel
theorem dX8_unpack_38 : decode cX8_unpack 38 = .ok (.putfield 88, 3) := by decide +kernel
theorem dX8_unpack_41 : decode cX8_unpack 41 = .ok (.iload 4, 2) := by decide +kernel
theorem dX8_unpack_43 : decode cX8_unpack 43 = .ok (.ifCond .ne 20, 3) := by decide +kernel
theorem dX8_unpack_46 : decode cX8_unpack 46 = .ok (.aload_n 0, 1) := by decide +kernel
theorem dX8_unpack_47 : decode cX8_unpack 47 = .ok (.iload_n 1, 1) := by decide +kernel
theorem dX8_unpack_48 : decode cX8_unpack 48 = .ok (.putfield 107, 3) := by decide +kernel
theorem dX8_unpack_51 : decode cX8_unpack 51 = .ok (.aload_n 0, 1) := by decide +kernel
theorem dX8_unpack_52 : decode cX8_unpack 52 = .ok (.iload_n 2, 1) := by decide +kernel
theorem dX8_unpack_53 : decode cX8_unpack 53 = .ok (.putfield 117, 3) := by decide +kernel
theorem dX8_unpack_56 : decode cX8_unpack 56 = .ok (.aload_n 0, 1) := by decide +kernel
theorem dX8_unpack_57 : decode cX8_unpack 57 = .ok (.iload_n 3, 1) := by decide +kernel
theorem dX8_unpack_58 : decode cX8_unpack 58 = .ok (.putfield 114, 3) := by decide +kernel
theorem dX8_unpack_61 : decode cX8_unpack 61 = .ok (.iconst (-1), 1) := by decide +kernel
theorem dX8_unpack_62 : decode cX8_unpack 62 = .ok (.ireturn, 1) := by decide +kernel
theorem dX8_unpack_63 : decode cX8_unpack 63 = .ok (.iload_n 1, 1) := by decide +kernel
theorem dX8_unpack_64 : decode cX8_unpack 64 = .ok (.ireturn, 1) := by decide +kernel
theorem dX8_fault_0 : decode cX8_fault 0 = .ok (.aload_n 0, 1) := by decide +kernel
theorem dX8_fault_1 : decode cX8_fault 1 = .ok (.iload_n 1, 1) := by decide +kernel
theorem dX8_fault_2 : decode cX8_fault 2 = .ok (.ifCond .eq 8, 3) := by decide +kernel
theorem dX8_fault_5 : decode cX8_fault 5 = .ok (.iload_n 1, 1) := by decide +kernel
theorem dX8_fault_6 : decode cX8_fault 6 = .ok (.iconst 1, 1) := by decide +kernel
theorem dX8_fault_7 : decode cX8_fault 7 = .ok (.if_icmp .ne 7, 3) := by decide +kernel
theorem dX8_fault_10 : decode cX8_fault 10 = .ok (.iconst 0, 1) := by decide +kernel
theorem dX8_fault_11 : decode cX8_fault 11 = .ok (.goto 4, 3) := by decide +kernel
theorem dX8_fault_14 : decode cX8_fault 14 = .ok (.iconst 1, 1) := by decide +kernel
theorem dX8_fault_15 : decode cX8_fault 15 = .ok (.putfield 71, 3) := by decide +kernel
theorem dX8_fault_18 : decode cX8_fault 18 = .ok (.aload_n 0, 1) := by decide +kernel
theorem dX8_fault_19 : decode cX8_fault 19 = .ok (.getfield 71, 3) := by decide +kernel
theorem dX8_fault_22 : decode cX8_fault 22 = .ok (.ifCond .le 7, 3) := by decide +kernel
theorem dX8_fault_25 : decode cX8_fault 25 = .ok (.iconst 0, 1) := by decide +kernel
theorem dX8_fault_26 : decode cX8_fault 26 = .ok (.goto 18, 3) := by decide +kernel
theorem dX8_fault_29 : decode cX8_fault 29 = .ok (.iload_n 1, 1) := by decide +kernel
theorem dX8_fault_30 : decode cX8_fault 30 = .ok (.ifCond .ne 10, 3) := by decide +kernel
theorem dX8_fault_33 : decode cX8_fault 33 = .ok (.aload_n 0, 1) := by decide +kernel
theorem dX8_fault_34 : decode cX8_fault 34 = .ok (.getfield 138, 3) := by decide +kernel
theorem dX8_fault_37 : decode cX8_fault 37 = .ok (.goto 7, 3) := by decide +kernel
theorem dX8_fault_40 : decode cX8_fault 40 = .ok (.aload_n 0, 1) := by decide +kernel
theorem dX8_fault_41 : decode cX8_fault 41 = .ok (.getfield 141, 3) := by decide +kernel
theorem dX8_fault_44 : decode cX8_fault 44 = .ok (.ireturn, 1) := by decide +kernel
theorem dX8_byteTo_0 : decode cX8_byteTo 0 = .ok (.aload_n 0, 1) := by decide +kernel
theorem dX8_byteTo_1 : decode cX8_byteTo 1 = .ok (.getfield 202, 3) := by decide +kernel
theorem dX8_byteTo_4 : decode cX8_byteTo 4 = .ok (.ldc 7, 2) := by decide +kernel
theorem dX8_byteTo_6 : decode cX8_byteTo 6 = .ok (.if_icmp .ne 11, 3) := by decide +kernel
theorem dX8_byteTo_9 : decode cX8_byteTo 9 = .ok (.aload_n 0, 1) := by decide +kernel
theorem dX8_byteTo_10 : decode cX8_byteTo 10 = .ok (.iconst 1, 1) := by decide +kernel
theorem dX8_byteTo_11 : decode cX8_byteTo 11 = .ok (.putfield 205, 3) := by decide +kernel
theorem dX8_byteTo_14 : decode cX8_byteTo 14 = .ok (.goto 21, 3) := by decide +kernel
theorem dX8_byteTo_17 : decode cX8_byteTo 17 = .ok (.aload_n 1, 1) := by decide +kernel
theorem dX8_byteTo_18 : decode cX8_byteTo 18 = .ok (.aload_n 0, 1) := by decide +kernel
theorem dX8_byteTo_19 : decode cX8_byteTo 19 = .ok (.getfield 202, 3) := by decide +kernel
theorem dX8_byteTo_22 : decode cX8_byteTo 22 = .ok (.iload_n 2, 1) := by decide +kernel
theorem dX8_byteTo_23 : decode cX8_byteTo 23 = .ok (.i2b, 1) := by decide +kernel
theorem dX8_byteTo_24 : decode cX8_byteTo 24 = .ok (.bastore, 1) := by decide +kernel
theorem dX8_byteTo_25 : decode cX8_byteTo 25 = .ok (.aload_n 0, 1) := by decide +kernel
theorem dX8_byteTo_26 : decode cX8_byteTo 26 = .ok (.dup, 1) := by decide +kernel
theorem dX8_byteTo_27 : decode cX8_byteTo 27 = .ok (.getfield 202, 3) := by decide +kernel
theorem dX8_byteTo_30 : decode cX8_byteTo 30 = .ok (.iconst 1, 1) := by decide +kernel
theorem dX8_byteTo_31 : decode cX8_byteTo 31 = .ok (.iadd, 1) := by decide +kernel
theorem dX8_byteTo_32 : decode cX8_byteTo 32 = .ok (.putfield 202, 3) := by decide +kernel
theorem dX8_byteTo_35 : decode cX8_byteTo 35 = .ok (.return_, 1) := by decide +kernel
theorem dX8_numberTo_0 : decode cX8_numberTo 0 = .ok (.iload 4, 2) := by decide +kernel
theorem dX8_numberTo_2 : decode cX8_numberTo 2 = .ok (.iconst 1, 1) := by decide +kernel
theorem dX8_numberTo_3 : decode cX8_numberTo 3 = .ok (.isub, 1) := by decide +kernel
theorem dX8_numberTo_4 : decode cX8_numberTo 4 = .ok (.istore 5, 2) := by decide +kernel
theorem dX8_numberTo_6 : decode cX8_numberTo 6 = .ok (.iload 5, 2) := by decide +kernel
theorem dX8_numberTo_8 : decode cX8_numberTo 8 = .ok (.ifCond .lt 22, 3) := by decide +kernel
theorem dX8_numberTo_11 : decode cX8_numberTo 11 = .ok (.aload_n 0, 1) := by decide +kernel
theorem dX8_numberTo_12 : decode cX8_numberTo 12 = .ok (.aload_n 1, 1) := by decide +kernel
theorem dX8_numberTo_13 : decode cX8_numberTo 13 = .ok (.lload_n 2, 1) := by decide +kernel
theorem dX8_numberTo_14 : decode cX8_numberTo 14 = .ok (.bipush 8, 2) := by decide +kernel
theorem dX8_numberTo_16 : decode cX8_numberTo 16 = .ok (.iload 5, 2) := by decide +kernel
theorem dX8_numberTo_18 : decode cX8_numberTo 18 = .ok (.imul, 1) := by decide +kernel
theorem dX8_numberTo_19 : decode cX8_numberTo 19 = .ok (.lshr, 1) := by decide +kernel
theorem dX8_numberTo_20 : decode cX8_numberTo 20 = .ok (.l2i, 1) := by decide +kernel
theorem dX8_numberTo_21 : decode cX8_numberTo 21 = .ok (.invokevirtual 209, 3) := by decide +kernel
theorem dX8_numberTo_24 : decode cX8_numberTo 24 = .ok (.iinc 5 (-1), 3) := by decide +kernel
theorem dX8_numberTo_27 : decode cX8_numberTo 27 = .ok (.goto (-21), 3) := by decide +kernel
theorem dX8_numberTo_30 : decode cX8_numberTo 30 = .ok (.return_, 1) := by decide +kernel
theorem dX8_countTo_0 : decode cX8_countTo 0 = .ok (.iload_n 2, 1) := by decide +kernel
theorem dX8_countTo_1 : decode cX8_countTo 1 = .ok (.iload_n 3, 1) := by decide +kernel
theorem dX8_countTo_2 : decode cX8_countTo 2 = .ok (.if_icmp .ge 15, 3) := by decide +kernel
theorem dX8_countTo_5 : decode cX8_countTo 5 = .ok (.aload_n 0, 1) := by decide +kernel
theorem dX8_countTo_6 : decode cX8_countTo 6 = .ok (.aload_n 1, 1) := by decide +kernel
theorem dX8_countTo_7 : decode cX8_countTo 7 = .ok (.iload 4, 2) := by decide +kernel
theorem dX8_countTo_9 : decode cX8_countTo 9 = .ok (.iload_n 2, 1) := by decide +kernel
theorem dX8_countTo_10 : decode cX8_countTo 10 = .ok (.iadd, 1) := by decide +kernel
theorem dX8_countTo_11 : decode cX8_countTo 11 = .ok (.invokevirtual 209, 3) := by decide +kernel
theorem dX8_countTo_14 : decode cX8_countTo 14 = .ok (.goto 72, 3) := by decide +kernel
theorem dX8_countTo_17 : decode cX8_countTo 17 = .ok (.iload_n 2, 1) := by decide +kernel
theorem dX8_countTo_18 : decode cX8_countTo 18 = .ok (.sipush 256, 3) := by decide +kernel
theorem dX8_countTo_21 : decode cX8_countTo 21 = .ok (.if_icmp .ge 26, 3) := by decide +kernel
theorem dX8_countTo_24 : decode cX8_countTo 24 = .ok (.iload 5, 2) := by decide +kernel
theorem dX8_countTo_26 : decode cX8_countTo 26 = .ok (.ifCond .le 21, 3) := by decide +kernel
theorem dX8_countTo_29 : decode cX8_countTo 29 = .ok (.aload_n 0, 1) := by decide +kernel
theorem dX8_countTo_30 : decode cX8_countTo 30 = .ok (.aload_n 1, 1) := by decide +kernel
theorem dX8_countTo_31 : decode cX8_countTo 31 = .ok (.iload 5, 2) := by decide +kernel
theorem dX8_countTo_33 : decode cX8_countTo 33 = .ok (.invokevirtual 209, 3) := by decide +kernel
theorem dX8_countTo_36 : decode cX8_countTo 36 = .ok (.aload_n 0, 1) := by decide +kernel
theorem dX8_countTo_37 : decode cX8_countTo 37 = .ok (.aload_n 1, 1) := by decide +kernel
theorem dX8_countTo_38 : decode cX8_countTo 38 = .ok (.iload_n 2, 1) := by decide +kernel
theorem dX8_countTo_39 : decode cX8_countTo 39 = .ok (.i2l, 1) := by decide +kernel
theorem dX8_countTo_40 : decode cX8_countTo 40 = .ok (.iconst 1, 1) := by decide +kernel
theorem dX8_countTo_41 : decode cX8_countTo 41 = .ok (.invokevirtual 213, 3) := by decide +kernel
theorem dX8_countTo_44 : decode cX8_countTo 44 = .ok (.goto 42, 3) := by decide +kernel
theorem dX8_countTo_47 : decode cX8_countTo 47 = .ok (.iload_n 2, 1) := by decide +kernel
theorem dX8_countTo_48 : decode cX8_countTo 48 = .ok (.ldc 7, 2) := by decide +kernel
theorem dX8_countTo_50 : decode cX8_countTo 50 = .ok (.if_icmp .ge 21, 3) := by decide +kernel
theorem dX8_countTo_53 : decode cX8_countTo 53 = .ok (.aload_n 0, 1) := by decide +kernel
theorem dX8_countTo_54 : decode cX8_countTo 54 = .ok (.aload_n 1, 1) := by decide +kernel
theorem dX8_countTo_55 : decode cX8_countTo 55 = .ok (.iload 6, 2) := by decide +kernel
theorem dX8_countTo_57 : decode cX8_countTo 57 = .ok (.invokevirtual 209, 3) := by decide +kernel
theorem dX8_countTo_60 : decode cX8_countTo 60 = .ok (.aload_n 0, 1) := by decide +kernel
theorem dX8_countTo_61 : decode cX8_countTo 61 = .ok (.aload_n 1, 1) := by decide +kernel
theorem dX8_countTo_62 : decode cX8_countTo 62 = .ok (.iload_n 2, 1) := by decide +kernel
theorem dX8_countTo_63 : decode cX8_countTo 63 = .ok (.i2l, 1) := by decide +kernel
theorem dX8_countTo_64 : decode cX8_countTo 64 = .ok (.iconst 2, 1) := by decide +kernel
theorem dX8_countTo_65 : decode cX8_countTo 65 = .ok (.invokevirtual 213, 3) := by decide +kernel
theorem dX8_countTo_68 : decode cX8_countTo 68 = .ok (.goto 18, 3) := by decide +kernel
theorem dX8_countTo_71 : decode cX8_countTo 71 = .ok (.aload_n 0, 1) := by decide +kernel
theorem dX8_countTo_72 : decode cX8_countTo 72 = .ok (.aload_n 1, 1) := by decide +kernel
theorem dX8_countTo_73 : decode cX8_countTo 73 = .ok (.iload 7, 2) := by decide +kernel
theorem dX8_countTo_75 : decode cX8_countTo 75 = .ok (.invokevirtual 209, 3) := by decide +kernel
theorem dX8_countTo_78 : decode cX8_countTo 78 = .ok (.aload_n 0, 1) := by decide +kernel
theorem dX8_countTo_79 : decode cX8_countTo 79 = .ok (.aload_n 1, 1) := by decide +kernel
theorem dX8_countTo_80 : decode cX8_countTo 80 = .ok (.iload_n 2, 1) := by decide +kernel
theorem dX8_countTo_81 : decode cX8_countTo 81 = .ok (.i2l, 1) := by decide +kernel
theorem dX8_countTo_82 : decode cX8_countTo 82 = .ok (.iconst 4, 1) := by decide +kernel
theorem dX8_countTo_83 : decode cX8_countTo 83 = .ok (.invokevirtual 213, 3) := by decide +kernel
theorem dX8_countTo_86 : decode cX8_countTo 86 = .ok (.return_, 1) := by decide +kernel
theorem dX8_integerSize_0 : decode cX8_integerSize 0 = .ok (.iload_n 2, 1) := by decide +kernel
theorem dX8_integerSize_1 : decode cX8_integerSize 1 = .ok (.ifCond .eq 6, 3) := by decide +kernel
theorem dX8_integerSize_4 : decode cX8_integerSize 4 = .ok (.bipush 9, 2) := by decide +kernel
theorem dX8_integerSize_6 : decode cX8_integerSize 6 = .ok (.ireturn, 1) := by decide +kernel
theorem dX8_integerSize_7 : decode cX8_integerSize 7 = .ok (.lload_n 0, 1) := by decide +kernel
theorem dX8_integerSize_8 : decode cX8_integerSize 8 = .ok (.ldc2_w 217, 3) := by decide +kernel
theorem dX8_integerSize_11 : decode cX8_integerSize 11 = .ok (.lcmp, 1) := by decide +kernel
theorem dX8_integerSize_12 : decode cX8_integerSize 12 = .ok (.ifCond .lt 13, 3) := by decide +kernel
theorem dX8_integerSize_15 : decode cX8_integerSize 15 = .ok (.lload_n 0, 1) := by decide +kernel
theorem dX8_integerSize_16 : decode cX8_integerSize 16 = .ok (.ldc2_w 219, 3) := by decide +kernel
theorem dX8_integerSize_19 : decode cX8_integerSize 19 = .ok (.lcmp, 1) := by decide +kernel
theorem dX8_integerSize_20 : decode cX8_integerSize 20 = .ok (.ifCond .ge 5, 3) := by decide +kernel
theorem dX8_integerSize_23 : decode cX8_integerSize 23 = .ok (.iconst 1, 1) := by decide +kernel
theorem dX8_integerSize_24 : decode cX8_integerSize 24 = .ok (.ireturn, 1) := by decide +kernel
theorem dX8_integerSize_25 : decode cX8_integerSize 25 = .ok (.iconst 1, 1) := by decide +kernel
theorem dX8_integerSize_26 : decode cX8_integerSize 26 = .ok (.istore_n 3, 1) := by decide +kernel
theorem dX8_integerSize_27 : decode cX8_integerSize 27 = .ok (.iload_n 3, 1) := by decide +kernel
theorem dX8_integerSize_28 : decode cX8_integerSize 28 = .ok (.bipush 8, 2) := by decide +kernel
theorem dX8_integerSize_30 : decode cX8_integerSize 30 = .ok (.if_icmp .ge 65, 3) := by decide +kernel
theorem dX8_integerSize_33 : decode cX8_integerSize 33 = .ok (.lload_n 0, 1) := by decide +kernel
theorem dX8_integerSize_34 : decode cX8_integerSize 34 = .ok (.lconst 0, 1) := by decide +kernel
theorem dX8_integerSize_35 : decode cX8_integerSize 35 = .ok (.lcmp, 1) := by decide +kernel
theorem dX8_integerSize_36 : decode cX8_integerSize 36 = .ok (.ifCond .lt 22, 3) := by decide +kernel
theorem dX8_integerSize_39 : decode cX8_integerSize 39 = .ok (.lload_n 0, 1) := by decide +kernel
theorem dX8_integerSize_40 : decode cX8_integerSize 40 = .ok (.lconst 1, 1) := by decide +kernel
theorem dX8_integerSize_41 : decode cX8_integerSize 41 = .ok (.bipush 8, 2) := by decide +kernel
theorem dX8_integerSize_43 : decode cX8_integerSize 43 = .ok (.iload_n 3, 1) := by decide +kernel
theorem dX8_integerSize_44 : decode cX8_integerSize 44 = .ok (.imul, 1) := by decide +kernel
theorem dX8_integerSize_45 : decode cX8_integerSize 45 = .ok (.lshl, 1) := by decide +kernel
theorem dX8_integerSize_46 : decode cX8_integerSize 46 = .ok (.lcmp, 1) := by decide +kernel
theorem dX8_integerSize_47 : decode cX8_integerSize 47 = .ok (.ifCond .ge 7, 3) := by decide +kernel
theorem dX8_integerSize_50 : decode cX8_integerSize 50 = .ok (.iconst 1, 1) := by decide +kernel
theorem dX8_integerSize_51 : decode cX8_integerSize 51 = .ok (.goto 26, 3) := by decide +kernel
theorem dX8_integerSize_54 : decode cX8_integerSize 54 = .ok (.iconst 0, 1) := by decide +kernel
theorem dX8_integerSize_55 : decode cX8_integerSize 55 = .ok (.goto 22, 3) := by decide +kernel
theorem dX8_integerSize_58 : decode cX8_integerSize 58 = .ok (.lload_n 0, 1) := by decide +kernel
theorem dX8_integerSize_59 : decode cX8_integerSize 59 = .ok (.lconst 1, 1) := by decide +kernel
theorem dX8_integerSize_60 : decode cX8_integerSize 60 = .ok (.bipush 8, 2) := by decide +kernel
theorem dX8_integerSize_62 : decode cX8_integerSize 62 = .ok (.iload_n 3, 1) := by decide +kernel
theorem dX8_integerSize_63 : decode cX8_integerSize 63 = .ok (.imul, 1) := by decide +kernel
theorem dX8_integerSize_64 : decode cX8_integerSize 64 = .ok (.iconst 1, 1) := by decide +kernel
theorem dX8_integerSize_65 : decode cX8_integerSize 65 = .ok (.isub, 1) := by decide +kernel
theorem dX8_integerSize_66 : decode cX8_integerSize 66 = .ok (.lshl, 1) := by decide +kernel
theorem dX8_integerSize_67 : decode cX8_integerSize 67 = .ok (.lneg, 1) := by decide +kernel
theorem dX8_integerSize_68 : decode cX8_integerSize 68 = .ok (.lcmp, 1) := by decide +kernel
theorem dX8_integerSize_69 : decode cX8_integerSize 69 = .ok (.ifCond .lt 7, 3) := by decide +kernel
theorem dX8_integerSize_72 : decode cX8_integerSize 72 = .ok (.iconst 1, 1) := by decide +kernel
theorem dX8_integerSize_73 : decode cX8_integerSize 73 = .ok (.goto 4, 3) := by decide +kernel
theorem dX8_integerSize_76 : decode cX8_integerSize 76 = .ok (.iconst 0, 1) := by decide +kernel
theorem dX8_integerSize_77 : decode cX8_integerSize 77 = .ok (.istore 4, 2) := by decide +kernel
theorem dX8_integerSize_79 : decode cX8_integerSize 79 = .ok (.iload 4, 2) := by decide +kernel
theorem dX8_integerSize_81 : decode cX8_integerSize 81 = .ok (.ifCond .eq 7, 3) := by decide +kernel
theorem dX8_integerSize_84 : decode cX8_integerSize 84 = .ok (.iconst 1, 1) := by decide +kernel
theorem dX8_integerSize_85 : decode cX8_integerSize 85 = .ok (.iload_n 3, 1) := by decide +kernel
theorem dX8_integerSize_86 : decode cX8_integerSize 86 = .ok (.iadd, 1) := by decide +kernel
theorem dX8_integerSize_87 : decode cX8_integerSize 87 = .ok (.ireturn, 1) := by decide +kernel
theorem dX8_integerSize_88 : decode cX8_integerSize 88 = .ok (.iconst 2, 1) := by decide +kernel
theorem dX8_integerSize_89 : decode cX8_integerSize 89 = .ok (.iload_n 3, 1) := by decide +kernel
theorem dX8_integerSize_90 : decode cX8_integerSize 90 = .ok (.imul, 1) := by decide +kernel
theorem dX8_integerSize_91 : decode cX8_integerSize 91 = .ok (.istore_n 3, 1) := by decide +kernel
theorem dX8_integerSize_92 : decode cX8_integerSize 92 = .ok (.goto (-65), 3) := by decide +kernel
theorem dX8_integerSize_95 : decode cX8_integerSize 95 = .ok (.bipush 9, 2) := by decide +kernel
theorem dX8_integerSize_97 : decode cX8_integerSize 97 = .ok (.ireturn, 1) := by decide +kernel
theorem dX8_integerTo_0 : decode cX8_integerTo 0 = .ok (.lload_n 2, 1) := by decide +kernel
theorem dX8_integerTo_1 : decode cX8_integerTo 1 = .ok (.iload 4, 2) := by decide +kernel
theorem dX8_integerTo_3 : decode cX8_integerTo 3 = .ok (.invokestatic 221, 3) := by decide +kernel
theorem dX8_integerTo_6 : decode cX8_integerTo 6 = .ok (.istore 5, 2) := by decide +kernel
theorem dX8_integerTo_8 : decode cX8_integerTo 8 = .ok (.iload 5, 2) := by decide +kernel
theorem dX8_integerTo_10 : decode cX8_integerTo 10 = .ok (.iconst 1, 1) := by decide +kernel
theorem dX8_integerTo_11 : decode cX8_integerTo 11 = .ok (.if_icmp .ne 11, 3) := by decide +kernel
theorem dX8_integerTo_14 : decode cX8_integerTo 14 = .ok (.aload_n 0, 1) := by decide +kernel
theorem dX8_integerTo_15 : decode cX8_integerTo 15 = .ok (.aload_n 1, 1) := by decide +kernel
theorem dX8_integerTo_16 : decode cX8_integerTo 16 = .ok (.lload_n 2, 1) := by decide +kernel
theorem dX8_integerTo_17 : decode cX8_integerTo 17 = .ok (.l2i, 1) := by decide +kernel
theorem dX8_integerTo_18 : decode cX8_integerTo 18 = .ok (.invokevirtual 209, 3) := by decide +kernel
theorem dX8_integerTo_21 : decode cX8_integerTo 21 = .ok (.return_, 1) := by decide +kernel
theorem dX8_integerTo_22 : decode cX8_integerTo 22 = .ok (.iload 5, 2) := by decide +kernel
theorem dX8_integerTo_24 : decode cX8_integerTo 24 = .ok (.iconst 2, 1) := by decide +kernel
theorem dX8_integerTo_25 : decode cX8_integerTo 25 = .ok (.if_icmp .ne 7, 3) := by decide +kernel
theorem dX8_integerTo_28 : decode cX8_integerTo 28 = .ok (.iconst 0, 1) := by decide +kernel
theorem dX8_integerTo_29 : decode cX8_integerTo 29 = .ok (.goto 24, 3) := by decide +kernel
theorem dX8_integerTo_32 : decode cX8_integerTo 32 = .ok (.iload 5, 2) := by decide +kernel
theorem dX8_integerTo_34 : decode cX8_integerTo 34 = .ok (.iconst 3, 1) := by decide +kernel
theorem dX8_integerTo_35 : decode cX8_integerTo 35 = .ok (.if_icmp .ne 7, 3) := by decide +kernel
theorem dX8_integerTo_38 : decode cX8_integerTo 38 = .ok (.iconst 1, 1) := by decide +kernel
theorem dX8_integerTo_39 : decode cX8_integerTo 39 = .ok (.goto 14, 3) := by decide +kernel
theorem dX8_integerTo_42 : decode cX8_integerTo 42 = .ok (.iload 5, 2) := by decide +kernel
theorem dX8_integerTo_44 : decode cX8_integerTo 44 = .ok (.iconst 5, 1) := by decide +kernel
theorem dX8_integerTo_45 : decode cX8_integerTo 45 = .ok (.if_icmp .ne 7, 3) := by decide +kernel
theorem dX8_integerTo_48 : decode cX8_integerTo 48 = .ok (.iconst 2, 1) := by decide +kernel
theorem dX8_integerTo_49 : decode cX8_integerTo 49 = .ok (.goto 4, 3) := by decide +kernel
theorem dX8_integerTo_52 : decode cX8_integerTo 52 = .ok (.iconst 3, 1) := by decide +kernel
theorem dX8_integerTo_53 : decode cX8_integerTo 53 = .ok (.istore 6, 2) := by decide +kernel
theorem dX8_integerTo_55 : decode cX8_integerTo 55 = .ok (.aload_n 0, 1) := by decide +kernel
theorem dX8_integerTo_56 : decode cX8_integerTo 56 = .ok (.aload_n 1, 1) := by decide +kernel
theorem dX8_integerTo_57 : decode cX8_integerTo 57 = .ok (.lload_n 2, 1) := by decide +kernel
theorem dX8_integerTo_58 : decode cX8_integerTo 58 = .ok (.lconst 0, 1) := by decide +kernel
theorem dX8_integerTo_59 : decode cX8_integerTo 59 = .ok (.lcmp, 1) := by decide +kernel
theorem dX8_integerTo_60 : decode cX8_integerTo 60 = .ok (.ifCond .ge 8, 3) := by decide +kernel
theorem dX8_integerTo_63 : decode cX8_integerTo 63 = .ok (.iload 4, 2) := by decide +kernel
theorem dX8_integerTo_65 : decode cX8_integerTo 65 = .ok (.ifCond .eq 9, 3) := by decide +kernel
theorem dX8_integerTo_68 : decode cX8_integerTo 68 = .ok (.sipush 204, 3) := by decide +kernel
theorem dX8_integerTo_71 : decode cX8_integerTo 71 = .ok (.goto 6, 3) := by decide +kernel
theorem dX8_integerTo_74 : decode cX8_integerTo 74 = .ok (.sipush 208, 3) := by decide +kernel
theorem dX8_integerTo_77 : decode cX8_integerTo 77 = .ok (.iload 6, 2) := by decide +kernel
theorem dX8_integerTo_79 : decode cX8_integerTo 79 = .ok (.iadd, 1) := by decide +kernel
theorem dX8_integerTo_80 : decode cX8_integerTo 80 = .ok (.invokevirtual 209, 3) := by decide +kernel
theorem dX8_integerTo_83 : decode cX8_integerTo 83 = .ok (.aload_n 0, 1) := by decide +kernel
theorem dX8_integerTo_84 : decode cX8_integerTo 84 = .ok (.aload_n 1, 1) := by decide +kernel
theorem dX8_integerTo_85 : decode cX8_integerTo 85 = .ok (.lload_n 2, 1) := by decide +kernel
theorem dX8_integerTo_86 : decode cX8_integerTo 86 = .ok (.iload 5, 2) := by decide +kernel
theorem dX8_integerTo_88 : decode cX8_integerTo 88 = .ok (.iconst 1, 1) := by decide +kernel
theorem dX8_integerTo_89 : decode cX8_integerTo 89 = .ok (.isub, 1) := by decide +kernel
theorem dX8_integerTo_90 : decode cX8_integerTo 90 = .ok (.invokevirtual 213, 3) := by decide +kernel
theorem dX8_integerTo_93 : decode cX8_integerTo 93 = .ok (.return_, 1) := by decide +kernel
theorem dX8_extensionTo_0 : decode cX8_extensionTo 0 = .ok (.iload_n 2, 1) := by decide +kernel
theorem dX8_extensionTo_1 : decode cX8_extensionTo 1 = .ok (.iconst 1, 1) := by decide +kernel
theorem dX8_extensionTo_2 : decode cX8_extensionTo 2 = .ok (.if_icmp .eq 25, 3) := by decide +kernel
theorem dX8_extensionTo_5 : decode cX8_extensionTo 5 = .ok (.iload_n 2, 1) := by decide +kernel
theorem dX8_extensionTo_6 : decode cX8_extensionTo 6 = .ok (.iconst 2, 1) := by decide +kernel
theorem dX8_extensionTo_7 : decode cX8_extensionTo 7 = .ok (.if_icmp .eq 20, 3) := by decide +kernel
theorem dX8_extensionTo_10 : decode cX8_extensionTo 10 = .ok (.iload_n 2, 1) := by decide +kernel
theorem dX8_extensionTo_11 : decode cX8_extensionTo 11 = .ok (.iconst 4, 1) := by decide +kernel
theorem dX8_extensionTo_12 : decode cX8_extensionTo 12 = .ok (.if_icmp .eq 15, 3) := by decide +kernel
theorem dX8_extensionTo_15 : decode cX8_extensionTo 15 = .ok (.iload_n 2, 1) := by decide +kernel
theorem dX8_extensionTo_16 : decode cX8_extensionTo 16 = .ok (.bipush 8, 2) := by decide +kernel
theorem dX8_extensionTo_18 : decode cX8_extensionTo 18 = .ok (.if_icmp .eq 9, 3) := by decide +kernel
theorem dX8_extensionTo_21 : decode cX8_extensionTo 21 = .ok (.iload_n 2, 1) := by decide +kernel
theorem dX8_extensionTo_22 : decode cX8_extensionTo 22 = .ok (.bipush 16, 2) := by decide +kernel
theorem dX8_extensionTo_24 : decode cX8_extensionTo 24 = .ok (.if_icmp .ne 7, 3) := by decide +kernel
theorem dX8_extensionTo_27 : decode cX8_extensionTo 27 = .ok (.iconst 1, 1) := by decide +kernel
theorem dX8_extensionTo_28 : decode cX8_extensionTo 28 = .ok (.goto 4, 3) := by decide +kernel
theorem dX8_extensionTo_31 : decode cX8_extensionTo 31 = .ok (.iconst 0, 1) := by decide +kernel
theorem dX8_extensionTo_32 : decode cX8_extensionTo 32 = .ok (.istore 4, 2) := by decide +kernel
theorem dX8_extensionTo_34 : decode cX8_extensionTo 34 = .ok (.iload 4, 2) := by decide +kernel
theorem dX8_extensionTo_36 : decode cX8_extensionTo 36 = .ok (.ifCond .eq 59, 3) := by decide +kernel
theorem dX8_extensionTo_39 : decode cX8_extensionTo 39 = .ok (.aload_n 0, 1) := by decide +kernel
theorem dX8_extensionTo_40 : decode cX8_extensionTo 40 = .ok (.aload_n 1, 1) := by decide +kernel
theorem dX8_extensionTo_41 : decode cX8_extensionTo 41 = .ok (.iload_n 2, 1) := by decide +kernel
theorem dX8_extensionTo_42 : decode cX8_extensionTo 42 = .ok (.iconst 1, 1) := by decide +kernel
theorem dX8_extensionTo_43 : decode cX8_extensionTo 43 = .ok (.if_icmp .ne 9, 3) := by decide +kernel
theorem dX8_extensionTo_46 : decode cX8_extensionTo 46 = .ok (.sipush 212, 3) := by decide +kernel
theorem dX8_extensionTo_49 : decode cX8_extensionTo 49 = .ok (.goto 40, 3) := by decide +kernel
theorem dX8_extensionTo_52 : decode cX8_extensionTo 52 = .ok (.iload_n 2, 1) := by decide +kernel
theorem dX8_extensionTo_53 : decode cX8_extensionTo 53 = .ok (.iconst 2, 1) := by decide +kernel
theorem dX8_extensionTo_54 : decode cX8_extensionTo 54 = .ok (.if_icmp .ne 9, 3) := by decide +kernel
theorem dX8_extensionTo_57 : decode cX8_extensionTo 57 = .ok (.sipush 213, 3) := by decide +kernel
theorem dX8_extensionTo_60 : decode cX8_extensionTo 60 = .ok (.goto 29, 3) := by decide +kernel
theorem dX8_extensionTo_63 : decode cX8_extensionTo 63 = .ok (.iload_n 2, 1) := by decide +kernel
theorem dX8_extensionTo_64 : decode cX8_extensionTo 64 = .ok (.iconst 4, 1) := by decide +kernel
theorem dX8_extensionTo_65 : decode cX8_extensionTo 65 = .ok (.if_icmp .ne 9, 3) := by decide +kernel
theorem dX8_extensionTo_68 : decode cX8_extensionTo 68 = .ok (.sipush 214, 3) := by decide +kernel
theorem dX8_extensionTo_71 : decode cX8_extensionTo 71 = .ok (.goto 18, 3) := by decide +kernel
theorem dX8_extensionTo_74 : decode cX8_extensionTo 74 = .ok (.iload_n 2, 1) := by decide +kernel
theorem dX8_extensionTo_75 : decode cX8_extensionTo 75 = .ok (.bipush 8, 2) := by decide +kernel
theorem dX8_extensionTo_77 : decode cX8_extensionTo 77 = .ok (.if_icmp .ne 9, 3) := by decide +kernel
theorem dX8_extensionTo_80 : decode cX8_extensionTo 80 = .ok (.sipush 215, 3) := by decide +kernel
theorem dX8_extensionTo_83 : decode cX8_extensionTo 83 = .ok (.goto 6, 3) := by decide +kernel
theorem dX8_extensionTo_86 : decode cX8_extensionTo 86 = .ok (.sipush 216, 3) := by decide +kernel
theorem dX8_extensionTo_89 : decode cX8_extensionTo 89 = .ok (.invokevirtual 209, 3) := by decide +kernel
theorem dX8_extensionTo_92 : decode cX8_extensionTo 92 = .ok (.goto 20, 3) := by decide +kernel
theorem dX8_extensionTo_95 : decode cX8_extensionTo 95 = .ok (.aload_n 0, 1) := by decide +kernel
theorem dX8_extensionTo_96 : decode cX8_extensionTo 96 = .ok (.aload_n 1, 1) := by decide +kernel
theorem dX8_extensionTo_97 : decode cX8_extensionTo 97 = .ok (.iload_n 2, 1) := by decide +kernel
theorem dX8_extensionTo_98 : decode cX8_extensionTo 98 = .ok (.iconst 0, 1) := by decide +kernel
theorem dX8_extensionTo_99 : decode cX8_extensionTo 99 = .ok (.iconst 0, 1) := by decide +kernel
theorem dX8_extensionTo_100 : decode cX8_extensionTo 100 = .ok (.sipush 199, 3) := by decide +kernel
theorem dX8_extensionTo_103 : decode cX8_extensionTo 103 = .ok (.sipush 200, 3) := by decide +kernel
theorem dX8_extensionTo_106 : decode cX8_extensionTo 106 = .ok (.sipush 201, 3) := by decide +kernel
theorem dX8_extensionTo_109 : decode cX8_extensionTo 109 = .ok (.invokevirtual 225, 3) := by decide +kernel
theorem dX8_extensionTo_112 : decode cX8_extensionTo 112 = .ok (.aload_n 0, 1) := by decide +kernel
theorem dX8_extensionTo_113 : decode cX8_extensionTo 113 = .ok (.aload_n 1, 1) := by decide +kernel
theorem dX8_extensionTo_114 : decode cX8_extensionTo 114 = .ok (.iload_n 3, 1) := by decide +kernel
theorem dX8_extensionTo_115 : decode cX8_extensionTo 115 = .ok (.invokevirtual 209, 3) := by decide +kernel
theorem dX8_extensionTo_118 : decode cX8_extensionTo 118 = .ok (.return_, 1) := by decide +kernel
theorem dX8_bytesTo_0 : decode cX8_bytesTo 0 = .ok (.iconst 0, 1) := by decide +kernel
theorem dX8_bytesTo_1 : decode cX8_bytesTo 1 = .ok (.istore_n 3, 1) := by decide +kernel
theorem dX8_bytesTo_2 : decode cX8_bytesTo 2 = .ok (.iload_n 3, 1) := by decide +kernel
theorem dX8_bytesTo_3 : decode cX8_bytesTo 3 = .ok (.aload_n 0, 1) := by decide +kernel
theorem dX8_bytesTo_4 : decode cX8_bytesTo 4 = .ok (.getfield 38, 3) := by decide +kernel
theorem dX8_bytesTo_7 : decode cX8_bytesTo 7 = .ok (.iload_n 2, 1) := by decide +kernel
theorem dX8_bytesTo_8 : decode cX8_bytesTo 8 = .ok (.iaload, 1) := by decide +kernel
theorem dX8_bytesTo_9 : decode cX8_bytesTo 9 = .ok (.if_icmp .ge 27, 3) := by decide +kernel
theorem dX8_bytesTo_12 : decode cX8_bytesTo 12 = .ok (.aload_n 0, 1) := by decide +kernel
theorem dX8_bytesTo_13 : decode cX8_bytesTo 13 = .ok (.aload_n 1, 1) := by decide +kernel
theorem dX8_bytesTo_14 : decode cX8_bytesTo 14 = .ok (.aload_n 0, 1) := by decide +kernel
theorem dX8_bytesTo_15 : decode cX8_bytesTo 15 = .ok (.getfield 47, 3) := by decide +kernel
theorem dX8_bytesTo_18 : decode cX8_bytesTo 18 = .ok (.aload_n 0, 1) := by decide +kernel
theorem dX8_bytesTo_19 : decode cX8_bytesTo 19 = .ok (.getfield 32, 3) := by decide +kernel
theorem dX8_bytesTo_22 : decode cX8_bytesTo 22 = .ok (.iload_n 2, 1) := by decide +kernel
theorem dX8_bytesTo_23 : decode cX8_bytesTo 23 = .ok (.iaload, 1) := by decide +kernel
theorem dX8_bytesTo_24 : decode cX8_bytesTo 24 = .ok (.iload_n 3, 1) := by decide +kernel
theorem dX8_bytesTo_25 : decode cX8_bytesTo 25 = .ok (.iadd, 1) := by decide +kernel
theorem dX8_bytesTo_26 : decode cX8_bytesTo 26 = .ok (.baload, 1) := by decide +kernel
theorem dX8_bytesTo_27 : decode cX8_bytesTo 27 = .ok (.invokevirtual 209, 3) := by decide +kernel
theorem dX8_bytesTo_30 : decode cX8_bytesTo 30 = .ok (.iinc 3 1, 3) := by decide +kernel
theorem dX8_bytesTo_33 : decode cX8_bytesTo 33 = .ok (.goto (-31), 3) := by decide +kernel
theorem dX8_bytesTo_36 : decode cX8_bytesTo 36 = .ok (.return_, 1) := by decide +kernel
theorem dX8_plainTo_0 : decode cX8_plainTo 0 = .ok (.aload_n 0, 1) := by decide +kernel
theorem dX8_plainTo_1 : decode cX8_plainTo 1 = .ok (.getfield 17, 3) := by decide +kernel
theorem dX8_plainTo_4 : decode cX8_plainTo 4 = .ok (.iload_n 2, 1) := by decide +kernel
theorem dX8_plainTo_5 : decode cX8_plainTo 5 = .ok (.iaload, 1) := by decide +kernel
theorem dX8_plainTo_6 : decode cX8_plainTo 6 = .ok (.tableswitch 241 0 9 #[54, 65, 83, 103, 126, 150, 184, 241, 241, 215], 54) := by decide +kernel
theorem dX8_plainTo_60 : decode cX8_plainTo 60 = .ok (.aload_n 0, 1) := by decide +kernel
theorem dX8_plainTo_61 : decode cX8_plainTo 61 = .ok (.aload_n 1, 1) := by decide +kernel
theorem dX8_plainTo_62 : decode cX8_plainTo 62 = .ok (.sipush 192, 3) := by decide +kernel
theorem dX8_plainTo_65 : decode cX8_plainTo 65 = .ok (.invokevirtual 209, 3) := by decide +kernel
theorem dX8_plainTo_68 : decode cX8_plainTo 68 = .ok (.goto 196, 3) := by decide +kernel
theorem dX8_plainTo_71 : decode cX8_plainTo 71 = .ok (.aload_n 0, 1) := by decide +kernel
theorem dX8_plainTo_72 : decode cX8_plainTo 72 = .ok (.aload_n 1, 1) := by decide +kernel
theorem dX8_plainTo_73 : decode cX8_plainTo 73 = .ok (.sipush 194, 3) := by decide +kernel
theorem dX8_plainTo_76 : decode cX8_plainTo 76 = .ok (.aload_n 0, 1) := by decide +kernel
theorem dX8_plainTo_77 : decode cX8_plainTo 77 = .ok (.getfield 29, 3) := by decide +kernel
theorem dX8_plainTo_80 : decode cX8_plainTo 80 = .ok (.iload_n 2, 1) := by decide +kernel
theorem dX8_plainTo_81 : decode cX8_plainTo 81 = .ok (.iaload, 1) := by decide +kernel
theorem dX8_plainTo_82 : decode cX8_plainTo 82 = .ok (.iadd, 1) := by decide +kernel
theorem dX8_plainTo_83 : decode cX8_plainTo 83 = .ok (.invokevirtual 209, 3) := by decide +kernel
theorem dX8_plainTo_86 : decode cX8_plainTo 86 = .ok (.goto 178, 3) := by decide +kernel
theorem dX8_plainTo_89 : decode cX8_plainTo 89 = .ok (.aload_n 0, 1) := by decide +kernel
theorem dX8_plainTo_90 : decode cX8_plainTo 90 = .ok (.aload_n 1, 1) := by decide +kernel
theorem dX8_plainTo_91 : decode cX8_plainTo 91 = .ok (.aload_n 0, 1) := by decide +kernel
theorem dX8_plainTo_92 : decode cX8_plainTo 92 = .ok (.getfield 21, 3) := by decide +kernel
theorem dX8_plainTo_95 : decode cX8_plainTo 95 = .ok (.iload_n 2, 1) := by decide +kernel
theorem dX8_plainTo_96 : decode cX8_plainTo 96 = .ok (.laload, 1) := by decide +kernel
theorem dX8_plainTo_97 : decode cX8_plainTo 97 = .ok (.aload_n 0, 1) := by decide +kernel
theorem dX8_plainTo_98 : decode cX8_plainTo 98 = .ok (.getfield 25, 3) := by decide +kernel
theorem dX8_plainTo_101 : decode cX8_plainTo 101 = .ok (.iload_n 2, 1) := by decide +kernel
theorem dX8_plainTo_102 : decode cX8_plainTo 102 = .ok (.baload, 1) := by decide +kernel
theorem dX8_plainTo_103 : decode cX8_plainTo 103 = .ok (.invokevirtual 229, 3) := by decide +kernel
theorem dX8_plainTo_106 : decode cX8_plainTo 106 = .ok (.goto 158, 3) := by decide +kernel
theorem dX8_plainTo_109 : decode cX8_plainTo 109 = .ok (.aload_n 0, 1) := by decide +kernel
theorem dX8_plainTo_110 : decode cX8_plainTo 110 = .ok (.aload_n 1, 1) := by decide +kernel
theorem dX8_plainTo_111 : decode cX8_plainTo 111 = .ok (.sipush 202, 3) := by decide +kernel
theorem dX8_plainTo_114 : decode cX8_plainTo 114 = .ok (.invokevirtual 209, 3) := by decide +kernel
theorem dX8_plainTo_117 : decode cX8_plainTo 117 = .ok (.aload_n 0, 1) := by decide +kernel
theorem dX8_plainTo_118 : decode cX8_plainTo 118 = .ok (.aload_n 1, 1) := by decide +kernel
theorem dX8_plainTo_119 : decode cX8_plainTo 119 = .ok (.aload_n 0, 1) := by decide +kernel
theorem dX8_plainTo_120 : decode cX8_plainTo 120 = .ok (.getfield 21, 3) := by decide +kernel
theorem dX8_plainTo_123 : decode cX8_plainTo 123 = .ok (.iload_n 2, 1) := by decide +kernel
theorem dX8_plainTo_124 : decode cX8_plainTo 124 = .ok (.laload, 1) := by decide +kernel
theorem dX8_plainTo_125 : decode cX8_plainTo 125 = .ok (.iconst 4, 1) := by decide +kernel
theorem dX8_plainTo_126 : decode cX8_plainTo 126 = .ok (.invokevirtual 213, 3) := by decide +kernel
theorem dX8_plainTo_129 : decode cX8_plainTo 129 = .ok (.goto 135, 3) := by decide +kernel
theorem dX8_plainTo_132 : decode cX8_plainTo 132 = .ok (.aload_n 0, 1) := by decide +kernel
theorem dX8_plainTo_133 : decode cX8_plainTo 133 = .ok (.aload_n 1, 1) := by decide +kernel
theorem dX8_plainTo_134 : decode cX8_plainTo 134 = .ok (.sipush 203, 3) := by decide +kernel
theorem dX8_plainTo_137 : decode cX8_plainTo 137 = .ok (.invokevirtual 209, 3) := by decide +kernel
theorem dX8_plainTo_140 : decode cX8_plainTo 140 = .ok (.aload_n 0, 1) := by decide +kernel
theorem dX8_plainTo_141 : decode cX8_plainTo 141 = .ok (.aload_n 1, 1) := by decide +kernel
theorem dX8_plainTo_142 : decode cX8_plainTo 142 = .ok (.aload_n 0, 1) := by decide +kernel
theorem dX8_plainTo_143 : decode cX8_plainTo 143 = .ok (.getfield 21, 3) := by decide +kernel
theorem dX8_plainTo_146 : decode cX8_plainTo 146 = .ok (.iload_n 2, 1) := by decide +kernel
theorem dX8_plainTo_147 : decode cX8_plainTo 147 = .ok (.laload, 1) := by decide +kernel
theorem dX8_plainTo_148 : decode cX8_plainTo 148 = .ok (.bipush 8, 2) := by decide +kernel
theorem dX8_plainTo_150 : decode cX8_plainTo 150 = .ok (.invokevirtual 213, 3) := by decide +kernel
theorem dX8_plainTo_153 : decode cX8_plainTo 153 = .ok (.goto 111, 3) := by decide +kernel
theorem dX8_plainTo_156 : decode cX8_plainTo 156 = .ok (.aload_n 0, 1) := by decide +kernel
theorem dX8_plainTo_157 : decode cX8_plainTo 157 = .ok (.aload_n 1, 1) := by decide +kernel
theorem dX8_plainTo_158 : decode cX8_plainTo 158 = .ok (.aload_n 0, 1) := by decide +kernel
theorem dX8_plainTo_159 : decode cX8_plainTo 159 = .ok (.getfield 38, 3) := by decide +kernel
theorem dX8_plainTo_162 : decode cX8_plainTo 162 = .ok (.iload_n 2, 1) := by decide +kernel
theorem dX8_plainTo_163 : decode cX8_plainTo 163 = .ok (.iaload, 1) := by decide +kernel
theorem dX8_plainTo_164 : decode cX8_plainTo 164 = .ok (.bipush 32, 2) := by decide +kernel
theorem dX8_plainTo_166 : decode cX8_plainTo 166 = .ok (.sipush 160, 3) := by decide +kernel
theorem dX8_plainTo_169 : decode cX8_plainTo 169 = .ok (.sipush 217, 3) := by decide +kernel
theorem dX8_plainTo_172 : decode cX8_plainTo 172 = .ok (.sipush 218, 3) := by decide +kernel
theorem dX8_plainTo_175 : decode cX8_plainTo 175 = .ok (.sipush 219, 3) := by decide +kernel
theorem dX8_plainTo_178 : decode cX8_plainTo 178 = .ok (.invokevirtual 225, 3) := by decide +kernel
theorem dX8_plainTo_181 : decode cX8_plainTo 181 = .ok (.aload_n 0, 1) := by decide +kernel
theorem dX8_plainTo_182 : decode cX8_plainTo 182 = .ok (.aload_n 1, 1) := by decide +kernel
theorem dX8_plainTo_183 : decode cX8_plainTo 183 = .ok (.iload_n 2, 1) := by decide +kernel
theorem dX8_plainTo_184 : decode cX8_plainTo 184 = .ok (.invokevirtual 233, 3) := by decide +kernel
theorem dX8_plainTo_187 : decode cX8_plainTo 187 = .ok (.goto 77, 3) := by decide +kernel
theorem dX8_plainTo_190 : decode cX8_plainTo 190 = .ok (.aload_n 0, 1) := by decide +kernel
theorem dX8_plainTo_191 : decode cX8_plainTo 191 = .ok (.aload_n 1, 1) := by decide +kernel
theorem dX8_plainTo_192 : decode cX8_plainTo 192 = .ok (.aload_n 0, 1) := by decide +kernel
theorem dX8_plainTo_193 : decode cX8_plainTo 193 = .ok (.getfield 38, 3) := by decide +kernel
theorem dX8_plainTo_196 : decode cX8_plainTo 196 = .ok (.iload_n 2, 1) := by decide +kernel
theorem dX8_plainTo_197 : decode cX8_plainTo 197 = .ok (.iaload, 1) := by decide +kernel
theorem dX8_plainTo_198 : decode cX8_plainTo 198 = .ok (.iconst 0, 1) := by decide +kernel
theorem dX8_plainTo_199 : decode cX8_plainTo 199 = .ok (.iconst 0, 1) := by decide +kernel
theorem dX8_plainTo_200 : decode cX8_plainTo 200 = .ok (.sipush 196, 3) := by decide +kernel
theorem dX8_plainTo_203 : decode cX8_plainTo 203 = .ok (.sipush 197, 3) := by decide +kernel
theorem dX8_plainTo_206 : decode cX8_plainTo 206 = .ok (.sipush 198, 3) := by decide +kernel
theorem dX8_plainTo_209 : decode cX8_plainTo 209 = .ok (.invokevirtual 225, 3) := by decide +kernel
theorem dX8_plainTo_212 : decode cX8_plainTo 212 = .ok (.aload_n 0, 1) := by decide +kernel
theorem dX8_plainTo_213 : decode cX8_plainTo 213 = .ok (.aload_n 1, 1) := by decide +kernel
theorem dX8_plainTo_214 : decode cX8_plainTo 214 = .ok (.iload_n 2, 1) := by decide +kernel
theorem dX8_plainTo_215 : decode cX8_plainTo 215 = .ok (.invokevirtual 233, 3) := by decide +kernel
theorem dX8_plainTo_218 : decode cX8_plainTo 218 = .ok (.goto 46, 3) := by decide +kernel
theorem dX8_plainTo_221 : decode cX8_plainTo 221 = .ok (.aload_n 0, 1) := by decide +kernel
theorem dX8_plainTo_222 : decode cX8_plainTo 222 = .ok (.aload_n 1, 1) := by decide +kernel
theorem dX8_plainTo_223 : decode cX8_plainTo 223 = .ok (.aload_n 0, 1) := by decide +kernel
theorem dX8_plainTo_224 : decode cX8_plainTo 224 = .ok (.getfield 38, 3) := by decide +kernel
theorem dX8_plainTo_227 : decode cX8_plainTo 227 = .ok (.iload_n 2, 1) := by decide +kernel
theorem dX8_plainTo_228 : decode cX8_plainTo 228 = .ok (.iaload, 1) := by decide +kernel
theorem dX8_plainTo_229 : decode cX8_plainTo 229 = .ok (.aload_n 0, 1) := by decide +kernel
theorem dX8_plainTo_230 : decode cX8_plainTo 230 = .ok (.getfield 29, 3) := by decide +kernel
theorem dX8_plainTo_233 : decode cX8_plainTo 233 = .ok (.iload_n 2, 1) := by decide +kernel
theorem dX8_plainTo_234 : decode cX8_plainTo 234 = .ok (.iaload, 1) := by decide +kernel
theorem dX8_plainTo_235 : decode cX8_plainTo 235 = .ok (.invokevirtual 236, 3) := by decide +kernel
theorem dX8_plainTo_238 : decode cX8_plainTo 238 = .ok (.aload_n 0, 1) := by decide +kernel
theorem dX8_plainTo_239 : decode cX8_plainTo 239 = .ok (.aload_n 1, 1) := by decide +kernel
theorem dX8_plainTo_240 : decode cX8_plainTo 240 = .ok (.iload_n 2, 1) := by decide +kernel
theorem dX8_plainTo_241 : decode cX8_plainTo 241 = .ok (.invokevirtual 233, 3) := by decide +kernel
theorem dX8_plainTo_244 : decode cX8_plainTo 244 = .ok (.goto 20, 3) := by decide +kernel
theorem dX8_plainTo_247 : decode cX8_plainTo 247 = .ok (.aload_n 0, 1) := by decide +kernel
theorem dX8_plainTo_248 : decode cX8_plainTo 248 = .ok (.aload_n 1, 1) := by decide +kernel
theorem dX8_plainTo_249 : decode cX8_plainTo 249 = .ok (.aload_n 0, 1) := by decide +kernel
theorem dX8_plainTo_250 : decode cX8_plainTo 250 = .ok (.getfield 21, 3) := by decide +kernel
theorem dX8_plainTo_253 : decode cX8_plainTo 253 = .ok (.iload_n 2, 1) := by decide +kernel
theorem dX8_plainTo_254 : decode cX8_plainTo 254 = .ok (.laload, 1) := by decide +kernel
theorem dX8_plainTo_255 : decode cX8_plainTo 255 = .ok (.aload_n 0, 1) := by decide +kernel
theorem dX8_plainTo_256 : decode cX8_plainTo 256 = .ok (.getfield 29, 3) := by decide +kernel
theorem dX8_plainTo_259 : decode cX8_plainTo 259 = .ok (.iload_n 2, 1) := by decide +kernel
theorem dX8_plainTo_260 : decode cX8_plainTo 260 = .ok (.iaload, 1) := by decide +kernel
theorem dX8_plainTo_261 : decode cX8_plainTo 261 = .ok (.invokevirtual 240, 3) := by decide +kernel
theorem dX8_plainTo_264 : decode cX8_plainTo 264 = .ok (.return_, 1) := by decide +kernel
theorem dX8_timeTo_0 : decode cX8_timeTo 0 = .ok (.lload_n 2, 1) := by decide +kernel
theorem dX8_timeTo_1 : decode cX8_timeTo 1 = .ok (.lconst 0, 1) := by decide +kernel
theorem dX8_timeTo_2 : decode cX8_timeTo 2 = .ok (.lcmp, 1) := by decide +kernel
theorem dX8_timeTo_3 : decode cX8_timeTo 3 = .ok (.ifCond .lt 33, 3) := by decide +kernel
theorem dX8_timeTo_6 : decode cX8_timeTo 6 = .ok (.lload_n 2, 1) := by decide +kernel
theorem dX8_timeTo_7 : decode cX8_timeTo 7 = .ok (.ldc2_w 243, 3) := by decide +kernel
theorem dX8_timeTo_10 : decode cX8_timeTo 10 = .ok (.lcmp, 1) := by decide +kernel
theorem dX8_timeTo_11 : decode cX8_timeTo 11 = .ok (.ifCond .ge 25, 3) := by decide +kernel
theorem dX8_timeTo_14 : decode cX8_timeTo 14 = .ok (.iload 4, 2) := by decide +kernel
theorem dX8_timeTo_16 : decode cX8_timeTo 16 = .ok (.ifCond .ne 20, 3) := by decide +kernel
theorem dX8_timeTo_19 : decode cX8_timeTo 19 = .ok (.aload_n 0, 1) := by decide +kernel
theorem dX8_timeTo_20 : decode cX8_timeTo 20 = .ok (.aload_n 1, 1) := by decide +kernel
theorem dX8_timeTo_21 : decode cX8_timeTo 21 = .ok (.iconst 4, 1) := by decide +kernel
theorem dX8_timeTo_22 : decode cX8_timeTo 22 = .ok (.iconst (-1), 1) := by decide +kernel
theorem dX8_timeTo_23 : decode cX8_timeTo 23 = .ok (.invokevirtual 236, 3) := by decide +kernel
theorem dX8_timeTo_26 : decode cX8_timeTo 26 = .ok (.aload_n 0, 1) := by decide +kernel
theorem dX8_timeTo_27 : decode cX8_timeTo 27 = .ok (.aload_n 1, 1) := by decide +kernel
theorem dX8_timeTo_28 : decode cX8_timeTo 28 = .ok (.lload_n 2, 1) := by decide +kernel
theorem dX8_timeTo_29 : decode cX8_timeTo 29 = .ok (.iconst 4, 1) := by decide +kernel
theorem dX8_timeTo_30 : decode cX8_timeTo 30 = .ok (.invokevirtual 213, 3) := by decide +kernel
theorem dX8_timeTo_33 : decode cX8_timeTo 33 = .ok (.goto 68, 3) := by decide +kernel
theorem dX8_timeTo_36 : decode cX8_timeTo 36 = .ok (.lload_n 2, 1) := by decide +kernel
theorem dX8_timeTo_37 : decode cX8_timeTo 37 = .ok (.lconst 0, 1) := by decide +kernel
theorem dX8_timeTo_38 : decode cX8_timeTo 38 = .ok (.lcmp, 1) := by decide +kernel
theorem dX8_timeTo_39 : decode cX8_timeTo 39 = .ok (.ifCond .lt 37, 3) := by decide +kernel
theorem dX8_timeTo_42 : decode cX8_timeTo 42 = .ok (.lload_n 2, 1) := by decide +kernel
theorem dX8_timeTo_43 : decode cX8_timeTo 43 = .ok (.ldc2_w 245, 3) := by decide +kernel
theorem dX8_timeTo_46 : decode cX8_timeTo 46 = .ok (.lcmp, 1) := by decide +kernel
theorem dX8_timeTo_47 : decode cX8_timeTo 47 = .ok (.ifCond .ge 29, 3) := by decide +kernel
theorem dX8_timeTo_50 : decode cX8_timeTo 50 = .ok (.aload_n 0, 1) := by decide +kernel
theorem dX8_timeTo_51 : decode cX8_timeTo 51 = .ok (.aload_n 1, 1) := by decide +kernel
theorem dX8_timeTo_52 : decode cX8_timeTo 52 = .ok (.bipush 8, 2) := by decide +kernel
theorem dX8_timeTo_54 : decode cX8_timeTo 54 = .ok (.iconst (-1), 1) := by decide +kernel
theorem dX8_timeTo_55 : decode cX8_timeTo 55 = .ok (.invokevirtual 236, 3) := by decide +kernel
theorem dX8_timeTo_58 : decode cX8_timeTo 58 = .ok (.aload_n 0, 1) := by decide +kernel
theorem dX8_timeTo_59 : decode cX8_timeTo 59 = .ok (.aload_n 1, 1) := by decide +kernel
theorem dX8_timeTo_60 : decode cX8_timeTo 60 = .ok (.iload 4, 2) := by decide +kernel
theorem dX8_timeTo_62 : decode cX8_timeTo 62 = .ok (.i2l, 1) := by decide +kernel
theorem dX8_timeTo_63 : decode cX8_timeTo 63 = .ok (.bipush 34, 2) := by decide +kernel
theorem dX8_timeTo_65 : decode cX8_timeTo 65 = .ok (.lshl, 1) := by decide +kernel
theorem dX8_timeTo_66 : decode cX8_timeTo 66 = .ok (.lload_n 2, 1) := by decide +kernel
theorem dX8_timeTo_67 : decode cX8_timeTo 67 = .ok (.ladd, 1) := by decide +kernel
theorem dX8_timeTo_68 : decode cX8_timeTo 68 = .ok (.bipush 8, 2) := by decide +kernel
theorem dX8_timeTo_70 : decode cX8_timeTo 70 = .ok (.invokevirtual 213, 3) := by decide +kernel
theorem dX8_timeTo_73 : decode cX8_timeTo 73 = .ok (.goto 28, 3) := by decide +kernel
theorem dX8_timeTo_76 : decode cX8_timeTo 76 = .ok (.aload_n 0, 1) := by decide +kernel
theorem dX8_timeTo_77 : decode cX8_timeTo 77 = .ok (.aload_n 1, 1) := by decide +kernel
theorem dX8_timeTo_78 : decode cX8_timeTo 78 = .ok (.bipush 12, 2) := by decide +kernel
theorem dX8_timeTo_80 : decode cX8_timeTo 80 = .ok (.iconst (-1), 1) := by decide +kernel
theorem dX8_timeTo_81 : decode cX8_timeTo 81 = .ok (.invokevirtual 236, 3) := by decide +kernel
theorem dX8_timeTo_84 : decode cX8_timeTo 84 = .ok (.aload_n 0, 1) := by decide +kernel
theorem dX8_timeTo_85 : decode cX8_timeTo 85 = .ok (.aload_n 1, 1) := by decide +kernel
theorem dX8_timeTo_86 : decode cX8_timeTo 86 = .ok (.iload 4, 2) := by decide +kernel
theorem dX8_timeTo_88 : decode cX8_timeTo 88 = .ok (.i2l, 1) := by decide +kernel
theorem dX8_timeTo_89 : decode cX8_timeTo 89 = .ok (.iconst 4, 1) := by decide +kernel
theorem dX8_timeTo_90 : decode cX8_timeTo 90 = .ok (.invokevirtual 213, 3) := by decide +kernel
theorem dX8_timeTo_93 : decode cX8_timeTo 93 = .ok (.aload_n 0, 1) := by decide +kernel
theorem dX8_timeTo_94 : decode cX8_timeTo 94 = .ok (.aload_n 1, 1) := by decide +kernel
theorem dX8_timeTo_95 : decode cX8_timeTo 95 = .ok (.lload_n 2, 1) := by decide +kernel
theorem dX8_timeTo_96 : decode cX8_timeTo 96 = .ok (.bipush 8, 2) := by decide +kernel
theorem dX8_timeTo_98 : decode cX8_timeTo 98 = .ok (.invokevirtual 213, 3) := by decide +kernel
theorem dX8_timeTo_101 : decode cX8_timeTo 101 = .ok (.return_, 1) := by decide +kernel
theorem dX8_valueTo_0 : decode cX8_valueTo 0 = .ok (.aload_n 0, 1) := by decide +kernel
theorem dX8_valueTo_1 : decode cX8_valueTo 1 = .ok (.getfield 17, 3) := by decide +kernel
theorem dX8_valueTo_4 : decode cX8_valueTo 4 = .ok (.iload_n 2, 1) := by decide +kernel
theorem dX8_valueTo_5 : decode cX8_valueTo 5 = .ok (.iaload, 1) := by decide +kernel
theorem dX8_valueTo_6 : decode cX8_valueTo 6 = .ok (.invokestatic 100, 3) := by decide +kernel
theorem dX8_valueTo_9 : decode cX8_valueTo 9 = .ok (.ifCond .ne 12, 3) := by decide +kernel
theorem dX8_valueTo_12 : decode cX8_valueTo 12 = .ok (.aload_n 0, 1) := by decide +kernel
theorem dX8_valueTo_13 : decode cX8_valueTo 13 = .ok (.aload_n 1, 1) := by decide +kernel
theorem dX8_valueTo_14 : decode cX8_valueTo 14 = .ok (.iload_n 2, 1) := by decide +kernel
theorem dX8_valueTo_15 : decode cX8_valueTo 15 = .ok (.invokevirtual 247, 3) := by decide +kernel
theorem dX8_valueTo_18 : decode cX8_valueTo 18 = .ok (.goto 186, 3) := by decide +kernel
theorem dX8_valueTo_21 : decode cX8_valueTo 21 = .ok (.aload_n 0, 1) := by decide +kernel
theorem dX8_valueTo_22 : decode cX8_valueTo 22 = .ok (.getfield 56, 3) := by decide +kernel
theorem dX8_valueTo_25 : decode cX8_valueTo 25 = .ok (.iload_n 2, 1) := by decide +kernel
theorem dX8_valueTo_26 : decode cX8_valueTo 26 = .ok (.iaload, 1) := by decide +kernel
theorem dX8_valueTo_27 : decode cX8_valueTo 27 = .ok (.aload_n 0, 1) := by decide +kernel
theorem dX8_valueTo_28 : decode cX8_valueTo 28 = .ok (.getfield 250, 3) := by decide +kernel
theorem dX8_valueTo_31 : decode cX8_valueTo 31 = .ok (.if_icmp .ne 36, 3) := by decide +kernel
theorem dX8_valueTo_34 : decode cX8_valueTo 34 = .ok (.aload_n 0, 1) := by decide +kernel
theorem dX8_valueTo_35 : decode cX8_valueTo 35 = .ok (.aload_n 1, 1) := by decide +kernel
theorem dX8_valueTo_36 : decode cX8_valueTo 36 = .ok (.aload_n 0, 1) := by decide +kernel
theorem dX8_valueTo_37 : decode cX8_valueTo 37 = .ok (.getfield 59, 3) := by decide +kernel
theorem dX8_valueTo_40 : decode cX8_valueTo 40 = .ok (.iload_n 2, 1) := by decide +kernel
theorem dX8_valueTo_41 : decode cX8_valueTo 41 = .ok (.iaload, 1) := by decide +kernel
theorem dX8_valueTo_42 : decode cX8_valueTo 42 = .ok (.i2l, 1) := by decide +kernel
theorem dX8_valueTo_43 : decode cX8_valueTo 43 = .ok (.iconst 0, 1) := by decide +kernel
theorem dX8_valueTo_44 : decode cX8_valueTo 44 = .ok (.invokestatic 221, 3) := by decide +kernel
theorem dX8_valueTo_47 : decode cX8_valueTo 47 = .ok (.iconst 0, 1) := by decide +kernel
theorem dX8_valueTo_48 : decode cX8_valueTo 48 = .ok (.invokevirtual 236, 3) := by decide +kernel
theorem dX8_valueTo_51 : decode cX8_valueTo 51 = .ok (.aload_n 0, 1) := by decide +kernel
theorem dX8_valueTo_52 : decode cX8_valueTo 52 = .ok (.aload_n 1, 1) := by decide +kernel
theorem dX8_valueTo_53 : decode cX8_valueTo 53 = .ok (.aload_n 0, 1) := by decide +kernel
theorem dX8_valueTo_54 : decode cX8_valueTo 54 = .ok (.getfield 59, 3) := by decide +kernel
theorem dX8_valueTo_57 : decode cX8_valueTo 57 = .ok (.iload_n 2, 1) := by decide +kernel
theorem dX8_valueTo_58 : decode cX8_valueTo 58 = .ok (.iaload, 1) := by decide +kernel
theorem dX8_valueTo_59 : decode cX8_valueTo 59 = .ok (.i2l, 1) := by decide +kernel
theorem dX8_valueTo_60 : decode cX8_valueTo 60 = .ok (.iconst 0, 1) := by decide +kernel
theorem dX8_valueTo_61 : decode cX8_valueTo 61 = .ok (.invokevirtual 229, 3) := by decide +kernel
theorem dX8_valueTo_64 : decode cX8_valueTo 64 = .ok (.goto 140, 3) := by decide +kernel
theorem dX8_valueTo_67 : decode cX8_valueTo 67 = .ok (.aload_n 0, 1) := by decide +kernel
theorem dX8_valueTo_68 : decode cX8_valueTo 68 = .ok (.getfield 186, 3) := by decide +kernel
theorem dX8_valueTo_71 : decode cX8_valueTo 71 = .ok (.bipush 24, 2) := by decide +kernel
theorem dX8_valueTo_73 : decode cX8_valueTo 73 = .ok (.if_icmp .ne 5, 3) := by decide +kernel
theorem dX8_valueTo_76 : decode cX8_valueTo 76 = .ok (.iconst 0, 1) := by decide +kernel
theorem dX8_valueTo_77 : decode cX8_valueTo 77 = .ok (.ireturn, 1) := by decide +kernel
theorem dX8_valueTo_78 : decode cX8_valueTo 78 = .ok (.aload_n 0, 1) := by decide +kernel
theorem dX8_valueTo_79 : decode cX8_valueTo 79 = .ok (.getfield 56, 3) := by decide +kernel
theorem dX8_valueTo_82 : decode cX8_valueTo 82 = .ok (.iload_n 2, 1) := by decide +kernel
theorem dX8_valueTo_83 : decode cX8_valueTo 83 = .ok (.aload_n 0, 1) := by decide +kernel
theorem dX8_valueTo_84 : decode cX8_valueTo 84 = .ok (.getfield 250, 3) := by decide +kernel
theorem dX8_valueTo_87 : decode cX8_valueTo 87 = .ok (.iastore, 1) := by decide +kernel
theorem dX8_valueTo_88 : decode cX8_valueTo 88 = .ok (.aload_n 0, 1) := by decide +kernel
theorem dX8_valueTo_89 : decode cX8_valueTo 89 = .ok (.getfield 59, 3) := by decide +kernel
theorem dX8_valueTo_92 : decode cX8_valueTo 92 = .ok (.iload_n 2, 1) := by decide +kernel
theorem dX8_valueTo_93 : decode cX8_valueTo 93 = .ok (.aload_n 0, 1) := by decide +kernel
theorem dX8_valueTo_94 : decode cX8_valueTo 94 = .ok (.getfield 253, 3) := by decide +kernel
theorem dX8_valueTo_97 : decode cX8_valueTo 97 = .ok (.iastore, 1) := by decide +kernel
theorem dX8_valueTo_98 : decode cX8_valueTo 98 = .ok (.aload_n 0, 1) := by decide +kernel
theorem dX8_valueTo_99 : decode cX8_valueTo 99 = .ok (.dup, 1) := by decide +kernel
theorem dX8_valueTo_100 : decode cX8_valueTo 100 = .ok (.getfield 253, 3) := by decide +kernel
theorem dX8_valueTo_103 : decode cX8_valueTo 103 = .ok (.iconst 1, 1) := by decide +kernel
theorem dX8_valueTo_104 : decode cX8_valueTo 104 = .ok (.iadd, 1) := by decide +kernel
theorem dX8_valueTo_105 : decode cX8_valueTo 105 = .ok (.putfield 253, 3) := by decide +kernel
theorem dX8_valueTo_108 : decode cX8_valueTo 108 = .ok (.aload_n 0, 1) := by decide +kernel
theorem dX8_valueTo_109 : decode cX8_valueTo 109 = .ok (.getfield 17, 3) := by decide +kernel
theorem dX8_valueTo_112 : decode cX8_valueTo 112 = .ok (.iload_n 2, 1) := by decide +kernel
theorem dX8_valueTo_113 : decode cX8_valueTo 113 = .ok (.iaload, 1) := by decide +kernel
theorem dX8_valueTo_114 : decode cX8_valueTo 114 = .ok (.bipush 7, 2) := by decide +kernel
theorem dX8_valueTo_116 : decode cX8_valueTo 116 = .ok (.if_icmp .ne 29, 3) := by decide +kernel
theorem dX8_valueTo_119 : decode cX8_valueTo 119 = .ok (.aload_n 0, 1) := by decide +kernel
theorem dX8_valueTo_120 : decode cX8_valueTo 120 = .ok (.aload_n 1, 1) := by decide +kernel
theorem dX8_valueTo_121 : decode cX8_valueTo 121 = .ok (.aload_n 0, 1) := by decide +kernel
theorem dX8_valueTo_122 : decode cX8_valueTo 122 = .ok (.getfield 38, 3) := by decide +kernel
theorem dX8_valueTo_125 : decode cX8_valueTo 125 = .ok (.iload_n 2, 1) := by decide +kernel
theorem dX8_valueTo_126 : decode cX8_valueTo 126 = .ok (.iaload, 1) := by decide +kernel
theorem dX8_valueTo_127 : decode cX8_valueTo 127 = .ok (.bipush 16, 2) := by decide +kernel
theorem dX8_valueTo_129 : decode cX8_valueTo 129 = .ok (.sipush 144, 3) := by decide +kernel
theorem dX8_valueTo_132 : decode cX8_valueTo 132 = .ok (.iconst 0, 1) := by decide +kernel
theorem dX8_valueTo_133 : decode cX8_valueTo 133 = .ok (.sipush 220, 3) := by decide +kernel
theorem dX8_valueTo_136 : decode cX8_valueTo 136 = .ok (.sipush 221, 3) := by decide +kernel
theorem dX8_valueTo_139 : decode cX8_valueTo 139 = .ok (.invokevirtual 225, 3) := by decide +kernel
theorem dX8_valueTo_142 : decode cX8_valueTo 142 = .ok (.goto 26, 3) := by decide +kernel
theorem dX8_valueTo_145 : decode cX8_valueTo 145 = .ok (.aload_n 0, 1) := by decide +kernel
theorem dX8_valueTo_146 : decode cX8_valueTo 146 = .ok (.aload_n 1, 1) := by decide +kernel
theorem dX8_valueTo_147 : decode cX8_valueTo 147 = .ok (.aload_n 0, 1) := by decide +kernel
theorem dX8_valueTo_148 : decode cX8_valueTo 148 = .ok (.getfield 38, 3) := by decide +kernel
theorem dX8_valueTo_151 : decode cX8_valueTo 151 = .ok (.iload_n 2, 1) := by decide +kernel
theorem dX8_valueTo_152 : decode cX8_valueTo 152 = .ok (.iaload, 1) := by decide +kernel
theorem dX8_valueTo_153 : decode cX8_valueTo 153 = .ok (.bipush 16, 2) := by decide +kernel
theorem dX8_valueTo_155 : decode cX8_valueTo 155 = .ok (.sipush 128, 3) := by decide +kernel
theorem dX8_valueTo_158 : decode cX8_valueTo 158 = .ok (.iconst 0, 1) := by decide +kernel
theorem dX8_valueTo_159 : decode cX8_valueTo 159 = .ok (.sipush 222, 3) := by decide +kernel
theorem dX8_valueTo_162 : decode cX8_valueTo 162 = .ok (.sipush 223, 3) := by decide +kernel
theorem dX8_valueTo_165 : decode cX8_valueTo 165 = .ok (.invokevirtual 225, 3) := by decide +kernel
theorem dX8_valueTo_168 : decode cX8_valueTo 168 = .ok (.aload_n 0, 1) := by decide +kernel
theorem dX8_valueTo_169 : decode cX8_valueTo 169 = .ok (.getfield 62, 3) := by decide +kernel
theorem dX8_valueTo_172 : decode cX8_valueTo 172 = .ok (.aload_n 0, 1) := by decide +kernel
theorem dX8_valueTo_173 : decode cX8_valueTo 173 = .ok (.getfield 186, 3) := by decide +kernel
theorem dX8_valueTo_176 : decode cX8_valueTo 176 = .ok (.iload_n 2, 1) := by decide +kernel
theorem dX8_valueTo_177 : decode cX8_valueTo 177 = .ok (.iastore, 1) := by decide +kernel
theorem dX8_valueTo_178 : decode cX8_valueTo 178 = .ok (.aload_n 0, 1) := by decide +kernel
theorem dX8_valueTo_179 : decode cX8_valueTo 179 = .ok (.getfield 65, 3) := by decide +kernel
theorem dX8_valueTo_182 : decode cX8_valueTo 182 = .ok (.aload_n 0, 1) := by decide +kernel
theorem dX8_valueTo_183 : decode cX8_valueTo 183 = .ok (.getfield 186, 3) := by decide +kernel
theorem dX8_valueTo_186 : decode cX8_valueTo 186 = .ok (.aload_n 0, 1) := by decide +kernel
theorem dX8_valueTo_187 : decode cX8_valueTo 187 = .ok (.getfield 32, 3) := by decide +kernel
theorem dX8_valueTo_190 : decode cX8_valueTo 190 = .ok (.iload_n 2, 1) := by decide +kernel
theorem dX8_valueTo_191 : decode cX8_valueTo 191 = .ok (.iaload, 1) := by decide +kernel
theorem dX8_valueTo_192 : decode cX8_valueTo 192 = .ok (.i2l, 1) := by decide +kernel
theorem dX8_valueTo_193 : decode cX8_valueTo 193 = .ok (.lastore, 1) := by decide +kernel
theorem dX8_valueTo_194 : decode cX8_valueTo 194 = .ok (.aload_n 0, 1) := by decide +kernel
theorem dX8_valueTo_195 : decode cX8_valueTo 195 = .ok (.dup, 1) := by decide +kernel
theorem dX8_valueTo_196 : decode cX8_valueTo 196 = .ok (.getfield 186, 3) := by decide +kernel
theorem dX8_valueTo_199 : decode cX8_valueTo 199 = .ok (.iconst 1, 1) := by decide +kernel
theorem dX8_valueTo_200 : decode cX8_valueTo 200 = .ok (.iadd, 1) := by decide +kernel
theorem dX8_valueTo_201 : decode cX8_valueTo 201 = .ok (.putfield 186, 3) := by decide +kernel
theorem dX8_valueTo_204 : decode cX8_valueTo 204 = .ok (.aload_n 0, 1) := by decide +kernel
theorem dX8_valueTo_205 : decode cX8_valueTo 205 = .ok (.getfield 205, 3) := by decide +kernel
theorem dX8_valueTo_208 : decode cX8_valueTo 208 = .ok (.ifCond .ne 7, 3) := by decide +kernel
theorem dX8_valueTo_211 : decode cX8_valueTo 211 = .ok (.iconst 1, 1) := by decide +kernel
theorem dX8_valueTo_212 : decode cX8_valueTo 212 = .ok (.goto 4, 3) := by decide +kernel
theorem dX8_valueTo_215 : decode cX8_valueTo 215 = .ok (.iconst 0, 1) := by decide +kernel
theorem dX8_valueTo_216 : decode cX8_valueTo 216 = .ok (.ireturn, 1) := by decide +kernel
theorem dX8_packTo_0 : decode cX8_packTo 0 = .ok (.aload_n 0, 1) := by decide +kernel
theorem dX8_packTo_1 : decode cX8_packTo 1 = .ok (.iconst 0, 1) := by decide +kernel
theorem dX8_packTo_2 : decode cX8_packTo 2 = .ok (.putfield 202, 3) := by decide +kernel
theorem dX8_packTo_5 : decode cX8_packTo 5 = .ok (.aload_n 0, 1) := by decide +kernel
theorem dX8_packTo_6 : decode cX8_packTo 6 = .ok (.iconst 0, 1) := by decide +kernel
theorem dX8_packTo_7 : decode cX8_packTo 7 = .ok (.putfield 205, 3) := by decide +kernel
theorem dX8_packTo_10 : decode cX8_packTo 10 = .ok (.aload_n 0, 1) := by decide +kernel
theorem dX8_packTo_11 : decode cX8_packTo 11 = .ok (.iconst 0, 1) := by decide +kernel
theorem dX8_packTo_12 : decode cX8_packTo 12 = .ok (.putfield 253, 3) := by decide +kernel
theorem dX8_packTo_15 : decode cX8_packTo 15 = .ok (.aload_n 0, 1) := by decide +kernel
theorem dX8_packTo_16 : decode cX8_packTo 16 = .ok (.dup, 1) := by decide +kernel
theorem dX8_packTo_17 : decode cX8_packTo 17 = .ok (.getfield 250, 3) := by decide +kernel
theorem dX8_packTo_20 : decode cX8_packTo 20 = .ok (.iconst 1, 1) := by decide +kernel
theorem dX8_packTo_21 : decode cX8_packTo 21 = .ok (.iadd, 1) := by decide +kernel
theorem dX8_packTo_22 : decode cX8_packTo 22 = .ok (.putfield 250, 3) := by decide +kernel
theorem dX8_packTo_25 : decode cX8_packTo 25 = .ok (.aload_n 0, 1) := by decide +kernel
theorem dX8_packTo_26 : decode cX8_packTo 26 = .ok (.iconst 0, 1) := by decide +kernel
theorem dX8_packTo_27 : decode cX8_packTo 27 = .ok (.putfield 186, 3) := by decide +kernel
theorem dX8_packTo_30 : decode cX8_packTo 30 = .ok (.aload_n 0, 1) := by decide +kernel
theorem dX8_packTo_31 : decode cX8_packTo 31 = .ok (.aload_n 1, 1) := by decide +kernel
theorem dX8_packTo_32 : decode cX8_packTo 32 = .ok (.iload_n 2, 1) := by decide +kernel
theorem dX8_packTo_33 : decode cX8_packTo 33 = .ok (.invokevirtual 256, 3) := by decide +kernel
theorem dX8_packTo_36 : decode cX8_packTo 36 = .ok (.istore_n 3, 1) := by decide +kernel
theorem dX8_packTo_37 : decode cX8_packTo 37 = .ok (.iload_n 3, 1) := by decide +kernel
theorem dX8_packTo_38 : decode cX8_packTo 38 = .ok (.ifCond .eq 77, 3) := by decide +kernel
theorem dX8_packTo_41 : decode cX8_packTo 41 = .ok (.aload_n 0, 1) := by decide +kernel
theorem dX8_packTo_42 : decode cX8_packTo 42 = .ok (.getfield 186, 3) := by decide +kernel
theorem dX8_packTo_45 : decode cX8_packTo 45 = .ok (.ifCond .le 70, 3) := by decide +kernel
theorem dX8_packTo_48 : decode cX8_packTo 48 = .ok (.aload_n 0, 1) := by decide +kernel
theorem dX8_packTo_49 : decode cX8_packTo 49 = .ok (.getfield 65, 3) := by decide +kernel
theorem dX8_packTo_52 : decode cX8_packTo 52 = .ok (.aload_n 0, 1) := by decide +kernel
theorem dX8_packTo_53 : decode cX8_packTo 53 = .ok (.getfield 186, 3) := by decide +kernel
theorem dX8_packTo_56 : decode cX8_packTo 56 = .ok (.iconst 1, 1) := by decide +kernel
theorem dX8_packTo_57 : decode cX8_packTo 57 = .ok (.isub, 1) := by decide +kernel
theorem dX8_packTo_58 : decode cX8_packTo 58 = .ok (.laload, 1) := by decide +kernel
theorem dX8_packTo_59 : decode cX8_packTo 59 = .ok (.l2i, 1) := by decide +kernel
theorem dX8_packTo_60 : decode cX8_packTo 60 = .ok (.istore 4, 2) := by decide +kernel
theorem dX8_packTo_62 : decode cX8_packTo 62 = .ok (.iload 4, 2) := by decide +kernel
theorem dX8_packTo_64 : decode cX8_packTo 64 = .ok (.ifCond .ge 16, 3) := by decide +kernel
theorem dX8_packTo_67 : decode cX8_packTo 67 = .ok (.aload_n 0, 1) := by decide +kernel
theorem dX8_packTo_68 : decode cX8_packTo 68 = .ok (.dup, 1) := by decide +kernel
theorem dX8_packTo_69 : decode cX8_packTo 69 = .ok (.getfield 186, 3) := by decide +kernel
theorem dX8_packTo_72 : decode cX8_packTo 72 = .ok (.iconst 1, 1) := by decide +kernel
theorem dX8_packTo_73 : decode cX8_packTo 73 = .ok (.isub, 1) := by decide +kernel
theorem dX8_packTo_74 : decode cX8_packTo 74 = .ok (.putfield 186, 3) := by decide +kernel
theorem dX8_packTo_77 : decode cX8_packTo 77 = .ok (.goto 35, 3) := by decide +kernel
theorem dX8_packTo_80 : decode cX8_packTo 80 = .ok (.aload_n 0, 1) := by decide +kernel
theorem dX8_packTo_81 : decode cX8_packTo 81 = .ok (.getfield 65, 3) := by decide +kernel
theorem dX8_packTo_84 : decode cX8_packTo 84 = .ok (.aload_n 0, 1) := by decide +kernel
theorem dX8_packTo_85 : decode cX8_packTo 85 = .ok (.getfield 186, 3) := by decide +kernel
theorem dX8_packTo_88 : decode cX8_packTo 88 = .ok (.iconst 1, 1) := by decide +kernel
theorem dX8_packTo_89 : decode cX8_packTo 89 = .ok (.isub, 1) := by decide +kernel
theorem dX8_packTo_90 : decode cX8_packTo 90 = .ok (.aload_n 0, 1) := by decide +kernel
theorem dX8_packTo_91 : decode cX8_packTo 91 = .ok (.getfield 44, 3) := by decide +kernel
theorem dX8_packTo_94 : decode cX8_packTo 94 = .ok (.iload 4, 2) := by decide +kernel
theorem dX8_packTo_96 : decode cX8_packTo 96 = .ok (.iaload, 1) := by decide +kernel
theorem dX8_packTo_97 : decode cX8_packTo 97 = .ok (.i2l, 1) := by decide +kernel
theorem dX8_packTo_98 : decode cX8_packTo 98 = .ok (.lastore, 1) := by decide +kernel
theorem dX8_packTo_99 : decode cX8_packTo 99 = .ok (.aload_n 0, 1) := by decide +kernel
theorem dX8_packTo_100 : decode cX8_packTo 100 = .ok (.aload_n 1, 1) := by decide +kernel
theorem dX8_packTo_101 : decode cX8_packTo 101 = .ok (.aload_n 0, 1) := by decide +kernel
theorem dX8_packTo_102 : decode cX8_packTo 102 = .ok (.getfield 41, 3) := by decide +kernel
theorem dX8_packTo_105 : decode cX8_packTo 105 = .ok (.iload 4, 2) := by decide +kernel
theorem dX8_packTo_107 : decode cX8_packTo 107 = .ok (.iaload, 1) := by decide +kernel
theorem dX8_packTo_108 : decode cX8_packTo 108 = .ok (.invokevirtual 256, 3) := by decide +kernel
theorem dX8_packTo_111 : decode cX8_packTo 111 = .ok (.istore_n 3, 1) := by decide +kernel
theorem dX8_packTo_112 : decode cX8_packTo 112 = .ok (.goto (-75), 3) := by decide +kernel
theorem dX8_packTo_115 : decode cX8_packTo 115 = .ok (.iload_n 3, 1) := by decide +kernel
theorem dX8_packTo_116 : decode cX8_packTo 116 = .ok (.ireturn, 1) := by decide +kernel
theorem dX8_pack_0 : decode cX8_pack 0 = .ok (.aload_n 0, 1) := by decide +kernel
theorem dX8_pack_1 : decode cX8_pack 1 = .ok (.aload_n 0, 1) := by decide +kernel
theorem dX8_pack_2 : decode cX8_pack 2 = .ok (.iload_n 1, 1) := by decide +kernel
theorem dX8_pack_3 : decode cX8_pack 3 = .ok (.invokevirtual 131, 3) := by decide +kernel
theorem dX8_pack_6 : decode cX8_pack 6 = .ok (.ifCond .eq 7, 3) := by decide +kernel
theorem dX8_pack_9 : decode cX8_pack 9 = .ok (.iconst 0, 1) := by decide +kernel
theorem dX8_pack_10 : decode cX8_pack 10 = .ok (.goto 4, 3) := by decide +kernel
theorem dX8_pack_13 : decode cX8_pack 13 = .ok (.iconst 1, 1) := by decide +kernel
theorem dX8_pack_14 : decode cX8_pack 14 = .ok (.putfield 71, 3) := by decide +kernel
theorem dX8_pack_17 : decode cX8_pack 17 = .ok (.aload_n 0, 1) := by decide +kernel
theorem dX8_pack_18 : decode cX8_pack 18 = .ok (.getfield 71, 3) := by decide +kernel
theorem dX8_pack_21 : decode cX8_pack 21 = .ok (.ifCond .le 5, 3) := by decide +kernel
theorem dX8_pack_24 : decode cX8_pack 24 = .ok (.iconst 0, 1) := by decide +kernel
theorem dX8_pack_25 : decode cX8_pack 25 = .ok (.ireturn, 1) := by decide +kernel
theorem dX8_pack_26 : decode cX8_pack 26 = .ok (.aload_n 0, 1) := by decide +kernel
theorem dX8_pack_27 : decode cX8_pack 27 = .ok (.aload_n 0, 1) := by decide +kernel
theorem dX8_pack_28 : decode cX8_pack 28 = .ok (.getfield 14, 3) := by decide +kernel
theorem dX8_pack_31 : decode cX8_pack 31 = .ok (.iload_n 1, 1) := by decide +kernel
theorem dX8_pack_32 : decode cX8_pack 32 = .ok (.invokevirtual 260, 3) := by decide +kernel
theorem dX8_pack_35 : decode cX8_pack 35 = .ok (.istore_n 2, 1) := by decide +kernel
theorem dX8_pack_36 : decode cX8_pack 36 = .ok (.aload_n 0, 1) := by decide +kernel
theorem dX8_pack_37 : decode cX8_pack 37 = .ok (.iload_n 2, 1) := by decide +kernel
theorem dX8_pack_38 : decode cX8_pack 38 = .ok (.ifCond .eq 10, 3) := by decide +kernel
theorem dX8_pack_41 : decode cX8_pack 41 = .ok (.aload_n 0, 1) := by decide +kernel
theorem dX8_pack_42 : decode cX8_pack 42 = .ok (.getfield 202, 3) := by decide +kernel
theorem dX8_pack_45 : decode cX8_pack 45 = .ok (.goto 4, 3) := by decide +kernel
theorem dX8_pack_48 : decode cX8_pack 48 = .ok (.iconst 0, 1) := by decide +kernel
theorem dX8_pack_49 : decode cX8_pack 49 = .ok (.putfield 263, 3) := by decide +kernel
theorem dX8_pack_52 : decode cX8_pack 52 = .ok (.aload_n 0, 1) := by decide +kernel
theorem dX8_pack_53 : decode cX8_pack 53 = .ok (.iload_n 2, 1) := by decide +kernel
theorem dX8_pack_54 : decode cX8_pack 54 = .ok (.ifCond .eq 7, 3) := by decide +kernel
theorem dX8_pack_57 : decode cX8_pack 57 = .ok (.iconst 0, 1) := by decide +kernel
theorem dX8_pack_58 : decode cX8_pack 58 = .ok (.goto 4, 3) := by decide +kernel
theorem dX8_pack_61 : decode cX8_pack 61 = .ok (.iconst 2, 1) := by decide +kernel
theorem dX8_pack_62 : decode cX8_pack 62 = .ok (.putfield 71, 3) := by decide +kernel
theorem dX8_pack_65 : decode cX8_pack 65 = .ok (.aload_n 0, 1) := by decide +kernel
theorem dX8_pack_66 : decode cX8_pack 66 = .ok (.getfield 263, 3) := by decide +kernel
theorem dX8_pack_69 : decode cX8_pack 69 = .ok (.ireturn, 1) := by decide +kernel
theorem dX8_shown_0 : decode cX8_shown 0 = .ok (.aload_n 0, 1) := by decide +kernel
theorem dX8_shown_1 : decode cX8_shown 1 = .ok (.iload_n 1, 1) := by decide +kernel
theorem dX8_shown_2 : decode cX8_shown 2 = .ok (.ifCond .lt 15, 3) := by decide +kernel
theorem dX8_shown_5 : decode cX8_shown 5 = .ok (.iload_n 1, 1) := by decide +kernel
theorem dX8_shown_6 : decode cX8_shown 6 = .ok (.aload_n 0, 1) := by decide +kernel
theorem dX8_shown_7 : decode cX8_shown 7 = .ok (.getfield 263, 3) := by decide +kernel
theorem dX8_shown_10 : decode cX8_shown 10 = .ok (.if_icmp .ge 7, 3) := by decide +kernel
theorem dX8_shown_13 : decode cX8_shown 13 = .ok (.iconst 0, 1) := by decide +kernel
theorem dX8_shown_14 : decode cX8_shown 14 = .ok (.goto 4, 3) := by decide +kernel
theorem dX8_shown_17 : decode cX8_shown 17 = .ok (.iconst 1, 1) := by decide +kernel
theorem dX8_shown_18 : decode cX8_shown 18 = .ok (.putfield 71, 3) := by decide +kernel
theorem dX8_shown_21 : decode cX8_shown 21 = .ok (.aload_n 0, 1) := by decide +kernel
theorem dX8_shown_22 : decode cX8_shown 22 = .ok (.getfield 71, 3) := by decide +kernel
theorem dX8_shown_25 : decode cX8_shown 25 = .ok (.ifCond .le 7, 3) := by decide +kernel
theorem dX8_shown_28 : decode cX8_shown 28 = .ok (.iconst 0, 1) := by decide +kernel
theorem dX8_shown_29 : decode cX8_shown 29 = .ok (.goto 13, 3) := by decide +kernel
theorem dX8_shown_32 : decode cX8_shown 32 = .ok (.aload_n 0, 1) := by decide +kernel
theorem dX8_shown_33 : decode cX8_shown 33 = .ok (.getfield 14, 3) := by decide +kernel
theorem dX8_shown_36 : decode cX8_shown 36 = .ok (.iload_n 1, 1) := by decide +kernel
theorem dX8_shown_37 : decode cX8_shown 37 = .ok (.baload, 1) := by decide +kernel
theorem dX8_shown_38 : decode cX8_shown 38 = .ok (.sipush 255, 3) := by decide +kernel
theorem dX8_shown_41 : decode cX8_shown 41 = .ok (.iand, 1) := by decide +kernel
theorem dX8_shown_42 : decode cX8_shown 42 = .ok (.ireturn, 1) := by decide +kernel
theorem dX8_isSamePacked_0 : decode cX8_isSamePacked 0 = .ok (.iload_n 1, 1) := by decide +kernel
theorem dX8_isSamePacked_1 : decode cX8_isSamePacked 1 = .ok (.iload_n 2, 1) := by decide +kernel
theorem dX8_isSamePacked_2 : decode cX8_isSamePacked 2 = .ok (.if_icmp .ne 7, 3) := by decide +kernel
theorem dX8_isSamePacked_5 : decode cX8_isSamePacked 5 = .ok (.iconst 1, 1) := by decide +kernel
theorem dX8_isSamePacked_6 : decode cX8_isSamePacked 6 = .ok (.goto 4, 3) := by decide +kernel
theorem dX8_isSamePacked_9 : decode cX8_isSamePacked 9 = .ok (.iconst 0, 1) := by decide +kernel
theorem dX8_isSamePacked_10 : decode cX8_isSamePacked 10 = .ok (.istore_n 3, 1) := by decide +kernel
theorem dX8_isSamePacked_11 : decode cX8_isSamePacked 11 = .ok (.iconst 0, 1) := by decide +kernel
theorem dX8_isSamePacked_12 : decode cX8_isSamePacked 12 = .ok (.istore 4, 2) := by decide +kernel
theorem dX8_isSamePacked_14 : decode cX8_isSamePacked 14 = .ok (.iload 4, 2) := by decide +kernel
theorem dX8_isSamePacked_16 : decode cX8_isSamePacked 16 = .ok (.iload_n 1, 1) := by decide +kernel
theorem dX8_isSamePacked_17 : decode cX8_isSamePacked 17 = .ok (.if_icmp .ge 36, 3) := by decide +kernel
theorem dX8_isSamePacked_20 : decode cX8_isSamePacked 20 = .ok (.iload_n 3, 1) := by decide +kernel
theorem dX8_isSamePacked_21 : decode cX8_isSamePacked 21 = .ok (.ifCond .eq 32, 3) := by decide +kernel
theorem dX8_isSamePacked_24 : decode cX8_isSamePacked 24 = .ok (.aload_n 0, 1) := by decide +kernel
theorem dX8_isSamePacked_25 : decode cX8_isSamePacked 25 = .ok (.getfield 50, 3) := by decide +kernel
theorem dX8_isSamePacked_28 : decode cX8_isSamePacked 28 = .ok (.iload 4, 2) := by decide +kernel
theorem dX8_isSamePacked_30 : decode cX8_isSamePacked 30 = .ok (.baload, 1) := by decide +kernel
theorem dX8_isSamePacked_31 : decode cX8_isSamePacked 31 = .ok (.aload_n 0, 1) := by decide +kernel
theorem dX8_isSamePacked_32 : decode cX8_isSamePacked 32 = .ok (.getfield 53, 3) := by decide +kernel
theorem dX8_isSamePacked_35 : decode cX8_isSamePacked 35 = .ok (.iload 4, 2) := by decide +kernel
theorem dX8_isSamePacked_37 : decode cX8_isSamePacked 37 = .ok (.baload, 1) := by decide +kernel
theorem dX8_isSamePacked_38 : decode cX8_isSamePacked 38 = .ok (.if_icmp .ne 7, 3) := by decide +kernel
theorem dX8_isSamePacked_41 : decode cX8_isSamePacked 41 = .ok (.iconst 1, 1) := by decide +kernel
theorem dX8_isSamePacked_42 : decode cX8_isSamePacked 42 = .ok (.goto 4, 3) := by decide +kernel
theorem dX8_isSamePacked_45 : decode cX8_isSamePacked 45 = .ok (.iconst 0, 1) := by decide +kernel
theorem dX8_isSamePacked_46 : decode cX8_isSamePacked 46 = .ok (.istore_n 3, 1) := by decide +kernel
theorem dX8_isSamePacked_47 : decode cX8_isSamePacked 47 = .ok (.iinc 4 1, 3) := by decide +kernel
theorem dX8_isSamePacked_50 : decode cX8_isSamePacked 50 = .ok (.goto (-36), 3) := by decide +kernel
theorem dX8_isSamePacked_53 : decode cX8_isSamePacked 53 = .ok (.iload_n 3, 1) := by decide +kernel
theorem dX8_isSamePacked_54 : decode cX8_isSamePacked 54 = .ok (.ireturn, 1) := by decide +kernel
theorem dX8_same_0 : decode cX8_same 0 = .ok (.aload_n 0, 1) := by decide +kernel
theorem dX8_same_1 : decode cX8_same 1 = .ok (.aload_n 0, 1) := by decide +kernel
theorem dX8_same_2 : decode cX8_same 2 = .ok (.iload_n 1, 1) := by decide +kernel
theorem dX8_same_3 : decode cX8_same 3 = .ok (.invokevirtual 131, 3) := by decide +kernel
theorem dX8_same_6 : decode cX8_same 6 = .ok (.ifCond .eq 15, 3) := by decide +kernel
theorem dX8_same_9 : decode cX8_same 9 = .ok (.aload_n 0, 1) := by decide +kernel
theorem dX8_same_10 : decode cX8_same 10 = .ok (.iload_n 2, 1) := by decide +kernel
theorem dX8_same_11 : decode cX8_same 11 = .ok (.invokevirtual 131, 3) := by decide +kernel
theorem dX8_same_14 : decode cX8_same 14 = .ok (.ifCond .eq 7, 3) := by decide +kernel
theorem dX8_same_17 : decode cX8_same 17 = .ok (.iconst 0, 1) := by decide +kernel
theorem dX8_same_18 : decode cX8_same 18 = .ok (.goto 4, 3) := by decide +kernel
theorem dX8_same_21 : decode cX8_same 21 = .ok (.iconst 1, 1) := by decide +kernel
theorem dX8_same_22 : decode cX8_same 22 = .ok (.putfield 71, 3) := by decide +kernel
theorem dX8_same_25 : decode cX8_same 25 = .ok (.aload_n 0, 1) := by decide +kernel
theorem dX8_same_26 : decode cX8_same 26 = .ok (.getfield 71, 3) := by decide +kernel
theorem dX8_same_29 : decode cX8_same 29 = .ok (.ifCond .le 5, 3) := by decide +kernel
theorem dX8_same_32 : decode cX8_same 32 = .ok (.iconst 0, 1) := by decide +kernel
theorem dX8_same_33 : decode cX8_same 33 = .ok (.ireturn, 1) := by decide +kernel
theorem dX8_same_34 : decode cX8_same 34 = .ok (.aload_n 0, 1) := by decide +kernel
theorem dX8_same_35 : decode cX8_same 35 = .ok (.aload_n 0, 1) := by decide +kernel
theorem dX8_same_36 : decode cX8_same 36 = .ok (.getfield 50, 3) := by decide +kernel
theorem dX8_same_39 : decode cX8_same 39 = .ok (.iload_n 1, 1) := by decide +kernel
theorem dX8_same_40 : decode cX8_same 40 = .ok (.invokevirtual 260, 3) := by decide +kernel
theorem dX8_same_43 : decode cX8_same 43 = .ok (.istore_n 3, 1) := by decide +kernel
theorem dX8_same_44 : decode cX8_same 44 = .ok (.aload_n 0, 1) := by decide +kernel
theorem dX8_same_45 : decode cX8_same 45 = .ok (.getfield 202, 3) := by decide +kernel
theorem dX8_same_48 : decode cX8_same 48 = .ok (.istore 4, 2) := by decide +kernel
theorem dX8_same_50 : decode cX8_same 50 = .ok (.aload_n 0, 1) := by decide +kernel
theorem dX8_same_51 : decode cX8_same 51 = .ok (.aload_n 0, 1) := by decide +kernel
theorem dX8_same_52 : decode cX8_same 52 = .ok (.getfield 53, 3) := by decide +kernel
theorem dX8_same_55 : decode cX8_same 55 = .ok (.iload_n 2, 1) := by decide +kernel
theorem dX8_same_56 : decode cX8_same 56 = .ok (.invokevirtual 260, 3) := by decide +kernel
theorem dX8_same_59 : decode cX8_same 59 = .ok (.istore 5, 2) := by decide +kernel
theorem dX8_same_61 : decode cX8_same 61 = .ok (.aload_n 0, 1) := by decide +kernel
theorem dX8_same_62 : decode cX8_same 62 = .ok (.iload_n 3, 1) := by decide +kernel
theorem dX8_same_63 : decode cX8_same 63 = .ok (.ifCond .eq 12, 3) := by decide +kernel
theorem dX8_same_66 : decode cX8_same 66 = .ok (.iload 5, 2) := by decide +kernel
theorem dX8_same_68 : decode cX8_same 68 = .ok (.ifCond .eq 7, 3) := by decide +kernel
theorem dX8_same_71 : decode cX8_same 71 = .ok (.iconst 0, 1) := by decide +kernel
theorem dX8_same_72 : decode cX8_same 72 = .ok (.goto 4, 3) := by decide +kernel
theorem dX8_same_75 : decode cX8_same 75 = .ok (.iconst 2, 1) := by decide +kernel
theorem dX8_same_76 : decode cX8_same 76 = .ok (.putfield 71, 3) := by decide +kernel
theorem dX8_same_79 : decode cX8_same 79 = .ok (.aload_n 0, 1) := by decide +kernel
theorem dX8_same_80 : decode cX8_same 80 = .ok (.getfield 71, 3) := by decide +kernel
theorem dX8_same_83 : decode cX8_same 83 = .ok (.ifCond .ne 20, 3) := by decide +kernel
theorem dX8_same_86 : decode cX8_same 86 = .ok (.aload_n 0, 1) := by decide +kernel
theorem dX8_same_87 : decode cX8_same 87 = .ok (.iload 4, 2) := by decide +kernel
theorem dX8_same_89 : decode cX8_same 89 = .ok (.aload_n 0, 1) := by decide +kernel
theorem dX8_same_90 : decode cX8_same 90 = .ok (.getfield 202, 3) := by decide +kernel
theorem dX8_same_93 : decode cX8_same 93 = .ok (.invokevirtual 266, 3) := by decide +kernel
theorem dX8_same_96 : decode cX8_same 96 = .ok (.ifCond .eq 7, 3) := by decide +kernel
theorem dX8_same_99 : decode cX8_same 99 = .ok (.iconst 1, 1) := by decide +kernel
theorem dX8_same_100 : decode cX8_same 100 = .ok (.goto 4, 3) := by decide +kernel
theorem dX8_same_103 : decode cX8_same 103 = .ok (.iconst 0, 1) := by decide +kernel
theorem dX8_same_104 : decode cX8_same 104 = .ok (.ireturn, 1) := by decide +kernel
theorem dX8_find_0 : decode cX8_find 0 = .ok (.aload_n 0, 1) := by decide +kernel
theorem dX8_find_1 : decode cX8_find 1 = .ok (.aload_n 0, 1) := by decide +kernel
theorem dX8_find_2 : decode cX8_find 2 = .ok (.iload_n 1, 1) := by decide +kernel
theorem dX8_find_3 : decode cX8_find 3 = .ok (.invokevirtual 131, 3) := by decide +kernel
theorem dX8_find_6 : decode cX8_find 6 = .ok (.ifCond .eq 11, 3) := by decide +kernel
theorem dX8_find_9 : decode cX8_find 9 = .ok (.aload_n 0, 1) := by decide +kernel
theorem dX8_find_10 : decode cX8_find 10 = .ok (.iload_n 2, 1) := by decide +kernel
theorem dX8_find_11 : decode cX8_find 11 = .ok (.invokevirtual 131, 3) := by decide +kernel
theorem dX8_find_14 : decode cX8_find 14 = .ok (.ifCond .ne 7, 3) := by decide +kernel
theorem dX8_find_17 : decode cX8_find 17 = .ok (.iconst 1, 1) := by decide +kernel
theorem dX8_find_18 : decode cX8_find 18 = .ok (.goto 35, 3) := by decide +kernel
theorem dX8_find_21 : decode cX8_find 21 = .ok (.aload_n 0, 1) := by decide +kernel
theorem dX8_find_22 : decode cX8_find 22 = .ok (.getfield 17, 3) := by decide +kernel
theorem dX8_find_25 : decode cX8_find 25 = .ok (.iload_n 1, 1) := by decide +kernel
theorem dX8_find_26 : decode cX8_find 26 = .ok (.iaload, 1) := by decide +kernel
theorem dX8_find_27 : decode cX8_find 27 = .ok (.bipush 8, 2) := by decide +kernel
theorem dX8_find_29 : decode cX8_find 29 = .ok (.if_icmp .eq 7, 3) := by decide +kernel
theorem dX8_find_32 : decode cX8_find 32 = .ok (.iconst 2, 1) := by decide +kernel
theorem dX8_find_33 : decode cX8_find 33 = .ok (.goto 20, 3) := by decide +kernel
theorem dX8_find_36 : decode cX8_find 36 = .ok (.aload_n 0, 1) := by decide +kernel
theorem dX8_find_37 : decode cX8_find 37 = .ok (.aload_n 0, 1) := by decide +kernel
theorem dX8_find_38 : decode cX8_find 38 = .ok (.getfield 50, 3) := by decide +kernel
theorem dX8_find_41 : decode cX8_find 41 = .ok (.iload_n 2, 1) := by decide +kernel
theorem dX8_find_42 : decode cX8_find 42 = .ok (.invokevirtual 260, 3) := by decide +kernel
theorem dX8_find_45 : decode cX8_find 45 = .ok (.ifCond .ne 7, 3) := by decide +kernel
theorem dX8_find_48 : decode cX8_find 48 = .ok (.iconst 3, 1) := by decide +kernel
theorem dX8_find_49 : decode cX8_find 49 = .ok (.goto 4, 3) := by decide +kernel
theorem dX8_find_52 : decode cX8_find 52 = .ok (.iconst 0, 1) := by decide +kernel
theorem dX8_find_53 : decode cX8_find 53 = .ok (.putfield 71, 3) := by decide +kernel
theorem dX8_find_56 : decode cX8_find 56 = .ok (.aload_n 0, 1) := by decide +kernel
theorem dX8_find_57 : decode cX8_find 57 = .ok (.getfield 71, 3) := by decide +kernel
theorem dX8_find_60 : decode cX8_find 60 = .ok (.ifCond .le 5, 3) := by decide +kernel
theorem dX8_find_63 : decode cX8_find 63 = .ok (.iconst 0, 1) := by decide +kernel
theorem dX8_find_64 : decode cX8_find 64 = .ok (.ireturn, 1) := by decide +kernel
theorem dX8_find_65 : decode cX8_find 65 = .ok (.aload_n 0, 1) := by decide +kernel
theorem dX8_find_66 : decode cX8_find 66 = .ok (.getfield 202, 3) := by decide +kernel
theorem dX8_find_69 : decode cX8_find 69 = .ok (.istore_n 3, 1) := by decide +kernel
theorem dX8_find_70 : decode cX8_find 70 = .ok (.aload_n 0, 1) := by decide +kernel
theorem dX8_find_71 : decode cX8_find 71 = .ok (.getfield 32, 3) := by decide +kernel
theorem dX8_find_74 : decode cX8_find 74 = .ok (.iload_n 1, 1) := by decide +kernel
theorem dX8_find_75 : decode cX8_find 75 = .ok (.iaload, 1) := by decide +kernel
theorem dX8_find_76 : decode cX8_find 76 = .ok (.istore 4, 2) := by decide +kernel
theorem dX8_find_78 : decode cX8_find 78 = .ok (.iload 4, 2) := by decide +kernel
theorem dX8_find_80 : decode cX8_find 80 = .ok (.ifCond .lt 63, 3) := by decide +kernel
theorem dX8_find_83 : decode cX8_find 83 = .ok (.aload_n 0, 1) := by decide +kernel
theorem dX8_find_84 : decode cX8_find 84 = .ok (.aload_n 0, 1) := by decide +kernel
theorem dX8_find_85 : decode cX8_find 85 = .ok (.getfield 53, 3) := by decide +kernel
theorem dX8_find_88 : decode cX8_find 88 = .ok (.aload_n 0, 1) := by decide +kernel
theorem dX8_find_89 : decode cX8_find 89 = .ok (.getfield 41, 3) := by decide +kernel
theorem dX8_find_92 : decode cX8_find 92 = .ok (.iload 4, 2) := by decide +kernel
theorem dX8_find_94 : decode cX8_find 94 = .ok (.iaload, 1) := by decide +kernel
theorem dX8_find_95 : decode cX8_find 95 = .ok (.invokevirtual 260, 3) := by decide +kernel
theorem dX8_find_98 : decode cX8_find 98 = .ok (.ifCond .eq 28, 3) := by decide +kernel
theorem dX8_find_101 : decode cX8_find 101 = .ok (.aload_n 0, 1) := by decide +kernel
theorem dX8_find_102 : decode cX8_find 102 = .ok (.iload_n 3, 1) := by decide +kernel
theorem dX8_find_103 : decode cX8_find 103 = .ok (.aload_n 0, 1) := by decide +kernel
theorem dX8_find_104 : decode cX8_find 104 = .ok (.getfield 202, 3) := by decide +kernel
theorem dX8_find_107 : decode cX8_find 107 = .ok (.invokevirtual 266, 3) := by decide +kernel
theorem dX8_find_110 : decode cX8_find 110 = .ok (.ifCond .eq 16, 3) := by decide +kernel
theorem dX8_find_113 : decode cX8_find 113 = .ok (.aload_n 0, 1) := by decide +kernel
theorem dX8_find_114 : decode cX8_find 114 = .ok (.getfield 41, 3) := by decide +kernel
theorem dX8_find_117 : decode cX8_find 117 = .ok (.aload_n 0, 1) := by decide +kernel
theorem dX8_find_118 : decode cX8_find 118 = .ok (.getfield 44, 3) := by decide +kernel
theorem dX8_find_121 : decode cX8_find 121 = .ok (.iload 4, 2) := by decide +kernel
theorem dX8_find_123 : decode cX8_find 123 = .ok (.iaload, 1) := by decide +kernel
theorem dX8_find_124 : decode cX8_find 124 = .ok (.iaload, 1) := by decide +kernel
theorem dX8_find_125 : decode cX8_find 125 = .ok (.ireturn, 1) := by decide +kernel
theorem dX8_find_126 : decode cX8_find 126 = .ok (.aload_n 0, 1) := by decide +kernel
theorem dX8_find_127 : decode cX8_find 127 = .ok (.getfield 44, 3) := by decide +kernel
theorem dX8_find_130 : decode cX8_find 130 = .ok (.aload_n 0, 1) := by decide +kernel
theorem dX8_find_131 : decode cX8_find 131 = .ok (.getfield 44, 3) := by decide +kernel
theorem dX8_find_134 : decode cX8_find 134 = .ok (.iload 4, 2) := by decide +kernel
theorem dX8_find_136 : decode cX8_find 136 = .ok (.iaload, 1) := by decide +kernel
theorem dX8_find_137 : decode cX8_find 137 = .ok (.iaload, 1) := by decide +kernel
theorem dX8_find_138 : decode cX8_find 138 = .ok (.istore 4, 2) := by decide +kernel
theorem dX8_find_140 : decode cX8_find 140 = .ok (.goto (-62), 3) := by decide +kernel
theorem dX8_find_143 : decode cX8_find 143 = .ok (.iconst (-1), 1) := by decide +kernel
theorem dX8_find_144 : decode cX8_find 144 = .ok (.ireturn, 1) := by decide +kernel
theorem dX8_feed_0 : decode cX8_feed 0 = .ok (.aload_n 0, 1) := by decide +kernel
theorem dX8_feed_1 : decode cX8_feed 1 = .ok (.aload_n 0, 1) := by decide +kernel
theorem dX8_feed_2 : decode cX8_feed 2 = .ok (.getfield 88, 3) := by decide +kernel
theorem dX8_feed_5 : decode cX8_feed 5 = .ok (.bipush 20, 2) := by decide +kernel
theorem dX8_feed_7 : decode cX8_feed 7 = .ok (.iadd, 1) := by decide +kernel
theorem dX8_feed_8 : decode cX8_feed 8 = .ok (.ldc 7, 2) := by decide +kernel
theorem dX8_feed_10 : decode cX8_feed 10 = .ok (.if_icmp .le 7, 3) := by decide +kernel
theorem dX8_feed_13 : decode cX8_feed 13 = .ok (.iconst 1, 1) := by decide +kernel
theorem dX8_feed_14 : decode cX8_feed 14 = .ok (.goto 4, 3) := by decide +kernel
theorem dX8_feed_17 : decode cX8_feed 17 = .ok (.iconst 0, 1) := by decide +kernel
theorem dX8_feed_18 : decode cX8_feed 18 = .ok (.putfield 71, 3) := by decide +kernel
theorem dX8_feed_21 : decode cX8_feed 21 = .ok (.aload_n 0, 1) := by decide +kernel
theorem dX8_feed_22 : decode cX8_feed 22 = .ok (.getfield 71, 3) := by decide +kernel
theorem dX8_feed_25 : decode cX8_feed 25 = .ok (.ifCond .le 5, 3) := by decide +kernel
theorem dX8_feed_28 : decode cX8_feed 28 = .ok (.iconst 0, 1) := by decide +kernel
theorem dX8_feed_29 : decode cX8_feed 29 = .ok (.ireturn, 1) := by decide +kernel
theorem dX8_feed_30 : decode cX8_feed 30 = .ok (.iconst 0, 1) := by decide +kernel
theorem dX8_feed_31 : decode cX8_feed 31 = .ok (.istore 6, 2) := by decide +kernel
theorem dX8_feed_33 : decode cX8_feed 33 = .ok (.iload 6, 2) := by decide +kernel
theorem dX8_feed_35 : decode cX8_feed 35 = .ok (.bipush 20, 2) := by decide +kernel
theorem dX8_feed_37 : decode cX8_feed 37 = .ok (.if_icmp .ge 83, 3) := by decide +kernel
theorem dX8_feed_40 : decode cX8_feed 40 = .ok (.iload 6, 2) := by decide +kernel
theorem dX8_feed_42 : decode cX8_feed 42 = .ok (.iconst 4, 1) := by decide +kernel
theorem dX8_feed_43 : decode cX8_feed 43 = .ok (.if_icmp .ge 7, 3) := by decide +kernel
theorem dX8_feed_46 : decode cX8_feed 46 = .ok (.iload_n 1, 1) := by decide +kernel
theorem dX8_feed_47 : decode cX8_feed 47 = .ok (.goto 39, 3) := by decide +kernel
theorem dX8_feed_50 : decode cX8_feed 50 = .ok (.iload 6, 2) := by decide +kernel
theorem dX8_feed_52 : decode cX8_feed 52 = .ok (.bipush 8, 2) := by decide +kernel
theorem dX8_feed_54 : decode cX8_feed 54 = .ok (.if_icmp .ge 7, 3) := by decide +kernel
theorem dX8_feed_57 : decode cX8_feed 57 = .ok (.iload_n 2, 1) := by decide +kernel
theorem dX8_feed_58 : decode cX8_feed 58 = .ok (.goto 28, 3) := by decide +kernel
theorem dX8_feed_61 : decode cX8_feed 61 = .ok (.iload 6, 2) := by decide +kernel
theorem dX8_feed_63 : decode cX8_feed 63 = .ok (.bipush 12, 2) := by decide +kernel
theorem dX8_feed_65 : decode cX8_feed 65 = .ok (.if_icmp .ge 7, 3) := by decide +kernel
theorem dX8_feed_68 : decode cX8_feed 68 = .ok (.iload_n 3, 1) := by decide +kernel
theorem dX8_feed_69 : decode cX8_feed 69 = .ok (.goto 17, 3) := by decide +kernel
theorem dX8_feed_72 : decode cX8_feed 72 = .ok (.iload 6, 2) := by decide +kernel
theorem dX8_feed_74 : decode cX8_feed 74 = .ok (.bipush 16, 2) := by decide +kernel
theorem dX8_feed_76 : decode cX8_feed 76 = .ok (.if_icmp .ge 8, 3) := by decide +kernel
theorem dX8_feed_79 : decode cX8_feed 79 = .ok (.iload 4, 2) := by decide +kernel
theorem dX8_feed_81 : decode cX8_feed 81 = .ok (.goto 5, 3) := by decide +kernel
theorem dX8_feed_84 : decode cX8_feed 84 = .ok (.iload 5, 2) := by decide +kernel
theorem dX8_feed_86 : decode cX8_feed 86 = .ok (.istore 7, 2) := by decide +kernel
theorem dX8_feed_88 : decode cX8_feed 88 = .ok (.aload_n 0, 1) := by decide +kernel
theorem dX8_feed_89 : decode cX8_feed 89 = .ok (.getfield 8, 3) := by decide +kernel
theorem dX8_feed_92 : decode cX8_feed 92 = .ok (.aload_n 0, 1) := by decide +kernel
theorem dX8_feed_93 : decode cX8_feed 93 = .ok (.getfield 88, 3) := by decide +kernel
theorem dX8_feed_96 : decode cX8_feed 96 = .ok (.iload 6, 2) := by decide +kernel
theorem dX8_feed_98 : decode cX8_feed 98 = .ok (.iadd, 1) := by decide +kernel
theorem dX8_feed_99 : decode cX8_feed 99 = .ok (.iload 7, 2) := by decide +kernel
theorem dX8_feed_101 : decode cX8_feed 101 = .ok (.bipush 24, 2) := by decide +kernel
theorem dX8_feed_103 : decode cX8_feed 103 = .ok (.bipush 8, 2) := by decide +kernel
theorem dX8_feed_105 : decode cX8_feed 105 = .ok (.iload 6, 2) := by decide +kernel
theorem dX8_feed_107 : decode cX8_feed 107 = .ok (.iconst 4, 1) := by decide +kernel
theorem dX8_feed_108 : decode cX8_feed 108 = .ok (.irem, 1) := by decide +kernel
theorem dX8_feed_109 : decode cX8_feed 109 = .ok (.imul, 1) := by decide +kernel
theorem dX8_feed_110 : decode cX8_feed 110 = .ok (.isub, 1) := by decide +kernel
theorem dX8_feed_111 : decode cX8_feed 111 = .ok (.ishr, 1) := by decide +kernel
theorem dX8_feed_112 : decode cX8_feed 112 = .ok (.i2b, 1) := by decide +kernel
theorem dX8_feed_113 : decode cX8_feed 113 = .ok (.bastore, 1) := by decide +kernel
theorem dX8_feed_114 : decode cX8_feed 114 = .ok (.iinc 6 1, 3) := by decide +kernel
theorem dX8_feed_117 : decode cX8_feed 117 = .ok (.goto (-84), 3) := by decide +kernel
theorem dX8_feed_120 : decode cX8_feed 120 = .ok (.aload_n 0, 1) := by decide +kernel
theorem dX8_feed_121 : decode cX8_feed 121 = .ok (.aload_n 0, 1) := by decide +kernel
theorem dX8_feed_122 : decode cX8_feed 122 = .ok (.getfield 88, 3) := by decide +kernel
theorem dX8_feed_125 : decode cX8_feed 125 = .ok (.bipush 20, 2) := by decide +kernel
theorem dX8_feed_127 : decode cX8_feed 127 = .ok (.iadd, 1) := by decide +kernel
theorem dX8_feed_128 : decode cX8_feed 128 = .ok (.putfield 88, 3) := by decide +kernel
theorem dX8_feed_131 : decode cX8_feed 131 = .ok (.aload_n 0, 1) := by decide +kernel
theorem dX8_feed_132 : decode cX8_feed 132 = .ok (.getfield 88, 3) := by decide +kernel
theorem dX8_feed_135 : decode cX8_feed 135 = .ok (.ireturn, 1) := by decide +kernel
theorem dX8_end_0 : decode cX8_end 0 = .ok (.aload_n 0, 1) := by decide +kernel
theorem dX8_end_1 : decode cX8_end 1 = .ok (.iload_n 1, 1) := by decide +kernel
theorem dX8_end_2 : decode cX8_end 2 = .ok (.ifCond .lt 15, 3) := by decide +kernel
theorem dX8_end_5 : decode cX8_end 5 = .ok (.iload_n 1, 1) := by decide +kernel
theorem dX8_end_6 : decode cX8_end 6 = .ok (.aload_n 0, 1) := by decide +kernel
theorem dX8_end_7 : decode cX8_end 7 = .ok (.getfield 88, 3) := by decide +kernel
theorem dX8_end_10 : decode cX8_end 10 = .ok (.if_icmp .gt 7, 3) := by decide +kernel
theorem dX8_end_13 : decode cX8_end 13 = .ok (.iconst 0, 1) := by decide +kernel
theorem dX8_end_14 : decode cX8_end 14 = .ok (.goto 4, 3) := by decide +kernel
theorem dX8_end_17 : decode cX8_end 17 = .ok (.iconst 1, 1) := by decide +kernel
theorem dX8_end_18 : decode cX8_end 18 = .ok (.putfield 71, 3) := by decide +kernel
theorem dX8_end_21 : decode cX8_end 21 = .ok (.aload_n 0, 1) := by decide +kernel
theorem dX8_end_22 : decode cX8_end 22 = .ok (.aload_n 0, 1) := by decide +kernel
theorem dX8_end_23 : decode cX8_end 23 = .ok (.getfield 71, 3) := by decide +kernel
theorem dX8_end_26 : decode cX8_end 26 = .ok (.ifCond .le 10, 3) := by decide +kernel
theorem dX8_end_29 : decode cX8_end 29 = .ok (.aload_n 0, 1) := by decide +kernel
theorem dX8_end_30 : decode cX8_end 30 = .ok (.getfield 88, 3) := by decide +kernel
theorem dX8_end_33 : decode cX8_end 33 = .ok (.goto 4, 3) := by decide +kernel
theorem dX8_end_36 : decode cX8_end 36 = .ok (.iload_n 1, 1) := by decide +kernel
theorem dX8_end_37 : decode cX8_end 37 = .ok (.putfield 88, 3) := by decide +kernel
theorem dX8_end_40 : decode cX8_end 40 = .ok (.return_, 1) := by decide +kernel
theorem dX8_about_0 : decode cX8_about 0 = .ok (.aload_n 0, 1) := by decide +kernel
theorem dX8_about_1 : decode cX8_about 1 = .ok (.aload_n 0, 1) := by decide +kernel
theorem dX8_about_2 : decode cX8_about 2 = .ok (.iload_n 1, 1) := by decide +kernel
theorem dX8_about_3 : decode cX8_about 3 = .ok (.invokevirtual 131, 3) := by decide +kernel
theorem dX8_about_6 : decode cX8_about 6 = .ok (.ifCond .ne 7, 3) := by decide +kernel
theorem dX8_about_9 : decode cX8_about 9 = .ok (.iconst 1, 1) := by decide +kernel
theorem dX8_about_10 : decode cX8_about 10 = .ok (.goto 17, 3) := by decide +kernel
theorem dX8_about_13 : decode cX8_about 13 = .ok (.iload_n 2, 1) := by decide +kernel
theorem dX8_about_14 : decode cX8_about 14 = .ok (.ifCond .lt 8, 3) := by decide +kernel
theorem dX8_about_17 : decode cX8_about 17 = .ok (.iload_n 2, 1) := by decide +kernel
theorem dX8_about_18 : decode cX8_about 18 = .ok (.iconst 3, 1) := by decide +kernel
theorem dX8_about_19 : decode cX8_about 19 = .ok (.if_icmp .le 7, 3) := by decide +kernel
theorem dX8_about_22 : decode cX8_about 22 = .ok (.iconst 2, 1) := by decide +kernel
theorem dX8_about_23 : decode cX8_about 23 = .ok (.goto 4, 3) := by decide +kernel
theorem dX8_about_26 : decode cX8_about 26 = .ok (.iconst 0, 1) := by decide +kernel
theorem dX8_about_27 : decode cX8_about 27 = .ok (.putfield 71, 3) := by decide +kernel
theorem dX8_about_30 : decode cX8_about 30 = .ok (.aload_n 0, 1) := by decide +kernel
theorem dX8_about_31 : decode cX8_about 31 = .ok (.getfield 71, 3) := by decide +kernel
theorem dX8_about_34 : decode cX8_about 34 = .ok (.ifCond .le 5, 3) := by decide +kernel
theorem dX8_about_37 : decode cX8_about 37 = .ok (.iconst 0, 1) := by decide +kernel
theorem dX8_about_38 : decode cX8_about 38 = .ok (.ireturn, 1) := by decide +kernel
theorem dX8_about_39 : decode cX8_about 39 = .ok (.iload_n 2, 1) := by decide +kernel
theorem dX8_about_40 : decode cX8_about 40 = .ok (.iconst 3, 1) := by decide +kernel
theorem dX8_about_41 : decode cX8_about 41 = .ok (.if_icmp .ne 36, 3) := by decide +kernel
theorem dX8_about_44 : decode cX8_about 44 = .ok (.aload_n 0, 1) := by decide +kernel
theorem dX8_about_45 : decode cX8_about 45 = .ok (.getfield 17, 3) := by decide +kernel
theorem dX8_about_48 : decode cX8_about 48 = .ok (.iload_n 1, 1) := by decide +kernel
theorem dX8_about_49 : decode cX8_about 49 = .ok (.iaload, 1) := by decide +kernel
theorem dX8_about_50 : decode cX8_about 50 = .ok (.invokestatic 100, 3) := by decide +kernel
theorem dX8_about_53 : decode cX8_about 53 = .ok (.ifCond .ne 22, 3) := by decide +kernel
theorem dX8_about_56 : decode cX8_about 56 = .ok (.aload_n 0, 1) := by decide +kernel
theorem dX8_about_57 : decode cX8_about 57 = .ok (.aload_n 0, 1) := by decide +kernel
theorem dX8_about_58 : decode cX8_about 58 = .ok (.getfield 50, 3) := by decide +kernel
theorem dX8_about_61 : decode cX8_about 61 = .ok (.iload_n 1, 1) := by decide +kernel
theorem dX8_about_62 : decode cX8_about 62 = .ok (.invokevirtual 260, 3) := by decide +kernel
theorem dX8_about_65 : decode cX8_about 65 = .ok (.ifCond .eq 10, 3) := by decide +kernel
theorem dX8_about_68 : decode cX8_about 68 = .ok (.aload_n 0, 1) := by decide +kernel
theorem dX8_about_69 : decode cX8_about 69 = .ok (.getfield 202, 3) := by decide +kernel
theorem dX8_about_72 : decode cX8_about 72 = .ok (.goto 4, 3) := by decide +kernel
theorem dX8_about_75 : decode cX8_about 75 = .ok (.iconst 0, 1) := by decide +kernel
theorem dX8_about_76 : decode cX8_about 76 = .ok (.ireturn, 1) := by decide +kernel
theorem dX8_about_77 : decode cX8_about 77 = .ok (.iload_n 2, 1) := by decide +kernel
theorem dX8_about_78 : decode cX8_about 78 = .ok (.ifCond .ne 12, 3) := by decide +kernel
theorem dX8_about_81 : decode cX8_about 81 = .ok (.aload_n 0, 1) := by decide +kernel
theorem dX8_about_82 : decode cX8_about 82 = .ok (.getfield 17, 3) := by decide +kernel
theorem dX8_about_85 : decode cX8_about 85 = .ok (.iload_n 1, 1) := by decide +kernel
theorem dX8_about_86 : decode cX8_about 86 = .ok (.iaload, 1) := by decide +kernel
theorem dX8_about_87 : decode cX8_about 87 = .ok (.goto 23, 3) := by decide +kernel
theorem dX8_about_90 : decode cX8_about 90 = .ok (.iload_n 2, 1) := by decide +kernel
theorem dX8_about_91 : decode cX8_about 91 = .ok (.iconst 1, 1) := by decide +kernel
theorem dX8_about_92 : decode cX8_about 92 = .ok (.if_icmp .ne 12, 3) := by decide +kernel
theorem dX8_about_95 : decode cX8_about 95 = .ok (.aload_n 0, 1) := by decide +kernel
theorem dX8_about_96 : decode cX8_about 96 = .ok (.getfield 38, 3) := by decide +kernel
theorem dX8_about_99 : decode cX8_about 99 = .ok (.iload_n 1, 1) := by decide +kernel
theorem dX8_about_100 : decode cX8_about 100 = .ok (.iaload, 1) := by decide +kernel
theorem dX8_about_101 : decode cX8_about 101 = .ok (.goto 9, 3) := by decide +kernel
theorem dX8_about_104 : decode cX8_about 104 = .ok (.aload_n 0, 1) := by decide +kernel
theorem dX8_about_105 : decode cX8_about 105 = .ok (.getfield 29, 3) := by decide +kernel
theorem dX8_about_108 : decode cX8_about 108 = .ok (.iload_n 1, 1) := by decide +kernel
theorem dX8_about_109 : decode cX8_about 109 = .ok (.iaload, 1) := by decide +kernel
theorem dX8_about_110 : decode cX8_about 110 = .ok (.ireturn, 1) := by decide +kernel
theorem dX8_number__0 : decode cX8_number_ 0 = .ok (.aload_n 0, 1) := by decide +kernel
theorem dX8_number__1 : decode cX8_number_ 1 = .ok (.iload_n 1, 1) := by decide +kernel
theorem dX8_number__2 : decode cX8_number_ 2 = .ok (.invokevirtual 131, 3) := by decide +kernel
theorem dX8_number__5 : decode cX8_number_ 5 = .ok (.ifCond .eq 48, 3) := by decide +kernel
theorem dX8_number__8 : decode cX8_number_ 8 = .ok (.aload_n 0, 1) := by decide +kernel
theorem dX8_number__9 : decode cX8_number_ 9 = .ok (.getfield 17, 3) := by decide +kernel
theorem dX8_number__12 : decode cX8_number_ 12 = .ok (.iload_n 1, 1) := by decide +kernel
theorem dX8_number__13 : decode cX8_number_ 13 = .ok (.iaload, 1) := by decide +kernel
theorem dX8_number__14 : decode cX8_number_ 14 = .ok (.iconst 2, 1) := by decide +kernel
theorem dX8_number__15 : decode cX8_number_ 15 = .ok (.if_icmp .eq 34, 3) := by decide +kernel
theorem dX8_number__18 : decode cX8_number_ 18 = .ok (.aload_n 0, 1) := by decide +kernel
theorem dX8_number__19 : decode cX8_number_ 19 = .ok (.getfield 17, 3) := by decide +kernel
theorem dX8_number__22 : decode cX8_number_ 22 = .ok (.iload_n 1, 1) := by decide +kernel
theorem dX8_number__23 : decode cX8_number_ 23 = .ok (.iaload, 1) := by decide +kernel
theorem dX8_number__24 : decode cX8_number_ 24 = .ok (.iconst 3, 1) := by decide +kernel
theorem dX8_number__25 : decode cX8_number_ 25 = .ok (.if_icmp .eq 24, 3) := by decide +kernel
theorem dX8_number__28 : decode cX8_number_ 28 = .ok (.aload_n 0, 1) := by decide +kernel
theorem dX8_number__29 : decode cX8_number_ 29 = .ok (.getfield 17, 3) := by decide +kernel
theorem dX8_number__32 : decode cX8_number_ 32 = .ok (.iload_n 1, 1) := by decide +kernel
theorem dX8_number__33 : decode cX8_number_ 33 = .ok (.iaload, 1) := by decide +kernel
theorem dX8_number__34 : decode cX8_number_ 34 = .ok (.iconst 4, 1) := by decide +kernel
theorem dX8_number__35 : decode cX8_number_ 35 = .ok (.if_icmp .eq 14, 3) := by decide +kernel
theorem dX8_number__38 : decode cX8_number_ 38 = .ok (.aload_n 0, 1) := by decide +kernel
theorem dX8_number__39 : decode cX8_number_ 39 = .ok (.getfield 17, 3) := by decide +kernel
theorem dX8_number__42 : decode cX8_number_ 42 = .ok (.iload_n 1, 1) := by decide +kernel
theorem dX8_number__43 : decode cX8_number_ 43 = .ok (.iaload, 1) := by decide +kernel
theorem dX8_number__44 : decode cX8_number_ 44 = .ok (.bipush 10, 2) := by decide +kernel
theorem dX8_number__46 : decode cX8_number_ 46 = .ok (.if_icmp .ne 7, 3) := by decide +kernel
theorem dX8_number__49 : decode cX8_number_ 49 = .ok (.iconst 1, 1) := by decide +kernel
theorem dX8_number__50 : decode cX8_number_ 50 = .ok (.goto 4, 3) := by decide +kernel
theorem dX8_number__53 : decode cX8_number_ 53 = .ok (.iconst 0, 1) := by decide +kernel
theorem dX8_number__54 : decode cX8_number_ 54 = .ok (.istore_n 2, 1) := by decide +kernel
theorem dX8_number__55 : decode cX8_number_ 55 = .ok (.aload_n 0, 1) := by decide +kernel
theorem dX8_number__56 : decode cX8_number_ 56 = .ok (.aload_n 0, 1) := by decide +kernel
theorem dX8_number__57 : decode cX8_number_ 57 = .ok (.iload_n 1, 1) := by decide +kernel
theorem dX8_number__58 : decode cX8_number_ 58 = .ok (.invokevirtual 131, 3) := by decide +kernel
theorem dX8_number__61 : decode cX8_number_ 61 = .ok (.ifCond .ne 7, 3) := by decide +kernel
theorem dX8_number__64 : decode cX8_number_ 64 = .ok (.iconst 1, 1) := by decide +kernel
theorem dX8_number__65 : decode cX8_number_ 65 = .ok (.goto 25, 3) := by decide +kernel
theorem dX8_number__68 : decode cX8_number_ 68 = .ok (.iload_n 2, 1) := by decide +kernel
theorem dX8_number__69 : decode cX8_number_ 69 = .ok (.ifCond .ne 7, 3) := by decide +kernel
theorem dX8_number__72 : decode cX8_number_ 72 = .ok (.iconst 2, 1) := by decide +kernel
theorem dX8_number__73 : decode cX8_number_ 73 = .ok (.goto 17, 3) := by decide +kernel
theorem dX8_number__76 : decode cX8_number_ 76 = .ok (.aload_n 0, 1) := by decide +kernel
theorem dX8_number__77 : decode cX8_number_ 77 = .ok (.getfield 25, 3) := by decide +kernel
theorem dX8_number__80 : decode cX8_number_ 80 = .ok (.iload_n 1, 1) := by decide +kernel
theorem dX8_number__81 : decode cX8_number_ 81 = .ok (.baload, 1) := by decide +kernel
theorem dX8_number__82 : decode cX8_number_ 82 = .ok (.ifCond .eq 7, 3) := by decide +kernel
theorem dX8_number__85 : decode cX8_number_ 85 = .ok (.iconst 3, 1) := by decide +kernel
theorem dX8_number__86 : decode cX8_number_ 86 = .ok (.goto 4, 3) := by decide +kernel
theorem dX8_number__89 : decode cX8_number_ 89 = .ok (.iconst 0, 1) := by decide +kernel
theorem dX8_number__90 : decode cX8_number_ 90 = .ok (.putfield 71, 3) := by decide +kernel
theorem dX8_number__93 : decode cX8_number_ 93 = .ok (.aload_n 0, 1) := by decide +kernel
theorem dX8_number__94 : decode cX8_number_ 94 = .ok (.getfield 71, 3) := by decide +kernel
theorem dX8_number__97 : decode cX8_number_ 97 = .ok (.ifCond .le 7, 3) := by decide +kernel
theorem dX8_number__100 : decode cX8_number_ 100 = .ok (.lconst 0, 1) := by decide +kernel
theorem dX8_number__101 : decode cX8_number_ 101 = .ok (.goto 9, 3) := by decide +kernel
theorem dX8_number__104 : decode cX8_number_ 104 = .ok (.aload_n 0, 1) := by decide +kernel
theorem dX8_number__105 : decode cX8_number_ 105 = .ok (.getfield 21, 3) := by decide +kernel
theorem dX8_number__108 : decode cX8_number_ 108 = .ok (.iload_n 1, 1) := by decide +kernel
theorem dX8_number__109 : decode cX8_number_ 109 = .ok (.laload, 1) := by decide +kernel
theorem dX8_number__110 : decode cX8_number_ 110 = .ok (.lreturn, 1) := by decide +kernel
theorem dX8_part_0 : decode cX8_part 0 = .ok (.aload_n 0, 1) := by decide +kernel
theorem dX8_part_1 : decode cX8_part 1 = .ok (.iload_n 1, 1) := by decide +kernel
theorem dX8_part_2 : decode cX8_part 2 = .ok (.invokevirtual 131, 3) := by decide +kernel
theorem dX8_part_5 : decode cX8_part 5 = .ok (.ifCond .ne 7, 3) := by decide +kernel
theorem dX8_part_8 : decode cX8_part 8 = .ok (.iconst 0, 1) := by decide +kernel
theorem dX8_part_9 : decode cX8_part 9 = .ok (.goto 31, 3) := by decide +kernel
theorem dX8_part_12 : decode cX8_part 12 = .ok (.aload_n 0, 1) := by decide +kernel
theorem dX8_part_13 : decode cX8_part 13 = .ok (.getfield 17, 3) := by decide +kernel
theorem dX8_part_16 : decode cX8_part 16 = .ok (.iload_n 1, 1) := by decide +kernel
theorem dX8_part_17 : decode cX8_part 17 = .ok (.iaload, 1) := by decide +kernel
theorem dX8_part_18 : decode cX8_part 18 = .ok (.bipush 8, 2) := by decide +kernel
theorem dX8_part_20 : decode cX8_part 20 = .ok (.if_icmp .ne 14, 3) := by decide +kernel
theorem dX8_part_23 : decode cX8_part 23 = .ok (.iconst 2, 1) := by decide +kernel
theorem dX8_part_24 : decode cX8_part 24 = .ok (.aload_n 0, 1) := by decide +kernel
theorem dX8_part_25 : decode cX8_part 25 = .ok (.getfield 38, 3) := by decide +kernel
theorem dX8_part_28 : decode cX8_part 28 = .ok (.iload_n 1, 1) := by decide +kernel
theorem dX8_part_29 : decode cX8_part 29 = .ok (.iaload, 1) := by decide +kernel
theorem dX8_part_30 : decode cX8_part 30 = .ok (.imul, 1) := by decide +kernel
theorem dX8_part_31 : decode cX8_part 31 = .ok (.goto 9, 3) := by decide +kernel
theorem dX8_part_34 : decode cX8_part 34 = .ok (.aload_n 0, 1) := by decide +kernel
theorem dX8_part_35 : decode cX8_part 35 = .ok (.getfield 38, 3) := by decide +kernel
theorem dX8_part_38 : decode cX8_part 38 = .ok (.iload_n 1, 1) := by decide +kernel
theorem dX8_part_39 : decode cX8_part 39 = .ok (.iaload, 1) := by decide +kernel
theorem dX8_part_40 : decode cX8_part 40 = .ok (.istore_n 3, 1) := by decide +kernel
theorem dX8_part_41 : decode cX8_part 41 = .ok (.aload_n 0, 1) := by decide +kernel
theorem dX8_part_42 : decode cX8_part 42 = .ok (.iload_n 2, 1) := by decide +kernel
theorem dX8_part_43 : decode cX8_part 43 = .ok (.ifCond .lt 12, 3) := by decide +kernel
theorem dX8_part_46 : decode cX8_part 46 = .ok (.iload_n 2, 1) := by decide +kernel
theorem dX8_part_47 : decode cX8_part 47 = .ok (.iload_n 3, 1) := by decide +kernel
theorem dX8_part_48 : decode cX8_part 48 = .ok (.if_icmp .ge 7, 3) := by decide +kernel
theorem dX8_part_51 : decode cX8_part 51 = .ok (.iconst 0, 1) := by decide +kernel
theorem dX8_part_52 : decode cX8_part 52 = .ok (.goto 4, 3) := by decide +kernel
theorem dX8_part_55 : decode cX8_part 55 = .ok (.iconst 1, 1) := by decide +kernel
theorem dX8_part_56 : decode cX8_part 56 = .ok (.putfield 71, 3) := by decide +kernel
theorem dX8_part_59 : decode cX8_part 59 = .ok (.aload_n 0, 1) := by decide +kernel
theorem dX8_part_60 : decode cX8_part 60 = .ok (.getfield 71, 3) := by decide +kernel
theorem dX8_part_63 : decode cX8_part 63 = .ok (.ifCond .le 5, 3) := by decide +kernel
theorem dX8_part_66 : decode cX8_part 66 = .ok (.iconst 0, 1) := by decide +kernel
theorem dX8_part_67 : decode cX8_part 67 = .ok (.ireturn, 1) := by decide +kernel
theorem dX8_part_68 : decode cX8_part 68 = .ok (.aload_n 0, 1) := by decide +kernel
theorem dX8_part_69 : decode cX8_part 69 = .ok (.getfield 17, 3) := by decide +kernel
theorem dX8_part_72 : decode cX8_part 72 = .ok (.iload_n 1, 1) := by decide +kernel
theorem dX8_part_73 : decode cX8_part 73 = .ok (.iaload, 1) := by decide +kernel
theorem dX8_part_74 : decode cX8_part 74 = .ok (.invokestatic 100, 3) := by decide +kernel
theorem dX8_part_77 : decode cX8_part 77 = .ok (.ifCond .ne 21, 3) := by decide +kernel
theorem dX8_part_80 : decode cX8_part 80 = .ok (.aload_n 0, 1) := by decide +kernel
theorem dX8_part_81 : decode cX8_part 81 = .ok (.getfield 47, 3) := by decide +kernel
theorem dX8_part_84 : decode cX8_part 84 = .ok (.aload_n 0, 1) := by decide +kernel
theorem dX8_part_85 : decode cX8_part 85 = .ok (.getfield 32, 3) := by decide +kernel
theorem dX8_part_88 : decode cX8_part 88 = .ok (.iload_n 1, 1) := by decide +kernel
theorem dX8_part_89 : decode cX8_part 89 = .ok (.iaload, 1) := by decide +kernel
theorem dX8_part_90 : decode cX8_part 90 = .ok (.iload_n 2, 1) := by decide +kernel
theorem dX8_part_91 : decode cX8_part 91 = .ok (.iadd, 1) := by decide +kernel
theorem dX8_part_92 : decode cX8_part 92 = .ok (.baload, 1) := by decide +kernel
theorem dX8_part_93 : decode cX8_part 93 = .ok (.sipush 255, 3) := by decide +kernel
theorem dX8_part_96 : decode cX8_part 96 = .ok (.iand, 1) := by decide +kernel
theorem dX8_part_97 : decode cX8_part 97 = .ok (.ireturn, 1) := by decide +kernel
theorem dX8_part_98 : decode cX8_part 98 = .ok (.aload_n 0, 1) := by decide +kernel
theorem dX8_part_99 : decode cX8_part 99 = .ok (.getfield 32, 3) := by decide +kernel
theorem dX8_part_102 : decode cX8_part 102 = .ok (.iload_n 1, 1) := by decide +kernel
theorem dX8_part_103 : decode cX8_part 103 = .ok (.iaload, 1) := by decide +kernel
theorem dX8_part_104 : decode cX8_part 104 = .ok (.istore 4, 2) := by decide +kernel
theorem dX8_part_106 : decode cX8_part 106 = .ok (.iconst 0, 1) := by decide +kernel
theorem dX8_part_107 : decode cX8_part 107 = .ok (.istore 5, 2) := by decide +kernel
theorem dX8_part_109 : decode cX8_part 109 = .ok (.iload 5, 2) := by decide +kernel
theorem dX8_part_111 : decode cX8_part 111 = .ok (.iload_n 2, 1) := by decide +kernel
theorem dX8_part_112 : decode cX8_part 112 = .ok (.if_icmp .ge 18, 3) := by decide +kernel
theorem dX8_part_115 : decode cX8_part 115 = .ok (.aload_n 0, 1) := by decide +kernel
theorem dX8_part_116 : decode cX8_part 116 = .ok (.getfield 44, 3) := by decide +kernel
theorem dX8_part_119 : decode cX8_part 119 = .ok (.iload 4, 2) := by decide +kernel
theorem dX8_part_121 : decode cX8_part 121 = .ok (.iaload, 1) := by decide +kernel
theorem dX8_part_122 : decode cX8_part 122 = .ok (.istore 4, 2) := by decide +kernel
theorem dX8_part_124 : decode cX8_part 124 = .ok (.iinc 5 1, 3) := by decide +kernel
theorem dX8_part_127 : decode cX8_part 127 = .ok (.goto (-18), 3) := by decide +kernel
theorem dX8_part_130 : decode cX8_part 130 = .ok (.aload_n 0, 1) := by decide +kernel
theorem dX8_part_131 : decode cX8_part 131 = .ok (.getfield 41, 3) := by decide +kernel
theorem dX8_part_134 : decode cX8_part 134 = .ok (.iload 4, 2) := by decide +kernel
theorem dX8_part_136 : decode cX8_part 136 = .ok (.iaload, 1) := by decide +kernel
theorem dX8_part_137 : decode cX8_part 137 = .ok (.ireturn, 1) := by decide +kernel
theorem dX8_count_0 : decode cX8_count 0 = .ok (.aload_n 0, 1) := by decide +kernel
theorem dX8_count_1 : decode cX8_count 1 = .ok (.iload_n 1, 1) := by decide +kernel
theorem dX8_count_2 : decode cX8_count 2 = .ok (.ifCond .lt 12, 3) := by decide +kernel
theorem dX8_count_5 : decode cX8_count 5 = .ok (.iload_n 1, 1) := by decide +kernel
theorem dX8_count_6 : decode cX8_count 6 = .ok (.iconst 4, 1) := by decide +kernel
theorem dX8_count_7 : decode cX8_count 7 = .ok (.if_icmp .gt 7, 3) := by decide +kernel
theorem dX8_count_10 : decode cX8_count 10 = .ok (.iconst 0, 1) := by decide +kernel
theorem dX8_count_11 : decode cX8_count 11 = .ok (.goto 4, 3) := by decide +kernel
theorem dX8_count_14 : decode cX8_count 14 = .ok (.iconst 1, 1) := by decide +kernel
theorem dX8_count_15 : decode cX8_count 15 = .ok (.putfield 71, 3) := by decide +kernel
theorem dX8_count_18 : decode cX8_count 18 = .ok (.aload_n 0, 1) := by decide +kernel
theorem dX8_count_19 : decode cX8_count 19 = .ok (.getfield 71, 3) := by decide +kernel
theorem dX8_count_22 : decode cX8_count 22 = .ok (.ifCond .le 5, 3) := by decide +kernel
theorem dX8_count_25 : decode cX8_count 25 = .ok (.iconst 0, 1) := by decide +kernel
theorem dX8_count_26 : decode cX8_count 26 = .ok (.ireturn, 1) := by decide +kernel
theorem dX8_count_27 : decode cX8_count 27 = .ok (.iload_n 1, 1) := by decide +kernel
theorem dX8_count_28 : decode cX8_count 28 = .ok (.ifCond .ne 10, 3) := by decide +kernel
theorem dX8_count_31 : decode cX8_count 31 = .ok (.aload_n 0, 1) := by decide +kernel
theorem dX8_count_32 : decode cX8_count 32 = .ok (.getfield 107, 3) := by decide +kernel
theorem dX8_count_35 : decode cX8_count 35 = .ok (.goto 43, 3) := by decide +kernel
theorem dX8_count_38 : decode cX8_count 38 = .ok (.iload_n 1, 1) := by decide +kernel
theorem dX8_count_39 : decode cX8_count 39 = .ok (.iconst 1, 1) := by decide +kernel
theorem dX8_count_40 : decode cX8_count 40 = .ok (.if_icmp .ne 10, 3) := by decide +kernel
theorem dX8_count_43 : decode cX8_count 43 = .ok (.aload_n 0, 1) := by decide +kernel
theorem dX8_count_44 : decode cX8_count 44 = .ok (.getfield 117, 3) := by decide +kernel
theorem dX8_count_47 : decode cX8_count 47 = .ok (.goto 31, 3) := by decide +kernel
theorem dX8_count_50 : decode cX8_count 50 = .ok (.iload_n 1, 1) := by decide +kernel
theorem dX8_count_51 : decode cX8_count 51 = .ok (.iconst 2, 1) := by decide +kernel
theorem dX8_count_52 : decode cX8_count 52 = .ok (.if_icmp .ne 10, 3) := by decide +kernel
theorem dX8_count_55 : decode cX8_count 55 = .ok (.aload_n 0, 1) := by decide +kernel
theorem dX8_count_56 : decode cX8_count 56 = .ok (.getfield 114, 3) := by decide +kernel
theorem dX8_count_59 : decode cX8_count 59 = .ok (.goto 19, 3) := by decide +kernel
theorem dX8_count_62 : decode cX8_count 62 = .ok (.iload_n 1, 1) := by decide +kernel
theorem dX8_count_63 : decode cX8_count 63 = .ok (.iconst 3, 1) := by decide +kernel
theorem dX8_count_64 : decode cX8_count 64 = .ok (.if_icmp .ne 10, 3) := by decide +kernel
theorem dX8_count_67 : decode cX8_count 67 = .ok (.aload_n 0, 1) := by decide +kernel
theorem dX8_count_68 : decode cX8_count 68 = .ok (.getfield 88, 3) := by decide +kernel
theorem dX8_count_71 : decode cX8_count 71 = .ok (.goto 7, 3) := by decide +kernel
theorem dX8_count_74 : decode cX8_count 74 = .ok (.aload_n 0, 1) := by decide +kernel
theorem dX8_count_75 : decode cX8_count 75 = .ok (.getfield 263, 3) := by decide +kernel
theorem dX8_count_78 : decode cX8_count 78 = .ok (.ireturn, 1) := by decide +kernel
theorem dX8_clear_0 : decode cX8_clear 0 = .ok (.aload_n 0, 1) := by decide +kernel
theorem dX8_clear_1 : decode cX8_clear 1 = .ok (.iconst 0, 1) := by decide +kernel
theorem dX8_clear_2 : decode cX8_clear 2 = .ok (.putfield 71, 3) := by decide +kernel
theorem dX8_clear_5 : decode cX8_clear 5 = .ok (.aload_n 0, 1) := by decide +kernel
theorem dX8_clear_6 : decode cX8_clear 6 = .ok (.getfield 107, 3) := by decide +kernel
theorem dX8_clear_9 : decode cX8_clear 9 = .ok (.istore_n 1, 1) := by decide +kernel
theorem dX8_clear_10 : decode cX8_clear 10 = .ok (.aload_n 0, 1) := by decide +kernel
theorem dX8_clear_11 : decode cX8_clear 11 = .ok (.iconst 0, 1) := by decide +kernel
theorem dX8_clear_12 : decode cX8_clear 12 = .ok (.putfield 107, 3) := by decide +kernel
theorem dX8_clear_15 : decode cX8_clear 15 = .ok (.aload_n 0, 1) := by decide +kernel
theorem dX8_clear_16 : decode cX8_clear 16 = .ok (.iconst 0, 1) := by decide +kernel
theorem dX8_clear_17 : decode cX8_clear 17 = .ok (.putfield 117, 3) := by decide +kernel
theorem dX8_clear_20 : decode cX8_clear 20 = .ok (.aload_n 0, 1) := by decide +kernel
theorem dX8_clear_21 : decode cX8_clear 21 = .ok (.iconst 0, 1) := by decide +kernel
theorem dX8_clear_22 : decode cX8_clear 22 = .ok (.putfield 114, 3) := by decide +kernel
theorem dX8_clear_25 : decode cX8_clear 25 = .ok (.iload_n 1, 1) := by decide +kernel
theorem dX8_clear_26 : decode cX8_clear 26 = .ok (.ireturn, 1) := by decide +kernel
