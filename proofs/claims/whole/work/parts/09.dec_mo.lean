theorem d_MO_init_0 : decode b_MO_init 0 = .ok (.aload_n 0, 1) := by decide +kernel
theorem d_MO_init_1 : decode b_MO_init 1 = .ok (.invokespecial 1, 3) := by decide +kernel
theorem d_MO_init_4 : decode b_MO_init 4 = .ok (.aload_n 0, 1) := by decide +kernel
theorem d_MO_init_5 : decode b_MO_init 5 = .ok (.bipush 24, 2) := by decide +kernel
theorem d_MO_init_7 : decode b_MO_init 7 = .ok (.newarray .int, 2) := by decide +kernel
theorem d_MO_init_9 : decode b_MO_init 9 = .ok (.putfield 7, 3) := by decide +kernel
theorem d_MO_init_12 : decode b_MO_init 12 = .ok (.aload_n 0, 1) := by decide +kernel
theorem d_MO_init_13 : decode b_MO_init 13 = .ok (.bipush 24, 2) := by decide +kernel
theorem d_MO_init_15 : decode b_MO_init 15 = .ok (.newarray .int, 2) := by decide +kernel
theorem d_MO_init_17 : decode b_MO_init 17 = .ok (.putfield 13, 3) := by decide +kernel
theorem d_MO_init_20 : decode b_MO_init 20 = .ok (.aload_n 0, 1) := by decide +kernel
theorem d_MO_init_21 : decode b_MO_init 21 = .ok (.bipush 8, 2) := by decide +kernel
theorem d_MO_init_23 : decode b_MO_init 23 = .ok (.newarray .int, 2) := by decide +kernel
theorem d_MO_init_25 : decode b_MO_init 25 = .ok (.putfield 16, 3) := by decide +kernel
theorem d_MO_init_28 : decode b_MO_init 28 = .ok (.aload_n 0, 1) := by decide +kernel
theorem d_MO_init_29 : decode b_MO_init 29 = .ok (.bipush 8, 2) := by decide +kernel
theorem d_MO_init_31 : decode b_MO_init 31 = .ok (.newarray .int, 2) := by decide +kernel
theorem d_MO_init_33 : decode b_MO_init 33 = .ok (.putfield 19, 3) := by decide +kernel
theorem d_MO_init_36 : decode b_MO_init 36 = .ok (.aload_n 0, 1) := by decide +kernel
theorem d_MO_init_37 : decode b_MO_init 37 = .ok (.bipush 8, 2) := by decide +kernel
theorem d_MO_init_39 : decode b_MO_init 39 = .ok (.newarray .int, 2) := by decide +kernel
theorem d_MO_init_41 : decode b_MO_init 41 = .ok (.putfield 22, 3) := by decide +kernel
theorem d_MO_init_44 : decode b_MO_init 44 = .ok (.aload_n 0, 1) := by decide +kernel
theorem d_MO_init_45 : decode b_MO_init 45 = .ok (.bipush 100, 2) := by decide +kernel
theorem d_MO_init_47 : decode b_MO_init 47 = .ok (.newarray .int, 2) := by decide +kernel
theorem d_MO_init_49 : decode b_MO_init 49 = .ok (.putfield 25, 3) := by decide +kernel
theorem d_MO_init_52 : decode b_MO_init 52 = .ok (.aload_n 0, 1) := by decide +kernel
theorem d_MO_init_53 : decode b_MO_init 53 = .ok (.ldc 28, 2) := by decide +kernel
theorem d_MO_init_55 : decode b_MO_init 55 = .ok (.newarray .int, 2) := by decide +kernel
theorem d_MO_init_57 : decode b_MO_init 57 = .ok (.putfield 29, 3) := by decide +kernel
theorem d_MO_init_60 : decode b_MO_init 60 = .ok (.aload_n 0, 1) := by decide +kernel
theorem d_MO_init_61 : decode b_MO_init 61 = .ok (.bipush 24, 2) := by decide +kernel
theorem d_MO_init_63 : decode b_MO_init 63 = .ok (.newarray .int, 2) := by decide +kernel
theorem d_MO_init_65 : decode b_MO_init 65 = .ok (.putfield 32, 3) := by decide +kernel
theorem d_MO_init_68 : decode b_MO_init 68 = .ok (.aload_n 0, 1) := by decide +kernel
theorem d_MO_init_69 : decode b_MO_init 69 = .ok (.sipush 768, 3) := by decide +kernel
theorem d_MO_init_72 : decode b_MO_init 72 = .ok (.newarray .int, 2) := by decide +kernel
theorem d_MO_init_74 : decode b_MO_init 74 = .ok (.putfield 35, 3) := by decide +kernel
theorem d_MO_init_77 : decode b_MO_init 77 = .ok (.aload_n 0, 1) := by decide +kernel
theorem d_MO_init_78 : decode b_MO_init 78 = .ok (.sipush 768, 3) := by decide +kernel
theorem d_MO_init_81 : decode b_MO_init 81 = .ok (.newarray .int, 2) := by decide +kernel
theorem d_MO_init_83 : decode b_MO_init 83 = .ok (.putfield 38, 3) := by decide +kernel
theorem d_MO_init_86 : decode b_MO_init 86 = .ok (.aload_n 0, 1) := by decide +kernel
theorem d_MO_init_87 : decode b_MO_init 87 = .ok (.sipush 768, 3) := by decide +kernel
theorem d_MO_init_90 : decode b_MO_init 90 = .ok (.newarray .boolean, 2) := by decide +kernel
theorem d_MO_init_92 : decode b_MO_init 92 = .ok (.putfield 41, 3) := by decide +kernel
theorem d_MO_init_95 : decode b_MO_init 95 = .ok (.aload_n 0, 1) := by decide +kernel
theorem d_MO_init_96 : decode b_MO_init 96 = .ok (.bipush 8, 2) := by decide +kernel
theorem d_MO_init_98 : decode b_MO_init 98 = .ok (.newarray .int, 2) := by decide +kernel
theorem d_MO_init_100 : decode b_MO_init 100 = .ok (.putfield 45, 3) := by decide +kernel
theorem d_MO_init_103 : decode b_MO_init 103 = .ok (.aload_n 0, 1) := by decide +kernel
theorem d_MO_init_104 : decode b_MO_init 104 = .ok (.sipush 2048, 3) := by decide +kernel
theorem d_MO_init_107 : decode b_MO_init 107 = .ok (.newarray .int, 2) := by decide +kernel
theorem d_MO_init_109 : decode b_MO_init 109 = .ok (.putfield 48, 3) := by decide +kernel
theorem d_MO_init_112 : decode b_MO_init 112 = .ok (.aload_n 0, 1) := by decide +kernel
theorem d_MO_init_113 : decode b_MO_init 113 = .ok (.sipush 256, 3) := by decide +kernel
theorem d_MO_init_116 : decode b_MO_init 116 = .ok (.newarray .boolean, 2) := by decide +kernel
theorem d_MO_init_118 : decode b_MO_init 118 = .ok (.putfield 51, 3) := by decide +kernel
theorem d_MO_init_121 : decode b_MO_init 121 = .ok (.aload_n 0, 1) := by decide +kernel
theorem d_MO_init_122 : decode b_MO_init 122 = .ok (.iload_n 1, 1) := by decide +kernel
theorem d_MO_init_123 : decode b_MO_init 123 = .ok (.iconst 1, 1) := by decide +kernel
theorem d_MO_init_124 : decode b_MO_init 124 = .ok (.if_icmp .ge 7, 3) := by decide +kernel
theorem d_MO_init_127 : decode b_MO_init 127 = .ok (.iconst 1, 1) := by decide +kernel
theorem d_MO_init_128 : decode b_MO_init 128 = .ok (.goto 17, 3) := by decide +kernel
theorem d_MO_init_131 : decode b_MO_init 131 = .ok (.iload_n 1, 1) := by decide +kernel
theorem d_MO_init_132 : decode b_MO_init 132 = .ok (.sipush 5000, 3) := by decide +kernel
theorem d_MO_init_135 : decode b_MO_init 135 = .ok (.if_icmp .le 9, 3) := by decide +kernel
theorem d_MO_init_138 : decode b_MO_init 138 = .ok (.sipush 5000, 3) := by decide +kernel
theorem d_MO_init_141 : decode b_MO_init 141 = .ok (.goto 4, 3) := by decide +kernel
theorem d_MO_init_144 : decode b_MO_init 144 = .ok (.iload_n 1, 1) := by decide +kernel
theorem d_MO_init_145 : decode b_MO_init 145 = .ok (.putfield 54, 3) := by decide +kernel
theorem d_MO_init_148 : decode b_MO_init 148 = .ok (.return_, 1) := by decide +kernel
theorem d_MO_thrown_0 : decode b_MO_thrown 0 = .ok (.aload_n 0, 1) := by decide +kernel
theorem d_MO_thrown_1 : decode b_MO_thrown 1 = .ok (.getfield 58, 3) := by decide +kernel
theorem d_MO_thrown_4 : decode b_MO_thrown 4 = .ok (.ireturn, 1) := by decide +kernel
theorem d_MO_fault_0 : decode b_MO_fault 0 = .ok (.iload_n 1, 1) := by decide +kernel
theorem d_MO_fault_1 : decode b_MO_fault 1 = .ok (.iconst 0, 1) := by decide +kernel
theorem d_MO_fault_2 : decode b_MO_fault 2 = .ok (.bipush 29, 2) := by decide +kernel
theorem d_MO_fault_4 : decode b_MO_fault 4 = .ok (.invokestatic 64, 3) := by decide +kernel
theorem d_MO_fault_7 : decode b_MO_fault 7 = .ok (.ifCond .eq 27, 3) := by decide +kernel
theorem d_MO_fault_10 : decode b_MO_fault 10 = .ok (.iload_n 2, 1) := by decide +kernel
theorem d_MO_fault_11 : decode b_MO_fault 11 = .ok (.iconst (-1), 1) := by decide +kernel
theorem d_MO_fault_12 : decode b_MO_fault 12 = .ok (.if_icmp .eq 13, 3) := by decide +kernel
theorem d_MO_fault_15 : decode b_MO_fault 15 = .ok (.iload_n 2, 1) := by decide +kernel
theorem d_MO_fault_16 : decode b_MO_fault 16 = .ok (.iconst 0, 1) := by decide +kernel
theorem d_MO_fault_17 : decode b_MO_fault 17 = .ok (.bipush 29, 2) := by decide +kernel
theorem d_MO_fault_19 : decode b_MO_fault 19 = .ok (.invokestatic 64, 3) := by decide +kernel
theorem d_MO_fault_22 : decode b_MO_fault 22 = .ok (.ifCond .eq 12, 3) := by decide +kernel
theorem d_MO_fault_25 : decode b_MO_fault 25 = .ok (.iload_n 1, 1) := by decide +kernel
theorem d_MO_fault_26 : decode b_MO_fault 26 = .ok (.iload_n 2, 1) := by decide +kernel
theorem d_MO_fault_27 : decode b_MO_fault 27 = .ok (.if_icmp .eq 7, 3) := by decide +kernel
theorem d_MO_fault_30 : decode b_MO_fault 30 = .ok (.iconst 1, 1) := by decide +kernel
theorem d_MO_fault_31 : decode b_MO_fault 31 = .ok (.goto 4, 3) := by decide +kernel
theorem d_MO_fault_34 : decode b_MO_fault 34 = .ok (.iconst 0, 1) := by decide +kernel
theorem d_MO_fault_35 : decode b_MO_fault 35 = .ok (.istore_n 3, 1) := by decide +kernel
theorem d_MO_fault_36 : decode b_MO_fault 36 = .ok (.iconst (-1), 1) := by decide +kernel
theorem d_MO_fault_37 : decode b_MO_fault 37 = .ok (.istore 4, 2) := by decide +kernel
theorem d_MO_fault_39 : decode b_MO_fault 39 = .ok (.iconst 0, 1) := by decide +kernel
theorem d_MO_fault_40 : decode b_MO_fault 40 = .ok (.istore 5, 2) := by decide +kernel
theorem d_MO_fault_42 : decode b_MO_fault 42 = .ok (.iload 5, 2) := by decide +kernel
theorem d_MO_fault_44 : decode b_MO_fault 44 = .ok (.aload_n 0, 1) := by decide +kernel
theorem d_MO_fault_45 : decode b_MO_fault 45 = .ok (.getfield 61, 3) := by decide +kernel
theorem d_MO_fault_48 : decode b_MO_fault 48 = .ok (.if_icmp .ge 78, 3) := by decide +kernel
theorem d_MO_fault_51 : decode b_MO_fault 51 = .ok (.aload_n 0, 1) := by decide +kernel
theorem d_MO_fault_52 : decode b_MO_fault 52 = .ok (.getfield 7, 3) := by decide +kernel
theorem d_MO_fault_55 : decode b_MO_fault 55 = .ok (.iload 5, 2) := by decide +kernel
theorem d_MO_fault_57 : decode b_MO_fault 57 = .ok (.iaload, 1) := by decide +kernel
theorem d_MO_fault_58 : decode b_MO_fault 58 = .ok (.iload_n 1, 1) := by decide +kernel
theorem d_MO_fault_59 : decode b_MO_fault 59 = .ok (.if_icmp .ne 14, 3) := by decide +kernel
theorem d_MO_fault_62 : decode b_MO_fault 62 = .ok (.aload_n 0, 1) := by decide +kernel
theorem d_MO_fault_63 : decode b_MO_fault 63 = .ok (.getfield 13, 3) := by decide +kernel
theorem d_MO_fault_66 : decode b_MO_fault 66 = .ok (.iload 5, 2) := by decide +kernel
theorem d_MO_fault_68 : decode b_MO_fault 68 = .ok (.iaload, 1) := by decide +kernel
theorem d_MO_fault_69 : decode b_MO_fault 69 = .ok (.iload_n 2, 1) := by decide +kernel
theorem d_MO_fault_70 : decode b_MO_fault 70 = .ok (.if_icmp .eq 25, 3) := by decide +kernel
theorem d_MO_fault_73 : decode b_MO_fault 73 = .ok (.aload_n 0, 1) := by decide +kernel
theorem d_MO_fault_74 : decode b_MO_fault 74 = .ok (.getfield 7, 3) := by decide +kernel
theorem d_MO_fault_77 : decode b_MO_fault 77 = .ok (.iload 5, 2) := by decide +kernel
theorem d_MO_fault_79 : decode b_MO_fault 79 = .ok (.iaload, 1) := by decide +kernel
theorem d_MO_fault_80 : decode b_MO_fault 80 = .ok (.iload_n 2, 1) := by decide +kernel
theorem d_MO_fault_81 : decode b_MO_fault 81 = .ok (.if_icmp .ne 18, 3) := by decide +kernel
theorem d_MO_fault_84 : decode b_MO_fault 84 = .ok (.aload_n 0, 1) := by decide +kernel
theorem d_MO_fault_85 : decode b_MO_fault 85 = .ok (.getfield 13, 3) := by decide +kernel
theorem d_MO_fault_88 : decode b_MO_fault 88 = .ok (.iload 5, 2) := by decide +kernel
theorem d_MO_fault_90 : decode b_MO_fault 90 = .ok (.iaload, 1) := by decide +kernel
theorem d_MO_fault_91 : decode b_MO_fault 91 = .ok (.iload_n 1, 1) := by decide +kernel
theorem d_MO_fault_92 : decode b_MO_fault 92 = .ok (.if_icmp .ne 7, 3) := by decide +kernel
theorem d_MO_fault_95 : decode b_MO_fault 95 = .ok (.iconst 1, 1) := by decide +kernel
theorem d_MO_fault_96 : decode b_MO_fault 96 = .ok (.goto 4, 3) := by decide +kernel
theorem d_MO_fault_99 : decode b_MO_fault 99 = .ok (.iconst 0, 1) := by decide +kernel
theorem d_MO_fault_100 : decode b_MO_fault 100 = .ok (.istore 6, 2) := by decide +kernel
theorem d_MO_fault_102 : decode b_MO_fault 102 = .ok (.iload_n 3, 1) := by decide +kernel
theorem d_MO_fault_103 : decode b_MO_fault 103 = .ok (.ifCond .eq 13, 3) := by decide +kernel
theorem d_MO_fault_106 : decode b_MO_fault 106 = .ok (.iload 6, 2) := by decide +kernel
theorem d_MO_fault_108 : decode b_MO_fault 108 = .ok (.ifCond .eq 8, 3) := by decide +kernel
theorem d_MO_fault_111 : decode b_MO_fault 111 = .ok (.iload 5, 2) := by decide +kernel
theorem d_MO_fault_113 : decode b_MO_fault 113 = .ok (.goto 5, 3) := by decide +kernel
theorem d_MO_fault_116 : decode b_MO_fault 116 = .ok (.iload 4, 2) := by decide +kernel
theorem d_MO_fault_118 : decode b_MO_fault 118 = .ok (.istore 4, 2) := by decide +kernel
theorem d_MO_fault_120 : decode b_MO_fault 120 = .ok (.iinc 5 1, 3) := by decide +kernel
theorem d_MO_fault_123 : decode b_MO_fault 123 = .ok (.goto (-81), 3) := by decide +kernel
theorem d_MO_fault_126 : decode b_MO_fault 126 = .ok (.aload_n 0, 1) := by decide +kernel
theorem d_MO_fault_127 : decode b_MO_fault 127 = .ok (.iload_n 3, 1) := by decide +kernel
theorem d_MO_fault_128 : decode b_MO_fault 128 = .ok (.iload 4, 2) := by decide +kernel
theorem d_MO_fault_130 : decode b_MO_fault 130 = .ok (.iconst (-1), 1) := by decide +kernel
theorem d_MO_fault_131 : decode b_MO_fault 131 = .ok (.if_icmp .ne 12, 3) := by decide +kernel
theorem d_MO_fault_134 : decode b_MO_fault 134 = .ok (.aload_n 0, 1) := by decide +kernel
theorem d_MO_fault_135 : decode b_MO_fault 135 = .ok (.getfield 61, 3) := by decide +kernel
theorem d_MO_fault_138 : decode b_MO_fault 138 = .ok (.bipush 24, 2) := by decide +kernel
theorem d_MO_fault_140 : decode b_MO_fault 140 = .ok (.if_icmp .ge 7, 3) := by decide +kernel
theorem d_MO_fault_143 : decode b_MO_fault 143 = .ok (.iconst 1, 1) := by decide +kernel
theorem d_MO_fault_144 : decode b_MO_fault 144 = .ok (.goto 4, 3) := by decide +kernel
theorem d_MO_fault_147 : decode b_MO_fault 147 = .ok (.iconst 0, 1) := by decide +kernel
theorem d_MO_fault_148 : decode b_MO_fault 148 = .ok (.invokevirtual 69, 3) := by decide +kernel
theorem d_MO_fault_151 : decode b_MO_fault 151 = .ok (.ifCond .ne 5, 3) := by decide +kernel
theorem d_MO_fault_154 : decode b_MO_fault 154 = .ok (.iconst 0, 1) := by decide +kernel
theorem d_MO_fault_155 : decode b_MO_fault 155 = .ok (.ireturn, 1) := by decide +kernel
theorem d_MO_fault_156 : decode b_MO_fault 156 = .ok (.iload 4, 2) := by decide +kernel
theorem d_MO_fault_158 : decode b_MO_fault 158 = .ok (.iconst (-1), 1) := by decide +kernel
theorem d_MO_fault_159 : decode b_MO_fault 159 = .ok (.if_icmp .eq 6, 3) := by decide +kernel
theorem d_MO_fault_162 : decode b_MO_fault 162 = .ok (.iload 4, 2) := by decide +kernel
theorem d_MO_fault_164 : decode b_MO_fault 164 = .ok (.ireturn, 1) := by decide +kernel
theorem d_MO_fault_165 : decode b_MO_fault 165 = .ok (.aload_n 0, 1) := by decide +kernel
theorem d_MO_fault_166 : decode b_MO_fault 166 = .ok (.getfield 7, 3) := by decide +kernel
theorem d_MO_fault_169 : decode b_MO_fault 169 = .ok (.aload_n 0, 1) := by decide +kernel
theorem d_MO_fault_170 : decode b_MO_fault 170 = .ok (.getfield 61, 3) := by decide +kernel
theorem d_MO_fault_173 : decode b_MO_fault 173 = .ok (.iload_n 1, 1) := by decide +kernel
theorem d_MO_fault_174 : decode b_MO_fault 174 = .ok (.iastore, 1) := by decide +kernel
theorem d_MO_fault_175 : decode b_MO_fault 175 = .ok (.aload_n 0, 1) := by decide +kernel
theorem d_MO_fault_176 : decode b_MO_fault 176 = .ok (.getfield 13, 3) := by decide +kernel
theorem d_MO_fault_179 : decode b_MO_fault 179 = .ok (.aload_n 0, 1) := by decide +kernel
theorem d_MO_fault_180 : decode b_MO_fault 180 = .ok (.getfield 61, 3) := by decide +kernel
theorem d_MO_fault_183 : decode b_MO_fault 183 = .ok (.iload_n 2, 1) := by decide +kernel
theorem d_MO_fault_184 : decode b_MO_fault 184 = .ok (.iastore, 1) := by decide +kernel
theorem d_MO_fault_185 : decode b_MO_fault 185 = .ok (.aload_n 0, 1) := by decide +kernel
theorem d_MO_fault_186 : decode b_MO_fault 186 = .ok (.getfield 32, 3) := by decide +kernel
theorem d_MO_fault_189 : decode b_MO_fault 189 = .ok (.aload_n 0, 1) := by decide +kernel
theorem d_MO_fault_190 : decode b_MO_fault 190 = .ok (.getfield 61, 3) := by decide +kernel
theorem d_MO_fault_193 : decode b_MO_fault 193 = .ok (.iconst 0, 1) := by decide +kernel
theorem d_MO_fault_194 : decode b_MO_fault 194 = .ok (.iastore, 1) := by decide +kernel
theorem d_MO_fault_195 : decode b_MO_fault 195 = .ok (.aload_n 0, 1) := by decide +kernel
theorem d_MO_fault_196 : decode b_MO_fault 196 = .ok (.dup, 1) := by decide +kernel
theorem d_MO_fault_197 : decode b_MO_fault 197 = .ok (.getfield 61, 3) := by decide +kernel
theorem d_MO_fault_200 : decode b_MO_fault 200 = .ok (.iconst 1, 1) := by decide +kernel
theorem d_MO_fault_201 : decode b_MO_fault 201 = .ok (.iadd, 1) := by decide +kernel
theorem d_MO_fault_202 : decode b_MO_fault 202 = .ok (.putfield 61, 3) := by decide +kernel
theorem d_MO_fault_205 : decode b_MO_fault 205 = .ok (.aload_n 0, 1) := by decide +kernel
theorem d_MO_fault_206 : decode b_MO_fault 206 = .ok (.getfield 61, 3) := by decide +kernel
theorem d_MO_fault_209 : decode b_MO_fault 209 = .ok (.iconst 1, 1) := by decide +kernel
theorem d_MO_fault_210 : decode b_MO_fault 210 = .ok (.isub, 1) := by decide +kernel
theorem d_MO_fault_211 : decode b_MO_fault 211 = .ok (.ireturn, 1) := by decide +kernel
theorem d_MO_in_0 : decode b_MO_in 0 = .ok (.iload_n 0, 1) := by decide +kernel
theorem d_MO_in_1 : decode b_MO_in 1 = .ok (.iload_n 1, 1) := by decide +kernel
theorem d_MO_in_2 : decode b_MO_in 2 = .ok (.if_icmp .lt 12, 3) := by decide +kernel
theorem d_MO_in_5 : decode b_MO_in 5 = .ok (.iload_n 0, 1) := by decide +kernel
theorem d_MO_in_6 : decode b_MO_in 6 = .ok (.iload_n 2, 1) := by decide +kernel
theorem d_MO_in_7 : decode b_MO_in 7 = .ok (.if_icmp .gt 7, 3) := by decide +kernel
theorem d_MO_in_10 : decode b_MO_in 10 = .ok (.iconst 1, 1) := by decide +kernel
theorem d_MO_in_11 : decode b_MO_in 11 = .ok (.goto 4, 3) := by decide +kernel
theorem d_MO_in_14 : decode b_MO_in 14 = .ok (.iconst 0, 1) := by decide +kernel
theorem d_MO_in_15 : decode b_MO_in 15 = .ok (.ireturn, 1) := by decide +kernel
theorem d_MO_goes_0 : decode b_MO_goes 0 = .ok (.aload_n 0, 1) := by decide +kernel
theorem d_MO_goes_1 : decode b_MO_goes 1 = .ok (.iload_n 1, 1) := by decide +kernel
theorem d_MO_goes_2 : decode b_MO_goes 2 = .ok (.ifCond .ne 7, 3) := by decide +kernel
theorem d_MO_goes_5 : decode b_MO_goes 5 = .ok (.iconst 1, 1) := by decide +kernel
theorem d_MO_goes_6 : decode b_MO_goes 6 = .ok (.goto 12, 3) := by decide +kernel
theorem d_MO_goes_9 : decode b_MO_goes 9 = .ok (.iload_n 2, 1) := by decide +kernel
theorem d_MO_goes_10 : decode b_MO_goes 10 = .ok (.ifCond .ne 7, 3) := by decide +kernel
theorem d_MO_goes_13 : decode b_MO_goes 13 = .ok (.iconst 2, 1) := by decide +kernel
theorem d_MO_goes_14 : decode b_MO_goes 14 = .ok (.goto 4, 3) := by decide +kernel
theorem d_MO_goes_17 : decode b_MO_goes 17 = .ok (.iconst 0, 1) := by decide +kernel
theorem d_MO_goes_18 : decode b_MO_goes 18 = .ok (.putfield 58, 3) := by decide +kernel
theorem d_MO_goes_21 : decode b_MO_goes 21 = .ok (.aload_n 0, 1) := by decide +kernel
theorem d_MO_goes_22 : decode b_MO_goes 22 = .ok (.getfield 58, 3) := by decide +kernel
theorem d_MO_goes_25 : decode b_MO_goes 25 = .ok (.ifCond .ne 7, 3) := by decide +kernel
theorem d_MO_goes_28 : decode b_MO_goes 28 = .ok (.iconst 1, 1) := by decide +kernel
theorem d_MO_goes_29 : decode b_MO_goes 29 = .ok (.goto 4, 3) := by decide +kernel
theorem d_MO_goes_32 : decode b_MO_goes 32 = .ok (.iconst 0, 1) := by decide +kernel
theorem d_MO_goes_33 : decode b_MO_goes 33 = .ok (.ireturn, 1) := by decide +kernel
theorem d_MO_act_0 : decode b_MO_act 0 = .ok (.aload_n 0, 1) := by decide +kernel
theorem d_MO_act_1 : decode b_MO_act 1 = .ok (.iload_n 1, 1) := by decide +kernel
theorem d_MO_act_2 : decode b_MO_act 2 = .ok (.iconst 0, 1) := by decide +kernel
theorem d_MO_act_3 : decode b_MO_act 3 = .ok (.bipush 9, 2) := by decide +kernel
theorem d_MO_act_5 : decode b_MO_act 5 = .ok (.invokestatic 64, 3) := by decide +kernel
theorem d_MO_act_8 : decode b_MO_act 8 = .ok (.ifCond .eq 18, 3) := by decide +kernel
theorem d_MO_act_11 : decode b_MO_act 11 = .ok (.iload_n 2, 1) := by decide +kernel
theorem d_MO_act_12 : decode b_MO_act 12 = .ok (.iconst 1, 1) := by decide +kernel
theorem d_MO_act_13 : decode b_MO_act 13 = .ok (.sipush 10000, 3) := by decide +kernel
theorem d_MO_act_16 : decode b_MO_act 16 = .ok (.invokestatic 64, 3) := by decide +kernel
theorem d_MO_act_19 : decode b_MO_act 19 = .ok (.ifCond .eq 7, 3) := by decide +kernel
theorem d_MO_act_22 : decode b_MO_act 22 = .ok (.iconst 1, 1) := by decide +kernel
theorem d_MO_act_23 : decode b_MO_act 23 = .ok (.goto 4, 3) := by decide +kernel
theorem d_MO_act_26 : decode b_MO_act 26 = .ok (.iconst 0, 1) := by decide +kernel
theorem d_MO_act_27 : decode b_MO_act 27 = .ok (.aload_n 0, 1) := by decide +kernel
theorem d_MO_act_28 : decode b_MO_act 28 = .ok (.getfield 73, 3) := by decide +kernel
theorem d_MO_act_31 : decode b_MO_act 31 = .ok (.bipush 8, 2) := by decide +kernel
theorem d_MO_act_33 : decode b_MO_act 33 = .ok (.if_icmp .ge 7, 3) := by decide +kernel
theorem d_MO_act_36 : decode b_MO_act 36 = .ok (.iconst 1, 1) := by decide +kernel
theorem d_MO_act_37 : decode b_MO_act 37 = .ok (.goto 4, 3) := by decide +kernel
theorem d_MO_act_40 : decode b_MO_act 40 = .ok (.iconst 0, 1) := by decide +kernel
theorem d_MO_act_41 : decode b_MO_act 41 = .ok (.invokevirtual 69, 3) := by decide +kernel
theorem d_MO_act_44 : decode b_MO_act 44 = .ok (.ifCond .ne 5, 3) := by decide +kernel
theorem d_MO_act_47 : decode b_MO_act 47 = .ok (.iconst 0, 1) := by decide +kernel
theorem d_MO_act_48 : decode b_MO_act 48 = .ok (.ireturn, 1) := by decide +kernel
theorem d_MO_act_49 : decode b_MO_act 49 = .ok (.aload_n 0, 1) := by decide +kernel
theorem d_MO_act_50 : decode b_MO_act 50 = .ok (.getfield 16, 3) := by decide +kernel
theorem d_MO_act_53 : decode b_MO_act 53 = .ok (.aload_n 0, 1) := by decide +kernel
theorem d_MO_act_54 : decode b_MO_act 54 = .ok (.getfield 73, 3) := by decide +kernel
theorem d_MO_act_57 : decode b_MO_act 57 = .ok (.iload_n 1, 1) := by decide +kernel
theorem d_MO_act_58 : decode b_MO_act 58 = .ok (.iastore, 1) := by decide +kernel
theorem d_MO_act_59 : decode b_MO_act 59 = .ok (.aload_n 0, 1) := by decide +kernel
theorem d_MO_act_60 : decode b_MO_act 60 = .ok (.getfield 19, 3) := by decide +kernel
theorem d_MO_act_63 : decode b_MO_act 63 = .ok (.aload_n 0, 1) := by decide +kernel
theorem d_MO_act_64 : decode b_MO_act 64 = .ok (.getfield 73, 3) := by decide +kernel
theorem d_MO_act_67 : decode b_MO_act 67 = .ok (.iload_n 2, 1) := by decide +kernel
theorem d_MO_act_68 : decode b_MO_act 68 = .ok (.iastore, 1) := by decide +kernel
theorem d_MO_act_69 : decode b_MO_act 69 = .ok (.aload_n 0, 1) := by decide +kernel
theorem d_MO_act_70 : decode b_MO_act 70 = .ok (.dup, 1) := by decide +kernel
theorem d_MO_act_71 : decode b_MO_act 71 = .ok (.getfield 73, 3) := by decide +kernel
theorem d_MO_act_74 : decode b_MO_act 74 = .ok (.iconst 1, 1) := by decide +kernel
theorem d_MO_act_75 : decode b_MO_act 75 = .ok (.iadd, 1) := by decide +kernel
theorem d_MO_act_76 : decode b_MO_act 76 = .ok (.putfield 73, 3) := by decide +kernel
theorem d_MO_act_79 : decode b_MO_act 79 = .ok (.aload_n 0, 1) := by decide +kernel
theorem d_MO_act_80 : decode b_MO_act 80 = .ok (.getfield 73, 3) := by decide +kernel
theorem d_MO_act_83 : decode b_MO_act 83 = .ok (.iconst 1, 1) := by decide +kernel
theorem d_MO_act_84 : decode b_MO_act 84 = .ok (.isub, 1) := by decide +kernel
theorem d_MO_act_85 : decode b_MO_act 85 = .ok (.ireturn, 1) := by decide +kernel
theorem d_MO_shows_0 : decode b_MO_shows 0 = .ok (.aload_n 0, 1) := by decide +kernel
theorem d_MO_shows_1 : decode b_MO_shows 1 = .ok (.iload_n 1, 1) := by decide +kernel
theorem d_MO_shows_2 : decode b_MO_shows 2 = .ok (.iconst 0, 1) := by decide +kernel
theorem d_MO_shows_3 : decode b_MO_shows 3 = .ok (.aload_n 0, 1) := by decide +kernel
theorem d_MO_shows_4 : decode b_MO_shows 4 = .ok (.getfield 73, 3) := by decide +kernel
theorem d_MO_shows_7 : decode b_MO_shows 7 = .ok (.iconst 1, 1) := by decide +kernel
theorem d_MO_shows_8 : decode b_MO_shows 8 = .ok (.isub, 1) := by decide +kernel
theorem d_MO_shows_9 : decode b_MO_shows 9 = .ok (.invokestatic 64, 3) := by decide +kernel
theorem d_MO_shows_12 : decode b_MO_shows 12 = .ok (.ifCond .eq 15, 3) := by decide +kernel
theorem d_MO_shows_15 : decode b_MO_shows 15 = .ok (.aload_n 0, 1) := by decide +kernel
theorem d_MO_shows_16 : decode b_MO_shows 16 = .ok (.iload_n 2, 1) := by decide +kernel
theorem d_MO_shows_17 : decode b_MO_shows 17 = .ok (.invokevirtual 76, 3) := by decide +kernel
theorem d_MO_shows_20 : decode b_MO_shows 20 = .ok (.ifCond .eq 7, 3) := by decide +kernel
theorem d_MO_shows_23 : decode b_MO_shows 23 = .ok (.iconst 1, 1) := by decide +kernel
theorem d_MO_shows_24 : decode b_MO_shows 24 = .ok (.goto 4, 3) := by decide +kernel
theorem d_MO_shows_27 : decode b_MO_shows 27 = .ok (.iconst 0, 1) := by decide +kernel
theorem d_MO_shows_28 : decode b_MO_shows 28 = .ok (.iconst 1, 1) := by decide +kernel
theorem d_MO_shows_29 : decode b_MO_shows 29 = .ok (.invokevirtual 69, 3) := by decide +kernel
theorem d_MO_shows_32 : decode b_MO_shows 32 = .ok (.ifCond .ne 5, 3) := by decide +kernel
theorem d_MO_shows_35 : decode b_MO_shows 35 = .ok (.iconst 0, 1) := by decide +kernel
theorem d_MO_shows_36 : decode b_MO_shows 36 = .ok (.ireturn, 1) := by decide +kernel
theorem d_MO_shows_37 : decode b_MO_shows 37 = .ok (.aload_n 0, 1) := by decide +kernel
theorem d_MO_shows_38 : decode b_MO_shows 38 = .ok (.getfield 22, 3) := by decide +kernel
theorem d_MO_shows_41 : decode b_MO_shows 41 = .ok (.iload_n 1, 1) := by decide +kernel
theorem d_MO_shows_42 : decode b_MO_shows 42 = .ok (.iaload, 1) := by decide +kernel
theorem d_MO_shows_43 : decode b_MO_shows 43 = .ok (.iload_n 2, 1) := by decide +kernel
theorem d_MO_shows_44 : decode b_MO_shows 44 = .ok (.ishr, 1) := by decide +kernel
theorem d_MO_shows_45 : decode b_MO_shows 45 = .ok (.iconst 1, 1) := by decide +kernel
theorem d_MO_shows_46 : decode b_MO_shows 46 = .ok (.iand, 1) := by decide +kernel
theorem d_MO_shows_47 : decode b_MO_shows 47 = .ok (.iconst 1, 1) := by decide +kernel
theorem d_MO_shows_48 : decode b_MO_shows 48 = .ok (.if_icmp .ne 7, 3) := by decide +kernel
theorem d_MO_shows_51 : decode b_MO_shows 51 = .ok (.iconst 1, 1) := by decide +kernel
theorem d_MO_shows_52 : decode b_MO_shows 52 = .ok (.goto 4, 3) := by decide +kernel
theorem d_MO_shows_55 : decode b_MO_shows 55 = .ok (.iconst 0, 1) := by decide +kernel
theorem d_MO_shows_56 : decode b_MO_shows 56 = .ok (.istore 4, 2) := by decide +kernel
theorem d_MO_shows_58 : decode b_MO_shows 58 = .ok (.aload_n 0, 1) := by decide +kernel
theorem d_MO_shows_59 : decode b_MO_shows 59 = .ok (.getfield 22, 3) := by decide +kernel
theorem d_MO_shows_62 : decode b_MO_shows 62 = .ok (.iload_n 1, 1) := by decide +kernel
theorem d_MO_shows_63 : decode b_MO_shows 63 = .ok (.iload 4, 2) := by decide +kernel
theorem d_MO_shows_65 : decode b_MO_shows 65 = .ok (.iload_n 3, 1) := by decide +kernel
theorem d_MO_shows_66 : decode b_MO_shows 66 = .ok (.if_icmp .ne 12, 3) := by decide +kernel
theorem d_MO_shows_69 : decode b_MO_shows 69 = .ok (.aload_n 0, 1) := by decide +kernel
theorem d_MO_shows_70 : decode b_MO_shows 70 = .ok (.getfield 22, 3) := by decide +kernel
theorem d_MO_shows_73 : decode b_MO_shows 73 = .ok (.iload_n 1, 1) := by decide +kernel
theorem d_MO_shows_74 : decode b_MO_shows 74 = .ok (.iaload, 1) := by decide +kernel
theorem d_MO_shows_75 : decode b_MO_shows 75 = .ok (.goto 13, 3) := by decide +kernel
theorem d_MO_shows_78 : decode b_MO_shows 78 = .ok (.aload_n 0, 1) := by decide +kernel
theorem d_MO_shows_79 : decode b_MO_shows 79 = .ok (.getfield 22, 3) := by decide +kernel
theorem d_MO_shows_82 : decode b_MO_shows 82 = .ok (.iload_n 1, 1) := by decide +kernel
theorem d_MO_shows_83 : decode b_MO_shows 83 = .ok (.iaload, 1) := by decide +kernel
theorem d_MO_shows_84 : decode b_MO_shows 84 = .ok (.iconst 1, 1) := by decide +kernel
theorem d_MO_shows_85 : decode b_MO_shows 85 = .ok (.iload_n 2, 1) := by decide +kernel
theorem d_MO_shows_86 : decode b_MO_shows 86 = .ok (.ishl, 1) := by decide +kernel
theorem d_MO_shows_87 : decode b_MO_shows 87 = .ok (.ixor, 1) := by decide +kernel
theorem d_MO_shows_88 : decode b_MO_shows 88 = .ok (.iastore, 1) := by decide +kernel
theorem d_MO_shows_89 : decode b_MO_shows 89 = .ok (.iload 4, 2) := by decide +kernel
theorem d_MO_shows_91 : decode b_MO_shows 91 = .ok (.ireturn, 1) := by decide +kernel
theorem d_MO_isCase_0 : decode b_MO_isCase 0 = .ok (.iload_n 1, 1) := by decide +kernel
theorem d_MO_isCase_1 : decode b_MO_isCase 1 = .ok (.iconst 0, 1) := by decide +kernel
theorem d_MO_isCase_2 : decode b_MO_isCase 2 = .ok (.aload_n 0, 1) := by decide +kernel
theorem d_MO_isCase_3 : decode b_MO_isCase 3 = .ok (.getfield 61, 3) := by decide +kernel
theorem d_MO_isCase_6 : decode b_MO_isCase 6 = .ok (.iconst 1, 1) := by decide +kernel
theorem d_MO_isCase_7 : decode b_MO_isCase 7 = .ok (.isub, 1) := by decide +kernel
theorem d_MO_isCase_8 : decode b_MO_isCase 8 = .ok (.invokestatic 64, 3) := by decide +kernel
theorem d_MO_isCase_11 : decode b_MO_isCase 11 = .ok (.ireturn, 1) := by decide +kernel
theorem d_MO_way_0 : decode b_MO_way 0 = .ok (.aload_n 0, 1) := by decide +kernel
theorem d_MO_way_1 : decode b_MO_way 1 = .ok (.iload_n 1, 1) := by decide +kernel
theorem d_MO_way_2 : decode b_MO_way 2 = .ok (.iconst 0, 1) := by decide +kernel
theorem d_MO_way_3 : decode b_MO_way 3 = .ok (.bipush 9, 2) := by decide +kernel
theorem d_MO_way_5 : decode b_MO_way 5 = .ok (.invokestatic 64, 3) := by decide +kernel
theorem d_MO_way_8 : decode b_MO_way 8 = .ok (.ifCond .eq 33, 3) := by decide +kernel
theorem d_MO_way_11 : decode b_MO_way 11 = .ok (.iload_n 2, 1) := by decide +kernel
theorem d_MO_way_12 : decode b_MO_way 12 = .ok (.iconst 0, 1) := by decide +kernel
theorem d_MO_way_13 : decode b_MO_way 13 = .ok (.bipush 9, 2) := by decide +kernel
theorem d_MO_way_15 : decode b_MO_way 15 = .ok (.invokestatic 64, 3) := by decide +kernel
theorem d_MO_way_18 : decode b_MO_way 18 = .ok (.ifCond .eq 23, 3) := by decide +kernel
theorem d_MO_way_21 : decode b_MO_way 21 = .ok (.iload_n 1, 1) := by decide +kernel
theorem d_MO_way_22 : decode b_MO_way 22 = .ok (.iload_n 2, 1) := by decide +kernel
theorem d_MO_way_23 : decode b_MO_way 23 = .ok (.if_icmp .eq 18, 3) := by decide +kernel
theorem d_MO_way_26 : decode b_MO_way 26 = .ok (.iload_n 3, 1) := by decide +kernel
theorem d_MO_way_27 : decode b_MO_way 27 = .ok (.iconst 0, 1) := by decide +kernel
theorem d_MO_way_28 : decode b_MO_way 28 = .ok (.sipush 10000, 3) := by decide +kernel
theorem d_MO_way_31 : decode b_MO_way 31 = .ok (.invokestatic 64, 3) := by decide +kernel
theorem d_MO_way_34 : decode b_MO_way 34 = .ok (.ifCond .eq 7, 3) := by decide +kernel
theorem d_MO_way_37 : decode b_MO_way 37 = .ok (.iconst 1, 1) := by decide +kernel
theorem d_MO_way_38 : decode b_MO_way 38 = .ok (.goto 4, 3) := by decide +kernel
theorem d_MO_way_41 : decode b_MO_way 41 = .ok (.iconst 0, 1) := by decide +kernel
theorem d_MO_way_42 : decode b_MO_way 42 = .ok (.iconst 1, 1) := by decide +kernel
theorem d_MO_way_43 : decode b_MO_way 43 = .ok (.invokevirtual 69, 3) := by decide +kernel
theorem d_MO_way_46 : decode b_MO_way 46 = .ok (.ifCond .ne 5, 3) := by decide +kernel
theorem d_MO_way_49 : decode b_MO_way 49 = .ok (.iconst 0, 1) := by decide +kernel
theorem d_MO_way_50 : decode b_MO_way 50 = .ok (.ireturn, 1) := by decide +kernel
theorem d_MO_way_51 : decode b_MO_way 51 = .ok (.aload_n 0, 1) := by decide +kernel
theorem d_MO_way_52 : decode b_MO_way 52 = .ok (.getfield 25, 3) := by decide +kernel
theorem d_MO_way_55 : decode b_MO_way 55 = .ok (.bipush 10, 2) := by decide +kernel
theorem d_MO_way_57 : decode b_MO_way 57 = .ok (.iload_n 1, 1) := by decide +kernel
theorem d_MO_way_58 : decode b_MO_way 58 = .ok (.imul, 1) := by decide +kernel
theorem d_MO_way_59 : decode b_MO_way 59 = .ok (.iload_n 2, 1) := by decide +kernel
theorem d_MO_way_60 : decode b_MO_way 60 = .ok (.iadd, 1) := by decide +kernel
theorem d_MO_way_61 : decode b_MO_way 61 = .ok (.iaload, 1) := by decide +kernel
theorem d_MO_way_62 : decode b_MO_way 62 = .ok (.istore 4, 2) := by decide +kernel
theorem d_MO_way_64 : decode b_MO_way 64 = .ok (.aload_n 0, 1) := by decide +kernel
theorem d_MO_way_65 : decode b_MO_way 65 = .ok (.getfield 25, 3) := by decide +kernel
theorem d_MO_way_68 : decode b_MO_way 68 = .ok (.bipush 10, 2) := by decide +kernel
theorem d_MO_way_70 : decode b_MO_way 70 = .ok (.iload_n 1, 1) := by decide +kernel
theorem d_MO_way_71 : decode b_MO_way 71 = .ok (.imul, 1) := by decide +kernel
theorem d_MO_way_72 : decode b_MO_way 72 = .ok (.iload_n 2, 1) := by decide +kernel
theorem d_MO_way_73 : decode b_MO_way 73 = .ok (.iadd, 1) := by decide +kernel
theorem d_MO_way_74 : decode b_MO_way 74 = .ok (.iload_n 3, 1) := by decide +kernel
theorem d_MO_way_75 : decode b_MO_way 75 = .ok (.iastore, 1) := by decide +kernel
theorem d_MO_way_76 : decode b_MO_way 76 = .ok (.aload_n 0, 1) := by decide +kernel
theorem d_MO_way_77 : decode b_MO_way 77 = .ok (.getfield 25, 3) := by decide +kernel
theorem d_MO_way_80 : decode b_MO_way 80 = .ok (.bipush 10, 2) := by decide +kernel
theorem d_MO_way_82 : decode b_MO_way 82 = .ok (.iload_n 2, 1) := by decide +kernel
theorem d_MO_way_83 : decode b_MO_way 83 = .ok (.imul, 1) := by decide +kernel
theorem d_MO_way_84 : decode b_MO_way 84 = .ok (.iload_n 1, 1) := by decide +kernel
theorem d_MO_way_85 : decode b_MO_way 85 = .ok (.iadd, 1) := by decide +kernel
theorem d_MO_way_86 : decode b_MO_way 86 = .ok (.iload_n 3, 1) := by decide +kernel
theorem d_MO_way_87 : decode b_MO_way 87 = .ok (.iastore, 1) := by decide +kernel
theorem d_MO_way_88 : decode b_MO_way 88 = .ok (.iload 4, 2) := by decide +kernel
theorem d_MO_way_90 : decode b_MO_way 90 = .ok (.ireturn, 1) := by decide +kernel
theorem d_MO_change_0 : decode b_MO_change 0 = .ok (.aload_n 0, 1) := by decide +kernel
theorem d_MO_change_1 : decode b_MO_change 1 = .ok (.iload_n 1, 1) := by decide +kernel
theorem d_MO_change_2 : decode b_MO_change 2 = .ok (.iconst 0, 1) := by decide +kernel
theorem d_MO_change_3 : decode b_MO_change 3 = .ok (.bipush 29, 2) := by decide +kernel
theorem d_MO_change_5 : decode b_MO_change 5 = .ok (.invokestatic 64, 3) := by decide +kernel
theorem d_MO_change_8 : decode b_MO_change 8 = .ok (.ifCond .eq 14, 3) := by decide +kernel
theorem d_MO_change_11 : decode b_MO_change 11 = .ok (.iload_n 2, 1) := by decide +kernel
theorem d_MO_change_12 : decode b_MO_change 12 = .ok (.invokestatic 80, 3) := by decide +kernel
theorem d_MO_change_15 : decode b_MO_change 15 = .ok (.ifCond .eq 7, 3) := by decide +kernel
theorem d_MO_change_18 : decode b_MO_change 18 = .ok (.iconst 1, 1) := by decide +kernel
theorem d_MO_change_19 : decode b_MO_change 19 = .ok (.goto 4, 3) := by decide +kernel
theorem d_MO_change_22 : decode b_MO_change 22 = .ok (.iconst 0, 1) := by decide +kernel
theorem d_MO_change_23 : decode b_MO_change 23 = .ok (.iconst 1, 1) := by decide +kernel
theorem d_MO_change_24 : decode b_MO_change 24 = .ok (.invokevirtual 69, 3) := by decide +kernel
theorem d_MO_change_27 : decode b_MO_change 27 = .ok (.ifCond .ne 5, 3) := by decide +kernel
theorem d_MO_change_30 : decode b_MO_change 30 = .ok (.iconst 0, 1) := by decide +kernel
theorem d_MO_change_31 : decode b_MO_change 31 = .ok (.ireturn, 1) := by decide +kernel
theorem d_MO_change_32 : decode b_MO_change 32 = .ok (.iconst 0, 1) := by decide +kernel
theorem d_MO_change_33 : decode b_MO_change 33 = .ok (.istore_n 3, 1) := by decide +kernel
theorem d_MO_change_34 : decode b_MO_change 34 = .ok (.iconst 0, 1) := by decide +kernel
theorem d_MO_change_35 : decode b_MO_change 35 = .ok (.istore 4, 2) := by decide +kernel
theorem d_MO_change_37 : decode b_MO_change 37 = .ok (.iload 4, 2) := by decide +kernel
theorem d_MO_change_39 : decode b_MO_change 39 = .ok (.aload_n 0, 1) := by decide +kernel
theorem d_MO_change_40 : decode b_MO_change 40 = .ok (.getfield 61, 3) := by decide +kernel
theorem d_MO_change_43 : decode b_MO_change 43 = .ok (.if_icmp .ge 73, 3) := by decide +kernel
theorem d_MO_change_46 : decode b_MO_change 46 = .ok (.aload_n 0, 1) := by decide +kernel
theorem d_MO_change_47 : decode b_MO_change 47 = .ok (.getfield 7, 3) := by decide +kernel
theorem d_MO_change_50 : decode b_MO_change 50 = .ok (.iload 4, 2) := by decide +kernel
theorem d_MO_change_52 : decode b_MO_change 52 = .ok (.iaload, 1) := by decide +kernel
theorem d_MO_change_53 : decode b_MO_change 53 = .ok (.iload_n 1, 1) := by decide +kernel
theorem d_MO_change_54 : decode b_MO_change 54 = .ok (.if_icmp .eq 14, 3) := by decide +kernel
theorem d_MO_change_57 : decode b_MO_change 57 = .ok (.aload_n 0, 1) := by decide +kernel
theorem d_MO_change_58 : decode b_MO_change 58 = .ok (.getfield 13, 3) := by decide +kernel
theorem d_MO_change_61 : decode b_MO_change 61 = .ok (.iload 4, 2) := by decide +kernel
theorem d_MO_change_63 : decode b_MO_change 63 = .ok (.iaload, 1) := by decide +kernel
theorem d_MO_change_64 : decode b_MO_change 64 = .ok (.iload_n 1, 1) := by decide +kernel
theorem d_MO_change_65 : decode b_MO_change 65 = .ok (.if_icmp .ne 45, 3) := by decide +kernel
theorem d_MO_change_68 : decode b_MO_change 68 = .ok (.aload_n 0, 1) := by decide +kernel
theorem d_MO_change_69 : decode b_MO_change 69 = .ok (.getfield 29, 3) := by decide +kernel
theorem d_MO_change_72 : decode b_MO_change 72 = .ok (.sipush 3126, 3) := by decide +kernel
theorem d_MO_change_75 : decode b_MO_change 75 = .ok (.iload 4, 2) := by decide +kernel
theorem d_MO_change_77 : decode b_MO_change 77 = .ok (.imul, 1) := by decide +kernel
theorem d_MO_change_78 : decode b_MO_change 78 = .ok (.iload_n 2, 1) := by decide +kernel
theorem d_MO_change_79 : decode b_MO_change 79 = .ok (.bipush 32, 2) := by decide +kernel
theorem d_MO_change_81 : decode b_MO_change 81 = .ok (.idiv, 1) := by decide +kernel
theorem d_MO_change_82 : decode b_MO_change 82 = .ok (.iadd, 1) := by decide +kernel
theorem d_MO_change_83 : decode b_MO_change 83 = .ok (.aload_n 0, 1) := by decide +kernel
theorem d_MO_change_84 : decode b_MO_change 84 = .ok (.getfield 29, 3) := by decide +kernel
theorem d_MO_change_87 : decode b_MO_change 87 = .ok (.sipush 3126, 3) := by decide +kernel
theorem d_MO_change_90 : decode b_MO_change 90 = .ok (.iload 4, 2) := by decide +kernel
theorem d_MO_change_92 : decode b_MO_change 92 = .ok (.imul, 1) := by decide +kernel
theorem d_MO_change_93 : decode b_MO_change 93 = .ok (.iload_n 2, 1) := by decide +kernel
theorem d_MO_change_94 : decode b_MO_change 94 = .ok (.bipush 32, 2) := by decide +kernel
theorem d_MO_change_96 : decode b_MO_change 96 = .ok (.idiv, 1) := by decide +kernel
theorem d_MO_change_97 : decode b_MO_change 97 = .ok (.iadd, 1) := by decide +kernel
theorem d_MO_change_98 : decode b_MO_change 98 = .ok (.iaload, 1) := by decide +kernel
theorem d_MO_change_99 : decode b_MO_change 99 = .ok (.iconst 1, 1) := by decide +kernel
theorem d_MO_change_100 : decode b_MO_change 100 = .ok (.iload_n 2, 1) := by decide +kernel
theorem d_MO_change_101 : decode b_MO_change 101 = .ok (.bipush 32, 2) := by decide +kernel
theorem d_MO_change_103 : decode b_MO_change 103 = .ok (.irem, 1) := by decide +kernel
theorem d_MO_change_104 : decode b_MO_change 104 = .ok (.ishl, 1) := by decide +kernel
theorem d_MO_change_105 : decode b_MO_change 105 = .ok (.ior, 1) := by decide +kernel
theorem d_MO_change_106 : decode b_MO_change 106 = .ok (.iastore, 1) := by decide +kernel
theorem d_MO_change_107 : decode b_MO_change 107 = .ok (.iinc 3 1, 3) := by decide +kernel
theorem d_MO_change_110 : decode b_MO_change 110 = .ok (.iinc 4 1, 3) := by decide +kernel
theorem d_MO_change_113 : decode b_MO_change 113 = .ok (.goto (-76), 3) := by decide +kernel
theorem d_MO_change_116 : decode b_MO_change 116 = .ok (.iload_n 3, 1) := by decide +kernel
theorem d_MO_change_117 : decode b_MO_change 117 = .ok (.ireturn, 1) := by decide +kernel
theorem d_MO_isDay_0 : decode b_MO_isDay 0 = .ok (.iload_n 0, 1) := by decide +kernel
theorem d_MO_isDay_1 : decode b_MO_isDay 1 = .ok (.iconst 0, 1) := by decide +kernel
theorem d_MO_isDay_2 : decode b_MO_isDay 2 = .ok (.ldc 68, 2) := by decide +kernel
theorem d_MO_isDay_4 : decode b_MO_isDay 4 = .ok (.invokestatic 64, 3) := by decide +kernel
theorem d_MO_isDay_7 : decode b_MO_isDay 7 = .ok (.ireturn, 1) := by decide +kernel
theorem d_MO_result_0 : decode b_MO_result 0 = .ok (.aload_n 0, 1) := by decide +kernel
theorem d_MO_result_1 : decode b_MO_result 1 = .ok (.iload_n 1, 1) := by decide +kernel
theorem d_MO_result_2 : decode b_MO_result 2 = .ok (.invokevirtual 76, 3) := by decide +kernel
theorem d_MO_result_5 : decode b_MO_result 5 = .ok (.ifCond .eq 24, 3) := by decide +kernel
theorem d_MO_result_8 : decode b_MO_result 8 = .ok (.iload_n 2, 1) := by decide +kernel
theorem d_MO_result_9 : decode b_MO_result 9 = .ok (.iconst 0, 1) := by decide +kernel
theorem d_MO_result_10 : decode b_MO_result 10 = .ok (.bipush 9, 2) := by decide +kernel
theorem d_MO_result_12 : decode b_MO_result 12 = .ok (.invokestatic 64, 3) := by decide +kernel
theorem d_MO_result_15 : decode b_MO_result 15 = .ok (.ifCond .eq 14, 3) := by decide +kernel
theorem d_MO_result_18 : decode b_MO_result 18 = .ok (.iload_n 3, 1) := by decide +kernel
theorem d_MO_result_19 : decode b_MO_result 19 = .ok (.invokestatic 80, 3) := by decide +kernel
theorem d_MO_result_22 : decode b_MO_result 22 = .ok (.ifCond .eq 7, 3) := by decide +kernel
theorem d_MO_result_25 : decode b_MO_result 25 = .ok (.iconst 1, 1) := by decide +kernel
theorem d_MO_result_26 : decode b_MO_result 26 = .ok (.goto 4, 3) := by decide +kernel
theorem d_MO_result_29 : decode b_MO_result 29 = .ok (.iconst 0, 1) := by decide +kernel
theorem d_MO_result_30 : decode b_MO_result 30 = .ok (.istore 5, 2) := by decide +kernel
theorem d_MO_result_32 : decode b_MO_result 32 = .ok (.iconst (-1), 1) := by decide +kernel
theorem d_MO_result_33 : decode b_MO_result 33 = .ok (.istore 6, 2) := by decide +kernel
theorem d_MO_result_35 : decode b_MO_result 35 = .ok (.iconst 0, 1) := by decide +kernel
theorem d_MO_result_36 : decode b_MO_result 36 = .ok (.istore 7, 2) := by decide +kernel
theorem d_MO_result_38 : decode b_MO_result 38 = .ok (.iload 5, 2) := by decide +kernel
theorem d_MO_result_40 : decode b_MO_result 40 = .ok (.ifCond .eq 60, 3) := by decide +kernel
theorem d_MO_result_43 : decode b_MO_result 43 = .ok (.iload 7, 2) := by decide +kernel
theorem d_MO_result_45 : decode b_MO_result 45 = .ok (.aload_n 0, 1) := by decide +kernel
theorem d_MO_result_46 : decode b_MO_result 46 = .ok (.getfield 32, 3) := by decide +kernel
theorem d_MO_result_49 : decode b_MO_result 49 = .ok (.iload_n 1, 1) := by decide +kernel
theorem d_MO_result_50 : decode b_MO_result 50 = .ok (.iaload, 1) := by decide +kernel
theorem d_MO_result_51 : decode b_MO_result 51 = .ok (.if_icmp .ge 49, 3) := by decide +kernel
theorem d_MO_result_54 : decode b_MO_result 54 = .ok (.bipush 32, 2) := by decide +kernel
theorem d_MO_result_56 : decode b_MO_result 56 = .ok (.iload_n 1, 1) := by decide +kernel
theorem d_MO_result_57 : decode b_MO_result 57 = .ok (.imul, 1) := by decide +kernel
theorem d_MO_result_58 : decode b_MO_result 58 = .ok (.iload 7, 2) := by decide +kernel
theorem d_MO_result_60 : decode b_MO_result 60 = .ok (.iadd, 1) := by decide +kernel
theorem d_MO_result_61 : decode b_MO_result 61 = .ok (.istore 8, 2) := by decide +kernel
theorem d_MO_result_63 : decode b_MO_result 63 = .ok (.aload_n 0, 1) := by decide +kernel
theorem d_MO_result_64 : decode b_MO_result 64 = .ok (.getfield 35, 3) := by decide +kernel
theorem d_MO_result_67 : decode b_MO_result 67 = .ok (.iload 8, 2) := by decide +kernel
theorem d_MO_result_69 : decode b_MO_result 69 = .ok (.iaload, 1) := by decide +kernel
theorem d_MO_result_70 : decode b_MO_result 70 = .ok (.iload_n 2, 1) := by decide +kernel
theorem d_MO_result_71 : decode b_MO_result 71 = .ok (.if_icmp .ne 19, 3) := by decide +kernel
theorem d_MO_result_74 : decode b_MO_result 74 = .ok (.aload_n 0, 1) := by decide +kernel
theorem d_MO_result_75 : decode b_MO_result 75 = .ok (.getfield 38, 3) := by decide +kernel
theorem d_MO_result_78 : decode b_MO_result 78 = .ok (.iload 8, 2) := by decide +kernel
theorem d_MO_result_80 : decode b_MO_result 80 = .ok (.iaload, 1) := by decide +kernel
theorem d_MO_result_81 : decode b_MO_result 81 = .ok (.iload_n 3, 1) := by decide +kernel
theorem d_MO_result_82 : decode b_MO_result 82 = .ok (.if_icmp .ne 8, 3) := by decide +kernel
theorem d_MO_result_85 : decode b_MO_result 85 = .ok (.iload 8, 2) := by decide +kernel
theorem d_MO_result_87 : decode b_MO_result 87 = .ok (.goto 5, 3) := by decide +kernel
theorem d_MO_result_90 : decode b_MO_result 90 = .ok (.iload 6, 2) := by decide +kernel
theorem d_MO_result_92 : decode b_MO_result 92 = .ok (.istore 6, 2) := by decide +kernel
theorem d_MO_result_94 : decode b_MO_result 94 = .ok (.iinc 7 1, 3) := by decide +kernel
theorem d_MO_result_97 : decode b_MO_result 97 = .ok (.goto (-59), 3) := by decide +kernel
theorem d_MO_result_100 : decode b_MO_result 100 = .ok (.aload_n 0, 1) := by decide +kernel
theorem d_MO_result_101 : decode b_MO_result 101 = .ok (.iload 5, 2) := by decide +kernel
theorem d_MO_result_103 : decode b_MO_result 103 = .ok (.iload 5, 2) := by decide +kernel
theorem d_MO_result_105 : decode b_MO_result 105 = .ok (.ifCond .eq 24, 3) := by decide +kernel
theorem d_MO_result_108 : decode b_MO_result 108 = .ok (.iload 6, 2) := by decide +kernel
theorem d_MO_result_110 : decode b_MO_result 110 = .ok (.iconst (-1), 1) := by decide +kernel
theorem d_MO_result_111 : decode b_MO_result 111 = .ok (.if_icmp .ne 14, 3) := by decide +kernel
theorem d_MO_result_114 : decode b_MO_result 114 = .ok (.aload_n 0, 1) := by decide +kernel
theorem d_MO_result_115 : decode b_MO_result 115 = .ok (.getfield 32, 3) := by decide +kernel
theorem d_MO_result_118 : decode b_MO_result 118 = .ok (.iload_n 1, 1) := by decide +kernel
theorem d_MO_result_119 : decode b_MO_result 119 = .ok (.iaload, 1) := by decide +kernel
theorem d_MO_result_120 : decode b_MO_result 120 = .ok (.bipush 32, 2) := by decide +kernel
theorem d_MO_result_122 : decode b_MO_result 122 = .ok (.if_icmp .ge 7, 3) := by decide +kernel
theorem d_MO_result_125 : decode b_MO_result 125 = .ok (.iconst 1, 1) := by decide +kernel
theorem d_MO_result_126 : decode b_MO_result 126 = .ok (.goto 4, 3) := by decide +kernel
theorem d_MO_result_129 : decode b_MO_result 129 = .ok (.iconst 0, 1) := by decide +kernel
theorem d_MO_result_130 : decode b_MO_result 130 = .ok (.invokevirtual 69, 3) := by decide +kernel
theorem d_MO_result_133 : decode b_MO_result 133 = .ok (.ifCond .ne 5, 3) := by decide +kernel
theorem d_MO_result_136 : decode b_MO_result 136 = .ok (.iconst 0, 1) := by decide +kernel
theorem d_MO_result_137 : decode b_MO_result 137 = .ok (.ireturn, 1) := by decide +kernel
theorem d_MO_result_138 : decode b_MO_result 138 = .ok (.iload 6, 2) := by decide +kernel
theorem d_MO_result_140 : decode b_MO_result 140 = .ok (.iconst (-1), 1) := by decide +kernel
theorem d_MO_result_141 : decode b_MO_result 141 = .ok (.if_icmp .ne 26, 3) := by decide +kernel
theorem d_MO_result_144 : decode b_MO_result 144 = .ok (.bipush 32, 2) := by decide +kernel
theorem d_MO_result_146 : decode b_MO_result 146 = .ok (.iload_n 1, 1) := by decide +kernel
theorem d_MO_result_147 : decode b_MO_result 147 = .ok (.imul, 1) := by decide +kernel
theorem d_MO_result_148 : decode b_MO_result 148 = .ok (.aload_n 0, 1) := by decide +kernel
theorem d_MO_result_149 : decode b_MO_result 149 = .ok (.getfield 32, 3) := by decide +kernel
theorem d_MO_result_152 : decode b_MO_result 152 = .ok (.iload_n 1, 1) := by decide +kernel
theorem d_MO_result_153 : decode b_MO_result 153 = .ok (.iaload, 1) := by decide +kernel
theorem d_MO_result_154 : decode b_MO_result 154 = .ok (.iadd, 1) := by decide +kernel
theorem d_MO_result_155 : decode b_MO_result 155 = .ok (.istore 6, 2) := by decide +kernel
theorem d_MO_result_157 : decode b_MO_result 157 = .ok (.aload_n 0, 1) := by decide +kernel
theorem d_MO_result_158 : decode b_MO_result 158 = .ok (.getfield 32, 3) := by decide +kernel
theorem d_MO_result_161 : decode b_MO_result 161 = .ok (.iload_n 1, 1) := by decide +kernel
theorem d_MO_result_162 : decode b_MO_result 162 = .ok (.dup2, 1) := by decide +kernel
theorem d_MO_result_163 : decode b_MO_result 163 = .ok (.iaload, 1) := by decide +kernel
theorem d_MO_result_164 : decode b_MO_result 164 = .ok (.iconst 1, 1) := by decide +kernel
theorem d_MO_result_165 : decode b_MO_result 165 = .ok (.iadd, 1) := by decide +kernel
theorem d_MO_result_166 : decode b_MO_result 166 = .ok (.iastore, 1) := by decide +kernel
theorem d_MO_result_167 : decode b_MO_result 167 = .ok (.aload_n 0, 1) := by decide +kernel
theorem d_MO_result_168 : decode b_MO_result 168 = .ok (.getfield 35, 3) := by decide +kernel
theorem d_MO_result_171 : decode b_MO_result 171 = .ok (.iload 6, 2) := by decide +kernel
theorem d_MO_result_173 : decode b_MO_result 173 = .ok (.iload_n 2, 1) := by decide +kernel
theorem d_MO_result_174 : decode b_MO_result 174 = .ok (.iastore, 1) := by decide +kernel
theorem d_MO_result_175 : decode b_MO_result 175 = .ok (.aload_n 0, 1) := by decide +kernel
theorem d_MO_result_176 : decode b_MO_result 176 = .ok (.getfield 38, 3) := by decide +kernel
theorem d_MO_result_179 : decode b_MO_result 179 = .ok (.iload 6, 2) := by decide +kernel
theorem d_MO_result_181 : decode b_MO_result 181 = .ok (.iload_n 3, 1) := by decide +kernel
theorem d_MO_result_182 : decode b_MO_result 182 = .ok (.iastore, 1) := by decide +kernel
theorem d_MO_result_183 : decode b_MO_result 183 = .ok (.aload_n 0, 1) := by decide +kernel
theorem d_MO_result_184 : decode b_MO_result 184 = .ok (.getfield 41, 3) := by decide +kernel
theorem d_MO_result_187 : decode b_MO_result 187 = .ok (.iload 6, 2) := by decide +kernel
theorem d_MO_result_189 : decode b_MO_result 189 = .ok (.iload 4, 2) := by decide +kernel
theorem d_MO_result_191 : decode b_MO_result 191 = .ok (.bastore, 1) := by decide +kernel
theorem d_MO_result_192 : decode b_MO_result 192 = .ok (.aload_n 0, 1) := by decide +kernel
theorem d_MO_result_193 : decode b_MO_result 193 = .ok (.getfield 32, 3) := by decide +kernel
theorem d_MO_result_196 : decode b_MO_result 196 = .ok (.iload_n 1, 1) := by decide +kernel
theorem d_MO_result_197 : decode b_MO_result 197 = .ok (.iaload, 1) := by decide +kernel
theorem d_MO_result_198 : decode b_MO_result 198 = .ok (.ireturn, 1) := by decide +kernel
theorem d_MO_state_0 : decode b_MO_state 0 = .ok (.aload_n 0, 1) := by decide +kernel
theorem d_MO_state_1 : decode b_MO_state 1 = .ok (.aload_n 0, 1) := by decide +kernel
theorem d_MO_state_2 : decode b_MO_state 2 = .ok (.iload_n 1, 1) := by decide +kernel
theorem d_MO_state_3 : decode b_MO_state 3 = .ok (.invokevirtual 76, 3) := by decide +kernel
theorem d_MO_state_6 : decode b_MO_state 6 = .ok (.ifCond .eq 14, 3) := by decide +kernel
theorem d_MO_state_9 : decode b_MO_state 9 = .ok (.iload_n 2, 1) := by decide +kernel
theorem d_MO_state_10 : decode b_MO_state 10 = .ok (.invokestatic 80, 3) := by decide +kernel
theorem d_MO_state_13 : decode b_MO_state 13 = .ok (.ifCond .eq 7, 3) := by decide +kernel
theorem d_MO_state_16 : decode b_MO_state 16 = .ok (.iconst 1, 1) := by decide +kernel
theorem d_MO_state_17 : decode b_MO_state 17 = .ok (.goto 4, 3) := by decide +kernel
theorem d_MO_state_20 : decode b_MO_state 20 = .ok (.iconst 0, 1) := by decide +kernel
theorem d_MO_state_21 : decode b_MO_state 21 = .ok (.iconst 1, 1) := by decide +kernel
theorem d_MO_state_22 : decode b_MO_state 22 = .ok (.invokevirtual 69, 3) := by decide +kernel
theorem d_MO_state_25 : decode b_MO_state 25 = .ok (.ifCond .eq 12, 3) := by decide +kernel
theorem d_MO_state_28 : decode b_MO_state 28 = .ok (.aload_n 0, 1) := by decide +kernel
theorem d_MO_state_29 : decode b_MO_state 29 = .ok (.iload_n 1, 1) := by decide +kernel
theorem d_MO_state_30 : decode b_MO_state 30 = .ok (.iload_n 2, 1) := by decide +kernel
theorem d_MO_state_31 : decode b_MO_state 31 = .ok (.invokevirtual 95, 3) := by decide +kernel
theorem d_MO_state_34 : decode b_MO_state 34 = .ok (.goto 4, 3) := by decide +kernel
theorem d_MO_state_37 : decode b_MO_state 37 = .ok (.iconst 0, 1) := by decide +kernel
theorem d_MO_state_38 : decode b_MO_state 38 = .ok (.ireturn, 1) := by decide +kernel
theorem d_MO_stateOf_0 : decode b_MO_stateOf 0 = .ok (.aload_n 0, 1) := by decide +kernel
theorem d_MO_stateOf_1 : decode b_MO_stateOf 1 = .ok (.iload_n 1, 1) := by decide +kernel
theorem d_MO_stateOf_2 : decode b_MO_stateOf 2 = .ok (.iload_n 2, 1) := by decide +kernel
theorem d_MO_stateOf_3 : decode b_MO_stateOf 3 = .ok (.invokevirtual 87, 3) := by decide +kernel
theorem d_MO_stateOf_6 : decode b_MO_stateOf 6 = .ok (.istore_n 3, 1) := by decide +kernel
theorem d_MO_stateOf_7 : decode b_MO_stateOf 7 = .ok (.iconst 0, 1) := by decide +kernel
theorem d_MO_stateOf_8 : decode b_MO_stateOf 8 = .ok (.istore 4, 2) := by decide +kernel
theorem d_MO_stateOf_10 : decode b_MO_stateOf 10 = .ok (.iconst 0, 1) := by decide +kernel
theorem d_MO_stateOf_11 : decode b_MO_stateOf 11 = .ok (.istore 5, 2) := by decide +kernel
theorem d_MO_stateOf_13 : decode b_MO_stateOf 13 = .ok (.iconst 0, 1) := by decide +kernel
theorem d_MO_stateOf_14 : decode b_MO_stateOf 14 = .ok (.istore 6, 2) := by decide +kernel
theorem d_MO_stateOf_16 : decode b_MO_stateOf 16 = .ok (.iload 6, 2) := by decide +kernel
theorem d_MO_stateOf_18 : decode b_MO_stateOf 18 = .ok (.bipush 10, 2) := by decide +kernel
theorem d_MO_stateOf_20 : decode b_MO_stateOf 20 = .ok (.if_icmp .ge 53, 3) := by decide +kernel
theorem d_MO_stateOf_23 : decode b_MO_stateOf 23 = .ok (.aload_n 0, 1) := by decide +kernel
theorem d_MO_stateOf_24 : decode b_MO_stateOf 24 = .ok (.iload_n 1, 1) := by decide +kernel
theorem d_MO_stateOf_25 : decode b_MO_stateOf 25 = .ok (.iload 6, 2) := by decide +kernel
theorem d_MO_stateOf_27 : decode b_MO_stateOf 27 = .ok (.iload_n 2, 1) := by decide +kernel
theorem d_MO_stateOf_28 : decode b_MO_stateOf 28 = .ok (.iload_n 3, 1) := by decide +kernel
theorem d_MO_stateOf_29 : decode b_MO_stateOf 29 = .ok (.invokevirtual 91, 3) := by decide +kernel
theorem d_MO_stateOf_32 : decode b_MO_stateOf 32 = .ok (.istore 7, 2) := by decide +kernel
theorem d_MO_stateOf_34 : decode b_MO_stateOf 34 = .ok (.iload 7, 2) := by decide +kernel
theorem d_MO_stateOf_36 : decode b_MO_stateOf 36 = .ok (.iconst 1, 1) := by decide +kernel
theorem d_MO_stateOf_37 : decode b_MO_stateOf 37 = .ok (.if_icmp .ne 10, 3) := by decide +kernel
theorem d_MO_stateOf_40 : decode b_MO_stateOf 40 = .ok (.iload 4, 2) := by decide +kernel
theorem d_MO_stateOf_42 : decode b_MO_stateOf 42 = .ok (.iconst 1, 1) := by decide +kernel
theorem d_MO_stateOf_43 : decode b_MO_stateOf 43 = .ok (.iadd, 1) := by decide +kernel
theorem d_MO_stateOf_44 : decode b_MO_stateOf 44 = .ok (.goto 5, 3) := by decide +kernel
theorem d_MO_stateOf_47 : decode b_MO_stateOf 47 = .ok (.iload 4, 2) := by decide +kernel
theorem d_MO_stateOf_49 : decode b_MO_stateOf 49 = .ok (.istore 4, 2) := by decide +kernel
theorem d_MO_stateOf_51 : decode b_MO_stateOf 51 = .ok (.iload 7, 2) := by decide +kernel
theorem d_MO_stateOf_53 : decode b_MO_stateOf 53 = .ok (.ifCond .ne 10, 3) := by decide +kernel
theorem d_MO_stateOf_56 : decode b_MO_stateOf 56 = .ok (.iload 5, 2) := by decide +kernel
theorem d_MO_stateOf_58 : decode b_MO_stateOf 58 = .ok (.iconst 1, 1) := by decide +kernel
theorem d_MO_stateOf_59 : decode b_MO_stateOf 59 = .ok (.iadd, 1) := by decide +kernel
theorem d_MO_stateOf_60 : decode b_MO_stateOf 60 = .ok (.goto 5, 3) := by decide +kernel
theorem d_MO_stateOf_63 : decode b_MO_stateOf 63 = .ok (.iload 5, 2) := by decide +kernel
theorem d_MO_stateOf_65 : decode b_MO_stateOf 65 = .ok (.istore 5, 2) := by decide +kernel
theorem d_MO_stateOf_67 : decode b_MO_stateOf 67 = .ok (.iinc 6 1, 3) := by decide +kernel
theorem d_MO_stateOf_70 : decode b_MO_stateOf 70 = .ok (.goto (-54), 3) := by decide +kernel
theorem d_MO_stateOf_73 : decode b_MO_stateOf 73 = .ok (.iload 4, 2) := by decide +kernel
theorem d_MO_stateOf_75 : decode b_MO_stateOf 75 = .ok (.ifCond .le 12, 3) := by decide +kernel
theorem d_MO_stateOf_78 : decode b_MO_stateOf 78 = .ok (.iload 5, 2) := by decide +kernel
theorem d_MO_stateOf_80 : decode b_MO_stateOf 80 = .ok (.ifCond .le 7, 3) := by decide +kernel
theorem d_MO_stateOf_83 : decode b_MO_stateOf 83 = .ok (.iconst 2, 1) := by decide +kernel
theorem d_MO_stateOf_84 : decode b_MO_stateOf 84 = .ok (.goto 23, 3) := by decide +kernel
theorem d_MO_stateOf_87 : decode b_MO_stateOf 87 = .ok (.iload 5, 2) := by decide +kernel
theorem d_MO_stateOf_89 : decode b_MO_stateOf 89 = .ok (.ifCond .le 7, 3) := by decide +kernel
theorem d_MO_stateOf_92 : decode b_MO_stateOf 92 = .ok (.iconst 1, 1) := by decide +kernel
theorem d_MO_stateOf_93 : decode b_MO_stateOf 93 = .ok (.goto 14, 3) := by decide +kernel
theorem d_MO_stateOf_96 : decode b_MO_stateOf 96 = .ok (.iload 4, 2) := by decide +kernel
theorem d_MO_stateOf_98 : decode b_MO_stateOf 98 = .ok (.iconst 1, 1) := by decide +kernel
theorem d_MO_stateOf_99 : decode b_MO_stateOf 99 = .ok (.if_icmp .le 7, 3) := by decide +kernel
theorem d_MO_stateOf_102 : decode b_MO_stateOf 102 = .ok (.iconst 3, 1) := by decide +kernel
theorem d_MO_stateOf_103 : decode b_MO_stateOf 103 = .ok (.goto 4, 3) := by decide +kernel
theorem d_MO_stateOf_106 : decode b_MO_stateOf 106 = .ok (.iconst 0, 1) := by decide +kernel
theorem d_MO_stateOf_107 : decode b_MO_stateOf 107 = .ok (.ireturn, 1) := by decide +kernel
theorem d_MO_lastTouch_0 : decode b_MO_lastTouch 0 = .ok (.iload_n 2, 1) := by decide +kernel
theorem d_MO_lastTouch_1 : decode b_MO_lastTouch 1 = .ok (.ldc 68, 2) := by decide +kernel
theorem d_MO_lastTouch_3 : decode b_MO_lastTouch 3 = .ok (.if_icmp .le 8, 3) := by decide +kernel
theorem d_MO_lastTouch_6 : decode b_MO_lastTouch 6 = .ok (.ldc 68, 2) := by decide +kernel
theorem d_MO_lastTouch_8 : decode b_MO_lastTouch 8 = .ok (.goto 4, 3) := by decide +kernel
theorem d_MO_lastTouch_11 : decode b_MO_lastTouch 11 = .ok (.iload_n 2, 1) := by decide +kernel
theorem d_MO_lastTouch_12 : decode b_MO_lastTouch 12 = .ok (.istore_n 3, 1) := by decide +kernel
theorem d_MO_lastTouch_13 : decode b_MO_lastTouch 13 = .ok (.iload_n 3, 1) := by decide +kernel
theorem d_MO_lastTouch_14 : decode b_MO_lastTouch 14 = .ok (.ifCond .lt 53, 3) := by decide +kernel
theorem d_MO_lastTouch_17 : decode b_MO_lastTouch 17 = .ok (.aload_n 0, 1) := by decide +kernel
theorem d_MO_lastTouch_18 : decode b_MO_lastTouch 18 = .ok (.iload_n 1, 1) := by decide +kernel
theorem d_MO_lastTouch_19 : decode b_MO_lastTouch 19 = .ok (.iload_n 3, 1) := by decide +kernel
theorem d_MO_lastTouch_20 : decode b_MO_lastTouch 20 = .ok (.invokevirtual 83, 3) := by decide +kernel
theorem d_MO_lastTouch_23 : decode b_MO_lastTouch 23 = .ok (.ifCond .ne 44, 3) := by decide +kernel
theorem d_MO_lastTouch_26 : decode b_MO_lastTouch 26 = .ok (.iload_n 3, 1) := by decide +kernel
theorem d_MO_lastTouch_27 : decode b_MO_lastTouch 27 = .ok (.bipush 32, 2) := by decide +kernel
theorem d_MO_lastTouch_29 : decode b_MO_lastTouch 29 = .ok (.irem, 1) := by decide +kernel
theorem d_MO_lastTouch_30 : decode b_MO_lastTouch 30 = .ok (.bipush 31, 2) := by decide +kernel
theorem d_MO_lastTouch_32 : decode b_MO_lastTouch 32 = .ok (.if_icmp .ne 28, 3) := by decide +kernel
theorem d_MO_lastTouch_35 : decode b_MO_lastTouch 35 = .ok (.aload_n 0, 1) := by decide +kernel
theorem d_MO_lastTouch_36 : decode b_MO_lastTouch 36 = .ok (.getfield 29, 3) := by decide +kernel
theorem d_MO_lastTouch_39 : decode b_MO_lastTouch 39 = .ok (.sipush 3126, 3) := by decide +kernel
theorem d_MO_lastTouch_42 : decode b_MO_lastTouch 42 = .ok (.iload_n 1, 1) := by decide +kernel
theorem d_MO_lastTouch_43 : decode b_MO_lastTouch 43 = .ok (.imul, 1) := by decide +kernel
theorem d_MO_lastTouch_44 : decode b_MO_lastTouch 44 = .ok (.iload_n 3, 1) := by decide +kernel
theorem d_MO_lastTouch_45 : decode b_MO_lastTouch 45 = .ok (.bipush 32, 2) := by decide +kernel
theorem d_MO_lastTouch_47 : decode b_MO_lastTouch 47 = .ok (.idiv, 1) := by decide +kernel
theorem d_MO_lastTouch_48 : decode b_MO_lastTouch 48 = .ok (.iadd, 1) := by decide +kernel
theorem d_MO_lastTouch_49 : decode b_MO_lastTouch 49 = .ok (.iaload, 1) := by decide +kernel
theorem d_MO_lastTouch_50 : decode b_MO_lastTouch 50 = .ok (.ifCond .ne 10, 3) := by decide +kernel
theorem d_MO_lastTouch_53 : decode b_MO_lastTouch 53 = .ok (.iload_n 3, 1) := by decide +kernel
theorem d_MO_lastTouch_54 : decode b_MO_lastTouch 54 = .ok (.bipush 32, 2) := by decide +kernel
theorem d_MO_lastTouch_56 : decode b_MO_lastTouch 56 = .ok (.isub, 1) := by decide +kernel
theorem d_MO_lastTouch_57 : decode b_MO_lastTouch 57 = .ok (.goto 6, 3) := by decide +kernel
theorem d_MO_lastTouch_60 : decode b_MO_lastTouch 60 = .ok (.iload_n 3, 1) := by decide +kernel
theorem d_MO_lastTouch_61 : decode b_MO_lastTouch 61 = .ok (.iconst 1, 1) := by decide +kernel
theorem d_MO_lastTouch_62 : decode b_MO_lastTouch 62 = .ok (.isub, 1) := by decide +kernel
theorem d_MO_lastTouch_63 : decode b_MO_lastTouch 63 = .ok (.istore_n 3, 1) := by decide +kernel
theorem d_MO_lastTouch_64 : decode b_MO_lastTouch 64 = .ok (.goto (-51), 3) := by decide +kernel
theorem d_MO_lastTouch_67 : decode b_MO_lastTouch 67 = .ok (.iload_n 3, 1) := by decide +kernel
theorem d_MO_lastTouch_68 : decode b_MO_lastTouch 68 = .ok (.ifCond .ge 7, 3) := by decide +kernel
theorem d_MO_lastTouch_71 : decode b_MO_lastTouch 71 = .ok (.iconst (-1), 1) := by decide +kernel
theorem d_MO_lastTouch_72 : decode b_MO_lastTouch 72 = .ok (.goto 4, 3) := by decide +kernel
theorem d_MO_lastTouch_75 : decode b_MO_lastTouch 75 = .ok (.iload_n 3, 1) := by decide +kernel
theorem d_MO_lastTouch_76 : decode b_MO_lastTouch 76 = .ok (.ireturn, 1) := by decide +kernel
theorem d_MO_isTouched_0 : decode b_MO_isTouched 0 = .ok (.aload_n 0, 1) := by decide +kernel
theorem d_MO_isTouched_1 : decode b_MO_isTouched 1 = .ok (.getfield 29, 3) := by decide +kernel
theorem d_MO_isTouched_4 : decode b_MO_isTouched 4 = .ok (.sipush 3126, 3) := by decide +kernel
theorem d_MO_isTouched_7 : decode b_MO_isTouched 7 = .ok (.iload_n 1, 1) := by decide +kernel
theorem d_MO_isTouched_8 : decode b_MO_isTouched 8 = .ok (.imul, 1) := by decide +kernel
theorem d_MO_isTouched_9 : decode b_MO_isTouched 9 = .ok (.iload_n 2, 1) := by decide +kernel
theorem d_MO_isTouched_10 : decode b_MO_isTouched 10 = .ok (.bipush 32, 2) := by decide +kernel
theorem d_MO_isTouched_12 : decode b_MO_isTouched 12 = .ok (.idiv, 1) := by decide +kernel
theorem d_MO_isTouched_13 : decode b_MO_isTouched 13 = .ok (.iadd, 1) := by decide +kernel
theorem d_MO_isTouched_14 : decode b_MO_isTouched 14 = .ok (.iaload, 1) := by decide +kernel
theorem d_MO_isTouched_15 : decode b_MO_isTouched 15 = .ok (.iload_n 2, 1) := by decide +kernel
theorem d_MO_isTouched_16 : decode b_MO_isTouched 16 = .ok (.bipush 32, 2) := by decide +kernel
theorem d_MO_isTouched_18 : decode b_MO_isTouched 18 = .ok (.irem, 1) := by decide +kernel
theorem d_MO_isTouched_19 : decode b_MO_isTouched 19 = .ok (.iushr, 1) := by decide +kernel
theorem d_MO_isTouched_20 : decode b_MO_isTouched 20 = .ok (.iconst 1, 1) := by decide +kernel
theorem d_MO_isTouched_21 : decode b_MO_isTouched 21 = .ok (.iand, 1) := by decide +kernel
theorem d_MO_isTouched_22 : decode b_MO_isTouched 22 = .ok (.iconst 1, 1) := by decide +kernel
theorem d_MO_isTouched_23 : decode b_MO_isTouched 23 = .ok (.if_icmp .ne 7, 3) := by decide +kernel
theorem d_MO_isTouched_26 : decode b_MO_isTouched 26 = .ok (.iconst 1, 1) := by decide +kernel
theorem d_MO_isTouched_27 : decode b_MO_isTouched 27 = .ok (.goto 4, 3) := by decide +kernel
theorem d_MO_isTouched_30 : decode b_MO_isTouched 30 = .ok (.iconst 0, 1) := by decide +kernel
theorem d_MO_isTouched_31 : decode b_MO_isTouched 31 = .ok (.ireturn, 1) := by decide +kernel
theorem d_MO_wordOf_0 : decode b_MO_wordOf 0 = .ok (.iconst (-1), 1) := by decide +kernel
theorem d_MO_wordOf_1 : decode b_MO_wordOf 1 = .ok (.istore 5, 2) := by decide +kernel
theorem d_MO_wordOf_3 : decode b_MO_wordOf 3 = .ok (.iconst 0, 1) := by decide +kernel
theorem d_MO_wordOf_4 : decode b_MO_wordOf 4 = .ok (.istore 6, 2) := by decide +kernel
theorem d_MO_wordOf_6 : decode b_MO_wordOf 6 = .ok (.iload 6, 2) := by decide +kernel
theorem d_MO_wordOf_8 : decode b_MO_wordOf 8 = .ok (.aload_n 0, 1) := by decide +kernel
theorem d_MO_wordOf_9 : decode b_MO_wordOf 9 = .ok (.getfield 32, 3) := by decide +kernel
theorem d_MO_wordOf_12 : decode b_MO_wordOf 12 = .ok (.iload_n 1, 1) := by decide +kernel
theorem d_MO_wordOf_13 : decode b_MO_wordOf 13 = .ok (.iaload, 1) := by decide +kernel
theorem d_MO_wordOf_14 : decode b_MO_wordOf 14 = .ok (.if_icmp .ge 112, 3) := by decide +kernel
theorem d_MO_wordOf_17 : decode b_MO_wordOf 17 = .ok (.bipush 32, 2) := by decide +kernel
theorem d_MO_wordOf_19 : decode b_MO_wordOf 19 = .ok (.iload_n 1, 1) := by decide +kernel
theorem d_MO_wordOf_20 : decode b_MO_wordOf 20 = .ok (.imul, 1) := by decide +kernel
theorem d_MO_wordOf_21 : decode b_MO_wordOf 21 = .ok (.iload 6, 2) := by decide +kernel
theorem d_MO_wordOf_23 : decode b_MO_wordOf 23 = .ok (.iadd, 1) := by decide +kernel
theorem d_MO_wordOf_24 : decode b_MO_wordOf 24 = .ok (.istore 7, 2) := by decide +kernel
theorem d_MO_wordOf_26 : decode b_MO_wordOf 26 = .ok (.aload_n 0, 1) := by decide +kernel
theorem d_MO_wordOf_27 : decode b_MO_wordOf 27 = .ok (.getfield 35, 3) := by decide +kernel
theorem d_MO_wordOf_30 : decode b_MO_wordOf 30 = .ok (.iload 7, 2) := by decide +kernel
theorem d_MO_wordOf_32 : decode b_MO_wordOf 32 = .ok (.iaload, 1) := by decide +kernel
theorem d_MO_wordOf_33 : decode b_MO_wordOf 33 = .ok (.iload_n 2, 1) := by decide +kernel
theorem d_MO_wordOf_34 : decode b_MO_wordOf 34 = .ok (.if_icmp .ne 46, 3) := by decide +kernel
theorem d_MO_wordOf_37 : decode b_MO_wordOf 37 = .ok (.aload_n 0, 1) := by decide +kernel
theorem d_MO_wordOf_38 : decode b_MO_wordOf 38 = .ok (.getfield 38, 3) := by decide +kernel
theorem d_MO_wordOf_41 : decode b_MO_wordOf 41 = .ok (.iload 7, 2) := by decide +kernel
theorem d_MO_wordOf_43 : decode b_MO_wordOf 43 = .ok (.iaload, 1) := by decide +kernel
theorem d_MO_wordOf_44 : decode b_MO_wordOf 44 = .ok (.iload_n 3, 1) := by decide +kernel
theorem d_MO_wordOf_45 : decode b_MO_wordOf 45 = .ok (.if_icmp .gt 35, 3) := by decide +kernel
theorem d_MO_wordOf_48 : decode b_MO_wordOf 48 = .ok (.aload_n 0, 1) := by decide +kernel
theorem d_MO_wordOf_49 : decode b_MO_wordOf 49 = .ok (.getfield 38, 3) := by decide +kernel
theorem d_MO_wordOf_52 : decode b_MO_wordOf 52 = .ok (.iload 7, 2) := by decide +kernel
theorem d_MO_wordOf_54 : decode b_MO_wordOf 54 = .ok (.iaload, 1) := by decide +kernel
theorem d_MO_wordOf_55 : decode b_MO_wordOf 55 = .ok (.iload_n 3, 1) := by decide +kernel
theorem d_MO_wordOf_56 : decode b_MO_wordOf 56 = .ok (.aload_n 0, 1) := by decide +kernel
theorem d_MO_wordOf_57 : decode b_MO_wordOf 57 = .ok (.getfield 54, 3) := by decide +kernel
theorem d_MO_wordOf_60 : decode b_MO_wordOf 60 = .ok (.isub, 1) := by decide +kernel
theorem d_MO_wordOf_61 : decode b_MO_wordOf 61 = .ok (.if_icmp .lt 19, 3) := by decide +kernel
theorem d_MO_wordOf_64 : decode b_MO_wordOf 64 = .ok (.aload_n 0, 1) := by decide +kernel
theorem d_MO_wordOf_65 : decode b_MO_wordOf 65 = .ok (.getfield 38, 3) := by decide +kernel
theorem d_MO_wordOf_68 : decode b_MO_wordOf 68 = .ok (.iload 7, 2) := by decide +kernel
theorem d_MO_wordOf_70 : decode b_MO_wordOf 70 = .ok (.iaload, 1) := by decide +kernel
theorem d_MO_wordOf_71 : decode b_MO_wordOf 71 = .ok (.iload 4, 2) := by decide +kernel
theorem d_MO_wordOf_73 : decode b_MO_wordOf 73 = .ok (.if_icmp .le 7, 3) := by decide +kernel
theorem d_MO_wordOf_76 : decode b_MO_wordOf 76 = .ok (.iconst 1, 1) := by decide +kernel
theorem d_MO_wordOf_77 : decode b_MO_wordOf 77 = .ok (.goto 4, 3) := by decide +kernel
theorem d_MO_wordOf_80 : decode b_MO_wordOf 80 = .ok (.iconst 0, 1) := by decide +kernel
theorem d_MO_wordOf_81 : decode b_MO_wordOf 81 = .ok (.istore 8, 2) := by decide +kernel
theorem d_MO_wordOf_83 : decode b_MO_wordOf 83 = .ok (.iload 8, 2) := by decide +kernel
theorem d_MO_wordOf_85 : decode b_MO_wordOf 85 = .ok (.ifCond .eq 31, 3) := by decide +kernel
theorem d_MO_wordOf_88 : decode b_MO_wordOf 88 = .ok (.iload 5, 2) := by decide +kernel
theorem d_MO_wordOf_90 : decode b_MO_wordOf 90 = .ok (.iconst (-1), 1) := by decide +kernel
theorem d_MO_wordOf_91 : decode b_MO_wordOf 91 = .ok (.if_icmp .eq 20, 3) := by decide +kernel
theorem d_MO_wordOf_94 : decode b_MO_wordOf 94 = .ok (.aload_n 0, 1) := by decide +kernel
theorem d_MO_wordOf_95 : decode b_MO_wordOf 95 = .ok (.getfield 38, 3) := by decide +kernel
theorem d_MO_wordOf_98 : decode b_MO_wordOf 98 = .ok (.iload 7, 2) := by decide +kernel
theorem d_MO_wordOf_100 : decode b_MO_wordOf 100 = .ok (.iaload, 1) := by decide +kernel
theorem d_MO_wordOf_101 : decode b_MO_wordOf 101 = .ok (.aload_n 0, 1) := by decide +kernel
theorem d_MO_wordOf_102 : decode b_MO_wordOf 102 = .ok (.getfield 38, 3) := by decide +kernel
theorem d_MO_wordOf_105 : decode b_MO_wordOf 105 = .ok (.iload 5, 2) := by decide +kernel
theorem d_MO_wordOf_107 : decode b_MO_wordOf 107 = .ok (.iaload, 1) := by decide +kernel
theorem d_MO_wordOf_108 : decode b_MO_wordOf 108 = .ok (.if_icmp .le 8, 3) := by decide +kernel
theorem d_MO_wordOf_111 : decode b_MO_wordOf 111 = .ok (.iload 7, 2) := by decide +kernel
theorem d_MO_wordOf_113 : decode b_MO_wordOf 113 = .ok (.goto 5, 3) := by decide +kernel
theorem d_MO_wordOf_116 : decode b_MO_wordOf 116 = .ok (.iload 5, 2) := by decide +kernel
theorem d_MO_wordOf_118 : decode b_MO_wordOf 118 = .ok (.istore 5, 2) := by decide +kernel
theorem d_MO_wordOf_120 : decode b_MO_wordOf 120 = .ok (.iinc 6 1, 3) := by decide +kernel
theorem d_MO_wordOf_123 : decode b_MO_wordOf 123 = .ok (.goto (-117), 3) := by decide +kernel
theorem d_MO_wordOf_126 : decode b_MO_wordOf 126 = .ok (.iload 5, 2) := by decide +kernel
theorem d_MO_wordOf_128 : decode b_MO_wordOf 128 = .ok (.iconst (-1), 1) := by decide +kernel
theorem d_MO_wordOf_129 : decode b_MO_wordOf 129 = .ok (.if_icmp .ne 7, 3) := by decide +kernel
theorem d_MO_wordOf_132 : decode b_MO_wordOf 132 = .ok (.iconst (-1), 1) := by decide +kernel
theorem d_MO_wordOf_133 : decode b_MO_wordOf 133 = .ok (.goto 18, 3) := by decide +kernel
theorem d_MO_wordOf_136 : decode b_MO_wordOf 136 = .ok (.aload_n 0, 1) := by decide +kernel
theorem d_MO_wordOf_137 : decode b_MO_wordOf 137 = .ok (.getfield 41, 3) := by decide +kernel
theorem d_MO_wordOf_140 : decode b_MO_wordOf 140 = .ok (.iload 5, 2) := by decide +kernel
theorem d_MO_wordOf_142 : decode b_MO_wordOf 142 = .ok (.baload, 1) := by decide +kernel
theorem d_MO_wordOf_143 : decode b_MO_wordOf 143 = .ok (.ifCond .eq 7, 3) := by decide +kernel
theorem d_MO_wordOf_146 : decode b_MO_wordOf 146 = .ok (.iconst 1, 1) := by decide +kernel
theorem d_MO_wordOf_147 : decode b_MO_wordOf 147 = .ok (.goto 4, 3) := by decide +kernel
theorem d_MO_wordOf_150 : decode b_MO_wordOf 150 = .ok (.iconst 0, 1) := by decide +kernel
theorem d_MO_wordOf_151 : decode b_MO_wordOf 151 = .ok (.ireturn, 1) := by decide +kernel
theorem d_MO_word_0 : decode b_MO_word 0 = .ok (.aload_n 0, 1) := by decide +kernel
theorem d_MO_word_1 : decode b_MO_word 1 = .ok (.aload_n 0, 1) := by decide +kernel
theorem d_MO_word_2 : decode b_MO_word 2 = .ok (.iload_n 1, 1) := by decide +kernel
theorem d_MO_word_3 : decode b_MO_word 3 = .ok (.invokevirtual 76, 3) := by decide +kernel
theorem d_MO_word_6 : decode b_MO_word 6 = .ok (.ifCond .eq 24, 3) := by decide +kernel
theorem d_MO_word_9 : decode b_MO_word 9 = .ok (.iload_n 2, 1) := by decide +kernel
theorem d_MO_word_10 : decode b_MO_word 10 = .ok (.iconst 0, 1) := by decide +kernel
theorem d_MO_word_11 : decode b_MO_word 11 = .ok (.bipush 9, 2) := by decide +kernel
theorem d_MO_word_13 : decode b_MO_word 13 = .ok (.invokestatic 64, 3) := by decide +kernel
theorem d_MO_word_16 : decode b_MO_word 16 = .ok (.ifCond .eq 14, 3) := by decide +kernel
theorem d_MO_word_19 : decode b_MO_word 19 = .ok (.iload_n 3, 1) := by decide +kernel
theorem d_MO_word_20 : decode b_MO_word 20 = .ok (.invokestatic 80, 3) := by decide +kernel
theorem d_MO_word_23 : decode b_MO_word 23 = .ok (.ifCond .eq 7, 3) := by decide +kernel
theorem d_MO_word_26 : decode b_MO_word 26 = .ok (.iconst 1, 1) := by decide +kernel
theorem d_MO_word_27 : decode b_MO_word 27 = .ok (.goto 4, 3) := by decide +kernel
theorem d_MO_word_30 : decode b_MO_word 30 = .ok (.iconst 0, 1) := by decide +kernel
theorem d_MO_word_31 : decode b_MO_word 31 = .ok (.iconst 1, 1) := by decide +kernel
theorem d_MO_word_32 : decode b_MO_word 32 = .ok (.invokevirtual 69, 3) := by decide +kernel
theorem d_MO_word_35 : decode b_MO_word 35 = .ok (.ifCond .eq 19, 3) := by decide +kernel
theorem d_MO_word_38 : decode b_MO_word 38 = .ok (.aload_n 0, 1) := by decide +kernel
theorem d_MO_word_39 : decode b_MO_word 39 = .ok (.iload_n 1, 1) := by decide +kernel
theorem d_MO_word_40 : decode b_MO_word 40 = .ok (.iload_n 2, 1) := by decide +kernel
theorem d_MO_word_41 : decode b_MO_word 41 = .ok (.iload_n 3, 1) := by decide +kernel
theorem d_MO_word_42 : decode b_MO_word 42 = .ok (.aload_n 0, 1) := by decide +kernel
theorem d_MO_word_43 : decode b_MO_word 43 = .ok (.iload_n 1, 1) := by decide +kernel
theorem d_MO_word_44 : decode b_MO_word 44 = .ok (.iload_n 3, 1) := by decide +kernel
theorem d_MO_word_45 : decode b_MO_word 45 = .ok (.invokevirtual 87, 3) := by decide +kernel
theorem d_MO_word_48 : decode b_MO_word 48 = .ok (.invokevirtual 91, 3) := by decide +kernel
theorem d_MO_word_51 : decode b_MO_word 51 = .ok (.goto 4, 3) := by decide +kernel
theorem d_MO_word_54 : decode b_MO_word 54 = .ok (.iconst 0, 1) := by decide +kernel
theorem d_MO_word_55 : decode b_MO_word 55 = .ok (.ireturn, 1) := by decide +kernel
theorem d_MO_listed_0 : decode b_MO_listed 0 = .ok (.aload_n 0, 1) := by decide +kernel
theorem d_MO_listed_1 : decode b_MO_listed 1 = .ok (.iload_n 1, 1) := by decide +kernel
theorem d_MO_listed_2 : decode b_MO_listed 2 = .ok (.iconst 0, 1) := by decide +kernel
theorem d_MO_listed_3 : decode b_MO_listed 3 = .ok (.iconst 3, 1) := by decide +kernel
theorem d_MO_listed_4 : decode b_MO_listed 4 = .ok (.invokestatic 64, 3) := by decide +kernel
theorem d_MO_listed_7 : decode b_MO_listed 7 = .ok (.ifCond .eq 18, 3) := by decide +kernel
theorem d_MO_listed_10 : decode b_MO_listed 10 = .ok (.iload_n 2, 1) := by decide +kernel
theorem d_MO_listed_11 : decode b_MO_listed 11 = .ok (.invokestatic 80, 3) := by decide +kernel
theorem d_MO_listed_14 : decode b_MO_listed 14 = .ok (.ifCond .eq 11, 3) := by decide +kernel
theorem d_MO_listed_17 : decode b_MO_listed 17 = .ok (.iload_n 3, 1) := by decide +kernel
theorem d_MO_listed_18 : decode b_MO_listed 18 = .ok (.ifCond .lt 7, 3) := by decide +kernel
theorem d_MO_listed_21 : decode b_MO_listed 21 = .ok (.iconst 1, 1) := by decide +kernel
theorem d_MO_listed_22 : decode b_MO_listed 22 = .ok (.goto 4, 3) := by decide +kernel
theorem d_MO_listed_25 : decode b_MO_listed 25 = .ok (.iconst 0, 1) := by decide +kernel
theorem d_MO_listed_26 : decode b_MO_listed 26 = .ok (.iconst 1, 1) := by decide +kernel
theorem d_MO_listed_27 : decode b_MO_listed 27 = .ok (.invokevirtual 69, 3) := by decide +kernel
theorem d_MO_listed_30 : decode b_MO_listed 30 = .ok (.ifCond .ne 5, 3) := by decide +kernel
theorem d_MO_listed_33 : decode b_MO_listed 33 = .ok (.iconst 0, 1) := by decide +kernel
theorem d_MO_listed_34 : decode b_MO_listed 34 = .ok (.ireturn, 1) := by decide +kernel
theorem d_MO_listed_35 : decode b_MO_listed 35 = .ok (.iload_n 3, 1) := by decide +kernel
theorem d_MO_listed_36 : decode b_MO_listed 36 = .ok (.istore 4, 2) := by decide +kernel
theorem d_MO_listed_38 : decode b_MO_listed 38 = .ok (.iconst 0, 1) := by decide +kernel
theorem d_MO_listed_39 : decode b_MO_listed 39 = .ok (.istore 5, 2) := by decide +kernel
theorem d_MO_listed_41 : decode b_MO_listed 41 = .ok (.iload 5, 2) := by decide +kernel
theorem d_MO_listed_43 : decode b_MO_listed 43 = .ok (.aload_n 0, 1) := by decide +kernel
theorem d_MO_listed_44 : decode b_MO_listed 44 = .ok (.getfield 61, 3) := by decide +kernel
theorem d_MO_listed_47 : decode b_MO_listed 47 = .ok (.if_icmp .ge 31, 3) := by decide +kernel
theorem d_MO_listed_50 : decode b_MO_listed 50 = .ok (.aload_n 0, 1) := by decide +kernel
theorem d_MO_listed_51 : decode b_MO_listed 51 = .ok (.iload 5, 2) := by decide +kernel
theorem d_MO_listed_53 : decode b_MO_listed 53 = .ok (.iload_n 2, 1) := by decide +kernel
theorem d_MO_listed_54 : decode b_MO_listed 54 = .ok (.invokevirtual 95, 3) := by decide +kernel
theorem d_MO_listed_57 : decode b_MO_listed 57 = .ok (.iload_n 1, 1) := by decide +kernel
theorem d_MO_listed_58 : decode b_MO_listed 58 = .ok (.if_icmp .ne 14, 3) := by decide +kernel
theorem d_MO_listed_61 : decode b_MO_listed 61 = .ok (.iload 4, 2) := by decide +kernel
theorem d_MO_listed_63 : decode b_MO_listed 63 = .ok (.ifCond .ne 6, 3) := by decide +kernel
theorem d_MO_listed_66 : decode b_MO_listed 66 = .ok (.iload 5, 2) := by decide +kernel
theorem d_MO_listed_68 : decode b_MO_listed 68 = .ok (.ireturn, 1) := by decide +kernel
theorem d_MO_listed_69 : decode b_MO_listed 69 = .ok (.iinc 4 (-1), 3) := by decide +kernel
theorem d_MO_listed_72 : decode b_MO_listed 72 = .ok (.iinc 5 1, 3) := by decide +kernel
theorem d_MO_listed_75 : decode b_MO_listed 75 = .ok (.goto (-34), 3) := by decide +kernel
theorem d_MO_listed_78 : decode b_MO_listed 78 = .ok (.iconst (-1), 1) := by decide +kernel
theorem d_MO_listed_79 : decode b_MO_listed 79 = .ok (.ireturn, 1) := by decide +kernel
theorem d_MO_hidden_0 : decode b_MO_hidden 0 = .ok (.aload_n 0, 1) := by decide +kernel
theorem d_MO_hidden_1 : decode b_MO_hidden 1 = .ok (.iload_n 1, 1) := by decide +kernel
theorem d_MO_hidden_2 : decode b_MO_hidden 2 = .ok (.ifCond .lt 7, 3) := by decide +kernel
theorem d_MO_hidden_5 : decode b_MO_hidden 5 = .ok (.iconst 1, 1) := by decide +kernel
theorem d_MO_hidden_6 : decode b_MO_hidden 6 = .ok (.goto 4, 3) := by decide +kernel
theorem d_MO_hidden_9 : decode b_MO_hidden 9 = .ok (.iconst 0, 1) := by decide +kernel
theorem d_MO_hidden_10 : decode b_MO_hidden 10 = .ok (.iconst 1, 1) := by decide +kernel
theorem d_MO_hidden_11 : decode b_MO_hidden 11 = .ok (.invokevirtual 69, 3) := by decide +kernel
theorem d_MO_hidden_14 : decode b_MO_hidden 14 = .ok (.ifCond .ne 5, 3) := by decide +kernel
theorem d_MO_hidden_17 : decode b_MO_hidden 17 = .ok (.iconst 0, 1) := by decide +kernel
theorem d_MO_hidden_18 : decode b_MO_hidden 18 = .ok (.ireturn, 1) := by decide +kernel
theorem d_MO_hidden_19 : decode b_MO_hidden 19 = .ok (.iload_n 1, 1) := by decide +kernel
theorem d_MO_hidden_20 : decode b_MO_hidden 20 = .ok (.istore_n 2, 1) := by decide +kernel
theorem d_MO_hidden_21 : decode b_MO_hidden 21 = .ok (.iconst 0, 1) := by decide +kernel
theorem d_MO_hidden_22 : decode b_MO_hidden 22 = .ok (.istore_n 3, 1) := by decide +kernel
theorem d_MO_hidden_23 : decode b_MO_hidden 23 = .ok (.iload_n 3, 1) := by decide +kernel
theorem d_MO_hidden_24 : decode b_MO_hidden 24 = .ok (.aload_n 0, 1) := by decide +kernel
theorem d_MO_hidden_25 : decode b_MO_hidden 25 = .ok (.getfield 61, 3) := by decide +kernel
theorem d_MO_hidden_28 : decode b_MO_hidden 28 = .ok (.if_icmp .ge 29, 3) := by decide +kernel
theorem d_MO_hidden_31 : decode b_MO_hidden 31 = .ok (.aload_n 0, 1) := by decide +kernel
theorem d_MO_hidden_32 : decode b_MO_hidden 32 = .ok (.invokevirtual 98, 3) := by decide +kernel
theorem d_MO_hidden_35 : decode b_MO_hidden 35 = .ok (.iload_n 3, 1) := by decide +kernel
theorem d_MO_hidden_36 : decode b_MO_hidden 36 = .ok (.ishr, 1) := by decide +kernel
theorem d_MO_hidden_37 : decode b_MO_hidden 37 = .ok (.iconst 1, 1) := by decide +kernel
theorem d_MO_hidden_38 : decode b_MO_hidden 38 = .ok (.iand, 1) := by decide +kernel
theorem d_MO_hidden_39 : decode b_MO_hidden 39 = .ok (.ifCond .ne 12, 3) := by decide +kernel
theorem d_MO_hidden_42 : decode b_MO_hidden 42 = .ok (.iload_n 2, 1) := by decide +kernel
theorem d_MO_hidden_43 : decode b_MO_hidden 43 = .ok (.ifCond .ne 5, 3) := by decide +kernel
theorem d_MO_hidden_46 : decode b_MO_hidden 46 = .ok (.iload_n 3, 1) := by decide +kernel
theorem d_MO_hidden_47 : decode b_MO_hidden 47 = .ok (.ireturn, 1) := by decide +kernel
theorem d_MO_hidden_48 : decode b_MO_hidden 48 = .ok (.iinc 2 (-1), 3) := by decide +kernel
theorem d_MO_hidden_51 : decode b_MO_hidden 51 = .ok (.iinc 3 1, 3) := by decide +kernel
theorem d_MO_hidden_54 : decode b_MO_hidden 54 = .ok (.goto (-31), 3) := by decide +kernel
theorem d_MO_hidden_57 : decode b_MO_hidden 57 = .ok (.iconst (-1), 1) := by decide +kernel
theorem d_MO_hidden_58 : decode b_MO_hidden 58 = .ok (.ireturn, 1) := by decide +kernel
theorem d_MO_allShown_0 : decode b_MO_allShown 0 = .ok (.iconst 0, 1) := by decide +kernel
theorem d_MO_allShown_1 : decode b_MO_allShown 1 = .ok (.istore_n 1, 1) := by decide +kernel
theorem d_MO_allShown_2 : decode b_MO_allShown 2 = .ok (.iconst 0, 1) := by decide +kernel
theorem d_MO_allShown_3 : decode b_MO_allShown 3 = .ok (.istore_n 2, 1) := by decide +kernel
theorem d_MO_allShown_4 : decode b_MO_allShown 4 = .ok (.iload_n 2, 1) := by decide +kernel
theorem d_MO_allShown_5 : decode b_MO_allShown 5 = .ok (.aload_n 0, 1) := by decide +kernel
theorem d_MO_allShown_6 : decode b_MO_allShown 6 = .ok (.getfield 73, 3) := by decide +kernel
theorem d_MO_allShown_9 : decode b_MO_allShown 9 = .ok (.if_icmp .ge 18, 3) := by decide +kernel
theorem d_MO_allShown_12 : decode b_MO_allShown 12 = .ok (.iload_n 1, 1) := by decide +kernel
theorem d_MO_allShown_13 : decode b_MO_allShown 13 = .ok (.aload_n 0, 1) := by decide +kernel
theorem d_MO_allShown_14 : decode b_MO_allShown 14 = .ok (.getfield 22, 3) := by decide +kernel
theorem d_MO_allShown_17 : decode b_MO_allShown 17 = .ok (.iload_n 2, 1) := by decide +kernel
theorem d_MO_allShown_18 : decode b_MO_allShown 18 = .ok (.iaload, 1) := by decide +kernel
theorem d_MO_allShown_19 : decode b_MO_allShown 19 = .ok (.ior, 1) := by decide +kernel
theorem d_MO_allShown_20 : decode b_MO_allShown 20 = .ok (.istore_n 1, 1) := by decide +kernel
theorem d_MO_allShown_21 : decode b_MO_allShown 21 = .ok (.iinc 2 1, 3) := by decide +kernel
theorem d_MO_allShown_24 : decode b_MO_allShown 24 = .ok (.goto (-20), 3) := by decide +kernel
theorem d_MO_allShown_27 : decode b_MO_allShown 27 = .ok (.iload_n 1, 1) := by decide +kernel
theorem d_MO_allShown_28 : decode b_MO_allShown 28 = .ok (.ireturn, 1) := by decide +kernel
theorem d_MO_proves_0 : decode b_MO_proves 0 = .ok (.aload_n 0, 1) := by decide +kernel
theorem d_MO_proves_1 : decode b_MO_proves 1 = .ok (.aload_n 0, 1) := by decide +kernel
theorem d_MO_proves_2 : decode b_MO_proves 2 = .ok (.iload_n 1, 1) := by decide +kernel
theorem d_MO_proves_3 : decode b_MO_proves 3 = .ok (.invokevirtual 76, 3) := by decide +kernel
theorem d_MO_proves_6 : decode b_MO_proves 6 = .ok (.ifCond .eq 14, 3) := by decide +kernel
theorem d_MO_proves_9 : decode b_MO_proves 9 = .ok (.iload_n 2, 1) := by decide +kernel
theorem d_MO_proves_10 : decode b_MO_proves 10 = .ok (.invokestatic 80, 3) := by decide +kernel
theorem d_MO_proves_13 : decode b_MO_proves 13 = .ok (.ifCond .eq 7, 3) := by decide +kernel
theorem d_MO_proves_16 : decode b_MO_proves 16 = .ok (.iconst 1, 1) := by decide +kernel
theorem d_MO_proves_17 : decode b_MO_proves 17 = .ok (.goto 4, 3) := by decide +kernel
theorem d_MO_proves_20 : decode b_MO_proves 20 = .ok (.iconst 0, 1) := by decide +kernel
theorem d_MO_proves_21 : decode b_MO_proves 21 = .ok (.iconst 1, 1) := by decide +kernel
theorem d_MO_proves_22 : decode b_MO_proves 22 = .ok (.invokevirtual 69, 3) := by decide +kernel
theorem d_MO_proves_25 : decode b_MO_proves 25 = .ok (.ifCond .ne 5, 3) := by decide +kernel
theorem d_MO_proves_28 : decode b_MO_proves 28 = .ok (.iconst 0, 1) := by decide +kernel
theorem d_MO_proves_29 : decode b_MO_proves 29 = .ok (.ireturn, 1) := by decide +kernel
theorem d_MO_proves_30 : decode b_MO_proves 30 = .ok (.iload_n 2, 1) := by decide +kernel
theorem d_MO_proves_31 : decode b_MO_proves 31 = .ok (.istore_n 3, 1) := by decide +kernel
theorem d_MO_proves_32 : decode b_MO_proves 32 = .ok (.aload_n 0, 1) := by decide +kernel
theorem d_MO_proves_33 : decode b_MO_proves 33 = .ok (.iload_n 1, 1) := by decide +kernel
theorem d_MO_proves_34 : decode b_MO_proves 34 = .ok (.iload_n 3, 1) := by decide +kernel
theorem d_MO_proves_35 : decode b_MO_proves 35 = .ok (.invokevirtual 95, 3) := by decide +kernel
theorem d_MO_proves_38 : decode b_MO_proves 38 = .ok (.iconst 3, 1) := by decide +kernel
theorem d_MO_proves_39 : decode b_MO_proves 39 = .ok (.if_icmp .ne 13, 3) := by decide +kernel
theorem d_MO_proves_42 : decode b_MO_proves 42 = .ok (.aload_n 0, 1) := by decide +kernel
theorem d_MO_proves_43 : decode b_MO_proves 43 = .ok (.iload_n 1, 1) := by decide +kernel
theorem d_MO_proves_44 : decode b_MO_proves 44 = .ok (.iload_n 3, 1) := by decide +kernel
theorem d_MO_proves_45 : decode b_MO_proves 45 = .ok (.invokevirtual 103, 3) := by decide +kernel
theorem d_MO_proves_48 : decode b_MO_proves 48 = .ok (.istore_n 3, 1) := by decide +kernel
theorem d_MO_proves_49 : decode b_MO_proves 49 = .ok (.goto (-17), 3) := by decide +kernel
theorem d_MO_proves_52 : decode b_MO_proves 52 = .ok (.iload_n 3, 1) := by decide +kernel
theorem d_MO_proves_53 : decode b_MO_proves 53 = .ok (.ireturn, 1) := by decide +kernel
theorem d_MO_nextDay_0 : decode b_MO_nextDay 0 = .ok (.ldc 102, 2) := by decide +kernel
theorem d_MO_nextDay_2 : decode b_MO_nextDay 2 = .ok (.istore_n 3, 1) := by decide +kernel
theorem d_MO_nextDay_3 : decode b_MO_nextDay 3 = .ok (.iconst 0, 1) := by decide +kernel
theorem d_MO_nextDay_4 : decode b_MO_nextDay 4 = .ok (.istore 4, 2) := by decide +kernel
theorem d_MO_nextDay_6 : decode b_MO_nextDay 6 = .ok (.iload 4, 2) := by decide +kernel
theorem d_MO_nextDay_8 : decode b_MO_nextDay 8 = .ok (.aload_n 0, 1) := by decide +kernel
theorem d_MO_nextDay_9 : decode b_MO_nextDay 9 = .ok (.getfield 32, 3) := by decide +kernel
theorem d_MO_nextDay_12 : decode b_MO_nextDay 12 = .ok (.iload_n 1, 1) := by decide +kernel
theorem d_MO_nextDay_13 : decode b_MO_nextDay 13 = .ok (.iaload, 1) := by decide +kernel
theorem d_MO_nextDay_14 : decode b_MO_nextDay 14 = .ok (.if_icmp .ge 82, 3) := by decide +kernel
theorem d_MO_nextDay_17 : decode b_MO_nextDay 17 = .ok (.aload_n 0, 1) := by decide +kernel
theorem d_MO_nextDay_18 : decode b_MO_nextDay 18 = .ok (.getfield 38, 3) := by decide +kernel
theorem d_MO_nextDay_21 : decode b_MO_nextDay 21 = .ok (.bipush 32, 2) := by decide +kernel
theorem d_MO_nextDay_23 : decode b_MO_nextDay 23 = .ok (.iload_n 1, 1) := by decide +kernel
theorem d_MO_nextDay_24 : decode b_MO_nextDay 24 = .ok (.imul, 1) := by decide +kernel
theorem d_MO_nextDay_25 : decode b_MO_nextDay 25 = .ok (.iload 4, 2) := by decide +kernel
theorem d_MO_nextDay_27 : decode b_MO_nextDay 27 = .ok (.iadd, 1) := by decide +kernel
theorem d_MO_nextDay_28 : decode b_MO_nextDay 28 = .ok (.iaload, 1) := by decide +kernel
theorem d_MO_nextDay_29 : decode b_MO_nextDay 29 = .ok (.istore 5, 2) := by decide +kernel
theorem d_MO_nextDay_31 : decode b_MO_nextDay 31 = .ok (.iload 5, 2) := by decide +kernel
theorem d_MO_nextDay_33 : decode b_MO_nextDay 33 = .ok (.iload_n 2, 1) := by decide +kernel
theorem d_MO_nextDay_34 : decode b_MO_nextDay 34 = .ok (.if_icmp .le 14, 3) := by decide +kernel
theorem d_MO_nextDay_37 : decode b_MO_nextDay 37 = .ok (.iload 5, 2) := by decide +kernel
theorem d_MO_nextDay_39 : decode b_MO_nextDay 39 = .ok (.iload_n 3, 1) := by decide +kernel
theorem d_MO_nextDay_40 : decode b_MO_nextDay 40 = .ok (.if_icmp .ge 8, 3) := by decide +kernel
theorem d_MO_nextDay_43 : decode b_MO_nextDay 43 = .ok (.iload 5, 2) := by decide +kernel
theorem d_MO_nextDay_45 : decode b_MO_nextDay 45 = .ok (.goto 4, 3) := by decide +kernel
theorem d_MO_nextDay_48 : decode b_MO_nextDay 48 = .ok (.iload_n 3, 1) := by decide +kernel
theorem d_MO_nextDay_49 : decode b_MO_nextDay 49 = .ok (.istore_n 3, 1) := by decide +kernel
theorem d_MO_nextDay_50 : decode b_MO_nextDay 50 = .ok (.iload 5, 2) := by decide +kernel
theorem d_MO_nextDay_52 : decode b_MO_nextDay 52 = .ok (.aload_n 0, 1) := by decide +kernel
theorem d_MO_nextDay_53 : decode b_MO_nextDay 53 = .ok (.getfield 54, 3) := by decide +kernel
theorem d_MO_nextDay_56 : decode b_MO_nextDay 56 = .ok (.iadd, 1) := by decide +kernel
theorem d_MO_nextDay_57 : decode b_MO_nextDay 57 = .ok (.iconst 1, 1) := by decide +kernel
theorem d_MO_nextDay_58 : decode b_MO_nextDay 58 = .ok (.iadd, 1) := by decide +kernel
theorem d_MO_nextDay_59 : decode b_MO_nextDay 59 = .ok (.iload_n 2, 1) := by decide +kernel
theorem d_MO_nextDay_60 : decode b_MO_nextDay 60 = .ok (.if_icmp .le 28, 3) := by decide +kernel
theorem d_MO_nextDay_63 : decode b_MO_nextDay 63 = .ok (.iload 5, 2) := by decide +kernel
theorem d_MO_nextDay_65 : decode b_MO_nextDay 65 = .ok (.aload_n 0, 1) := by decide +kernel
theorem d_MO_nextDay_66 : decode b_MO_nextDay 66 = .ok (.getfield 54, 3) := by decide +kernel
theorem d_MO_nextDay_69 : decode b_MO_nextDay 69 = .ok (.iadd, 1) := by decide +kernel
theorem d_MO_nextDay_70 : decode b_MO_nextDay 70 = .ok (.iconst 1, 1) := by decide +kernel
theorem d_MO_nextDay_71 : decode b_MO_nextDay 71 = .ok (.iadd, 1) := by decide +kernel
theorem d_MO_nextDay_72 : decode b_MO_nextDay 72 = .ok (.iload_n 3, 1) := by decide +kernel
theorem d_MO_nextDay_73 : decode b_MO_nextDay 73 = .ok (.if_icmp .ge 15, 3) := by decide +kernel
theorem d_MO_nextDay_76 : decode b_MO_nextDay 76 = .ok (.iload 5, 2) := by decide +kernel
theorem d_MO_nextDay_78 : decode b_MO_nextDay 78 = .ok (.aload_n 0, 1) := by decide +kernel
theorem d_MO_nextDay_79 : decode b_MO_nextDay 79 = .ok (.getfield 54, 3) := by decide +kernel
theorem d_MO_nextDay_82 : decode b_MO_nextDay 82 = .ok (.iadd, 1) := by decide +kernel
theorem d_MO_nextDay_83 : decode b_MO_nextDay 83 = .ok (.iconst 1, 1) := by decide +kernel
theorem d_MO_nextDay_84 : decode b_MO_nextDay 84 = .ok (.iadd, 1) := by decide +kernel
theorem d_MO_nextDay_85 : decode b_MO_nextDay 85 = .ok (.goto 4, 3) := by decide +kernel
theorem d_MO_nextDay_88 : decode b_MO_nextDay 88 = .ok (.iload_n 3, 1) := by decide +kernel
theorem d_MO_nextDay_89 : decode b_MO_nextDay 89 = .ok (.istore_n 3, 1) := by decide +kernel
theorem d_MO_nextDay_90 : decode b_MO_nextDay 90 = .ok (.iinc 4 1, 3) := by decide +kernel
theorem d_MO_nextDay_93 : decode b_MO_nextDay 93 = .ok (.goto (-87), 3) := by decide +kernel
theorem d_MO_nextDay_96 : decode b_MO_nextDay 96 = .ok (.iload_n 2, 1) := by decide +kernel
theorem d_MO_nextDay_97 : decode b_MO_nextDay 97 = .ok (.iconst 1, 1) := by decide +kernel
theorem d_MO_nextDay_98 : decode b_MO_nextDay 98 = .ok (.iadd, 1) := by decide +kernel
theorem d_MO_nextDay_99 : decode b_MO_nextDay 99 = .ok (.istore 4, 2) := by decide +kernel
theorem d_MO_nextDay_101 : decode b_MO_nextDay 101 = .ok (.iload 4, 2) := by decide +kernel
theorem d_MO_nextDay_103 : decode b_MO_nextDay 103 = .ok (.ldc 68, 2) := by decide +kernel
theorem d_MO_nextDay_105 : decode b_MO_nextDay 105 = .ok (.if_icmp .gt 63, 3) := by decide +kernel
theorem d_MO_nextDay_108 : decode b_MO_nextDay 108 = .ok (.iload 4, 2) := by decide +kernel
theorem d_MO_nextDay_110 : decode b_MO_nextDay 110 = .ok (.iload_n 3, 1) := by decide +kernel
theorem d_MO_nextDay_111 : decode b_MO_nextDay 111 = .ok (.if_icmp .ge 57, 3) := by decide +kernel
theorem d_MO_nextDay_114 : decode b_MO_nextDay 114 = .ok (.aload_n 0, 1) := by decide +kernel
theorem d_MO_nextDay_115 : decode b_MO_nextDay 115 = .ok (.iload_n 1, 1) := by decide +kernel
theorem d_MO_nextDay_116 : decode b_MO_nextDay 116 = .ok (.iload 4, 2) := by decide +kernel
theorem d_MO_nextDay_118 : decode b_MO_nextDay 118 = .ok (.invokevirtual 83, 3) := by decide +kernel
theorem d_MO_nextDay_121 : decode b_MO_nextDay 121 = .ok (.ifCond .ne 47, 3) := by decide +kernel
theorem d_MO_nextDay_124 : decode b_MO_nextDay 124 = .ok (.iload 4, 2) := by decide +kernel
theorem d_MO_nextDay_126 : decode b_MO_nextDay 126 = .ok (.bipush 32, 2) := by decide +kernel
theorem d_MO_nextDay_128 : decode b_MO_nextDay 128 = .ok (.irem, 1) := by decide +kernel
theorem d_MO_nextDay_129 : decode b_MO_nextDay 129 = .ok (.ifCond .ne 30, 3) := by decide +kernel
theorem d_MO_nextDay_132 : decode b_MO_nextDay 132 = .ok (.aload_n 0, 1) := by decide +kernel
theorem d_MO_nextDay_133 : decode b_MO_nextDay 133 = .ok (.getfield 29, 3) := by decide +kernel
theorem d_MO_nextDay_136 : decode b_MO_nextDay 136 = .ok (.sipush 3126, 3) := by decide +kernel
theorem d_MO_nextDay_139 : decode b_MO_nextDay 139 = .ok (.iload_n 1, 1) := by decide +kernel
theorem d_MO_nextDay_140 : decode b_MO_nextDay 140 = .ok (.imul, 1) := by decide +kernel
theorem d_MO_nextDay_141 : decode b_MO_nextDay 141 = .ok (.iload 4, 2) := by decide +kernel
theorem d_MO_nextDay_143 : decode b_MO_nextDay 143 = .ok (.bipush 32, 2) := by decide +kernel
theorem d_MO_nextDay_145 : decode b_MO_nextDay 145 = .ok (.idiv, 1) := by decide +kernel
theorem d_MO_nextDay_146 : decode b_MO_nextDay 146 = .ok (.iadd, 1) := by decide +kernel
theorem d_MO_nextDay_147 : decode b_MO_nextDay 147 = .ok (.iaload, 1) := by decide +kernel
theorem d_MO_nextDay_148 : decode b_MO_nextDay 148 = .ok (.ifCond .ne 11, 3) := by decide +kernel
theorem d_MO_nextDay_151 : decode b_MO_nextDay 151 = .ok (.iload 4, 2) := by decide +kernel
theorem d_MO_nextDay_153 : decode b_MO_nextDay 153 = .ok (.bipush 32, 2) := by decide +kernel
theorem d_MO_nextDay_155 : decode b_MO_nextDay 155 = .ok (.iadd, 1) := by decide +kernel
theorem d_MO_nextDay_156 : decode b_MO_nextDay 156 = .ok (.goto 7, 3) := by decide +kernel
theorem d_MO_nextDay_159 : decode b_MO_nextDay 159 = .ok (.iload 4, 2) := by decide +kernel
theorem d_MO_nextDay_161 : decode b_MO_nextDay 161 = .ok (.iconst 1, 1) := by decide +kernel
theorem d_MO_nextDay_162 : decode b_MO_nextDay 162 = .ok (.iadd, 1) := by decide +kernel
theorem d_MO_nextDay_163 : decode b_MO_nextDay 163 = .ok (.istore 4, 2) := by decide +kernel
theorem d_MO_nextDay_165 : decode b_MO_nextDay 165 = .ok (.goto (-64), 3) := by decide +kernel
theorem d_MO_nextDay_168 : decode b_MO_nextDay 168 = .ok (.iload 4, 2) := by decide +kernel
theorem d_MO_nextDay_170 : decode b_MO_nextDay 170 = .ok (.ldc 68, 2) := by decide +kernel
theorem d_MO_nextDay_172 : decode b_MO_nextDay 172 = .ok (.if_icmp .gt 14, 3) := by decide +kernel
theorem d_MO_nextDay_175 : decode b_MO_nextDay 175 = .ok (.iload 4, 2) := by decide +kernel
theorem d_MO_nextDay_177 : decode b_MO_nextDay 177 = .ok (.iload_n 3, 1) := by decide +kernel
theorem d_MO_nextDay_178 : decode b_MO_nextDay 178 = .ok (.if_icmp .ge 8, 3) := by decide +kernel
theorem d_MO_nextDay_181 : decode b_MO_nextDay 181 = .ok (.iload 4, 2) := by decide +kernel
theorem d_MO_nextDay_183 : decode b_MO_nextDay 183 = .ok (.goto 4, 3) := by decide +kernel
theorem d_MO_nextDay_186 : decode b_MO_nextDay 186 = .ok (.iload_n 3, 1) := by decide +kernel
theorem d_MO_nextDay_187 : decode b_MO_nextDay 187 = .ok (.ireturn, 1) := by decide +kernel
theorem d_MO_touched_0 : decode b_MO_touched 0 = .ok (.aload_n 0, 1) := by decide +kernel
theorem d_MO_touched_1 : decode b_MO_touched 1 = .ok (.aload_n 0, 1) := by decide +kernel
theorem d_MO_touched_2 : decode b_MO_touched 2 = .ok (.iload_n 1, 1) := by decide +kernel
theorem d_MO_touched_3 : decode b_MO_touched 3 = .ok (.invokevirtual 76, 3) := by decide +kernel
theorem d_MO_touched_6 : decode b_MO_touched 6 = .ok (.ifCond .eq 14, 3) := by decide +kernel
theorem d_MO_touched_9 : decode b_MO_touched 9 = .ok (.iload_n 2, 1) := by decide +kernel
theorem d_MO_touched_10 : decode b_MO_touched 10 = .ok (.invokestatic 80, 3) := by decide +kernel
theorem d_MO_touched_13 : decode b_MO_touched 13 = .ok (.ifCond .eq 7, 3) := by decide +kernel
theorem d_MO_touched_16 : decode b_MO_touched 16 = .ok (.iconst 1, 1) := by decide +kernel
theorem d_MO_touched_17 : decode b_MO_touched 17 = .ok (.goto 4, 3) := by decide +kernel
theorem d_MO_touched_20 : decode b_MO_touched 20 = .ok (.iconst 0, 1) := by decide +kernel
theorem d_MO_touched_21 : decode b_MO_touched 21 = .ok (.iconst 1, 1) := by decide +kernel
theorem d_MO_touched_22 : decode b_MO_touched 22 = .ok (.invokevirtual 69, 3) := by decide +kernel
theorem d_MO_touched_25 : decode b_MO_touched 25 = .ok (.ifCond .eq 12, 3) := by decide +kernel
theorem d_MO_touched_28 : decode b_MO_touched 28 = .ok (.aload_n 0, 1) := by decide +kernel
theorem d_MO_touched_29 : decode b_MO_touched 29 = .ok (.iload_n 1, 1) := by decide +kernel
theorem d_MO_touched_30 : decode b_MO_touched 30 = .ok (.iload_n 2, 1) := by decide +kernel
theorem d_MO_touched_31 : decode b_MO_touched 31 = .ok (.invokevirtual 87, 3) := by decide +kernel
theorem d_MO_touched_34 : decode b_MO_touched 34 = .ok (.goto 4, 3) := by decide +kernel
theorem d_MO_touched_37 : decode b_MO_touched 37 = .ok (.iconst 0, 1) := by decide +kernel
theorem d_MO_touched_38 : decode b_MO_touched 38 = .ok (.ireturn, 1) := by decide +kernel
theorem d_MO_plan_0 : decode b_MO_plan 0 = .ok (.aload_n 0, 1) := by decide +kernel
theorem d_MO_plan_1 : decode b_MO_plan 1 = .ok (.iload_n 1, 1) := by decide +kernel
theorem d_MO_plan_2 : decode b_MO_plan 2 = .ok (.invokestatic 80, 3) := by decide +kernel
theorem d_MO_plan_5 : decode b_MO_plan 5 = .ok (.iconst 1, 1) := by decide +kernel
theorem d_MO_plan_6 : decode b_MO_plan 6 = .ok (.invokevirtual 69, 3) := by decide +kernel
theorem d_MO_plan_9 : decode b_MO_plan 9 = .ok (.ifCond .ne 5, 3) := by decide +kernel
theorem d_MO_plan_12 : decode b_MO_plan 12 = .ok (.iconst 0, 1) := by decide +kernel
theorem d_MO_plan_13 : decode b_MO_plan 13 = .ok (.ireturn, 1) := by decide +kernel
theorem d_MO_plan_14 : decode b_MO_plan 14 = .ok (.aload_n 0, 1) := by decide +kernel
theorem d_MO_plan_15 : decode b_MO_plan 15 = .ok (.invokevirtual 112, 3) := by decide +kernel
theorem d_MO_plan_18 : decode b_MO_plan 18 = .ok (.iconst 0, 1) := by decide +kernel
theorem d_MO_plan_19 : decode b_MO_plan 19 = .ok (.istore_n 2, 1) := by decide +kernel
theorem d_MO_plan_20 : decode b_MO_plan 20 = .ok (.iconst 0, 1) := by decide +kernel
theorem d_MO_plan_21 : decode b_MO_plan 21 = .ok (.istore_n 3, 1) := by decide +kernel
theorem d_MO_plan_22 : decode b_MO_plan 22 = .ok (.iload_n 3, 1) := by decide +kernel
theorem d_MO_plan_23 : decode b_MO_plan 23 = .ok (.aload_n 0, 1) := by decide +kernel
theorem d_MO_plan_24 : decode b_MO_plan 24 = .ok (.getfield 61, 3) := by decide +kernel
theorem d_MO_plan_27 : decode b_MO_plan 27 = .ok (.if_icmp .ge 29, 3) := by decide +kernel
theorem d_MO_plan_30 : decode b_MO_plan 30 = .ok (.aload_n 0, 1) := by decide +kernel
theorem d_MO_plan_31 : decode b_MO_plan 31 = .ok (.iload_n 3, 1) := by decide +kernel
theorem d_MO_plan_32 : decode b_MO_plan 32 = .ok (.iload_n 1, 1) := by decide +kernel
theorem d_MO_plan_33 : decode b_MO_plan 33 = .ok (.invokevirtual 95, 3) := by decide +kernel
theorem d_MO_plan_36 : decode b_MO_plan 36 = .ok (.iconst 3, 1) := by decide +kernel
theorem d_MO_plan_37 : decode b_MO_plan 37 = .ok (.if_icmp .eq 11, 3) := by decide +kernel
theorem d_MO_plan_40 : decode b_MO_plan 40 = .ok (.iload_n 2, 1) := by decide +kernel
theorem d_MO_plan_41 : decode b_MO_plan 41 = .ok (.iconst 1, 1) := by decide +kernel
theorem d_MO_plan_42 : decode b_MO_plan 42 = .ok (.iload_n 3, 1) := by decide +kernel
theorem d_MO_plan_43 : decode b_MO_plan 43 = .ok (.ishl, 1) := by decide +kernel
theorem d_MO_plan_44 : decode b_MO_plan 44 = .ok (.ior, 1) := by decide +kernel
theorem d_MO_plan_45 : decode b_MO_plan 45 = .ok (.goto 4, 3) := by decide +kernel
theorem d_MO_plan_48 : decode b_MO_plan 48 = .ok (.iload_n 2, 1) := by decide +kernel
theorem d_MO_plan_49 : decode b_MO_plan 49 = .ok (.istore_n 2, 1) := by decide +kernel
theorem d_MO_plan_50 : decode b_MO_plan 50 = .ok (.iinc 3 1, 3) := by decide +kernel
theorem d_MO_plan_53 : decode b_MO_plan 53 = .ok (.goto (-31), 3) := by decide +kernel
theorem d_MO_plan_56 : decode b_MO_plan 56 = .ok (.iload_n 2, 1) := by decide +kernel
theorem d_MO_plan_57 : decode b_MO_plan 57 = .ok (.aload_n 0, 1) := by decide +kernel
theorem d_MO_plan_58 : decode b_MO_plan 58 = .ok (.invokevirtual 98, 3) := by decide +kernel
theorem d_MO_plan_61 : decode b_MO_plan 61 = .ok (.iand, 1) := by decide +kernel
theorem d_MO_plan_62 : decode b_MO_plan 62 = .ok (.istore_n 2, 1) := by decide +kernel
theorem d_MO_plan_63 : decode b_MO_plan 63 = .ok (.aload_n 0, 1) := by decide +kernel
theorem d_MO_plan_64 : decode b_MO_plan 64 = .ok (.ldc 102, 2) := by decide +kernel
theorem d_MO_plan_66 : decode b_MO_plan 66 = .ok (.putfield 115, 3) := by decide +kernel
theorem d_MO_plan_69 : decode b_MO_plan 69 = .ok (.aload_n 0, 1) := by decide +kernel
theorem d_MO_plan_70 : decode b_MO_plan 70 = .ok (.ldc 102, 2) := by decide +kernel
theorem d_MO_plan_72 : decode b_MO_plan 72 = .ok (.putfield 118, 3) := by decide +kernel
theorem d_MO_plan_75 : decode b_MO_plan 75 = .ok (.iconst 0, 1) := by decide +kernel
theorem d_MO_plan_76 : decode b_MO_plan 76 = .ok (.istore_n 3, 1) := by decide +kernel
theorem d_MO_plan_77 : decode b_MO_plan 77 = .ok (.iload_n 3, 1) := by decide +kernel
theorem d_MO_plan_78 : decode b_MO_plan 78 = .ok (.iconst 1, 1) := by decide +kernel
theorem d_MO_plan_79 : decode b_MO_plan 79 = .ok (.aload_n 0, 1) := by decide +kernel
theorem d_MO_plan_80 : decode b_MO_plan 80 = .ok (.getfield 73, 3) := by decide +kernel
theorem d_MO_plan_83 : decode b_MO_plan 83 = .ok (.ishl, 1) := by decide +kernel
theorem d_MO_plan_84 : decode b_MO_plan 84 = .ok (.if_icmp .ge 125, 3) := by decide +kernel
theorem d_MO_plan_87 : decode b_MO_plan 87 = .ok (.aload_n 0, 1) := by decide +kernel
theorem d_MO_plan_88 : decode b_MO_plan 88 = .ok (.iload_n 3, 1) := by decide +kernel
theorem d_MO_plan_89 : decode b_MO_plan 89 = .ok (.invokevirtual 121, 3) := by decide +kernel
theorem d_MO_plan_92 : decode b_MO_plan 92 = .ok (.iload_n 2, 1) := by decide +kernel
theorem d_MO_plan_93 : decode b_MO_plan 93 = .ok (.iand, 1) := by decide +kernel
theorem d_MO_plan_94 : decode b_MO_plan 94 = .ok (.iload_n 2, 1) := by decide +kernel
theorem d_MO_plan_95 : decode b_MO_plan 95 = .ok (.if_icmp .ne 7, 3) := by decide +kernel
theorem d_MO_plan_98 : decode b_MO_plan 98 = .ok (.iconst 1, 1) := by decide +kernel
theorem d_MO_plan_99 : decode b_MO_plan 99 = .ok (.goto 4, 3) := by decide +kernel
theorem d_MO_plan_102 : decode b_MO_plan 102 = .ok (.iconst 0, 1) := by decide +kernel
theorem d_MO_plan_103 : decode b_MO_plan 103 = .ok (.istore 4, 2) := by decide +kernel
theorem d_MO_plan_105 : decode b_MO_plan 105 = .ok (.iload 4, 2) := by decide +kernel
theorem d_MO_plan_107 : decode b_MO_plan 107 = .ok (.ifCond .eq 11, 3) := by decide +kernel
theorem d_MO_plan_110 : decode b_MO_plan 110 = .ok (.aload_n 0, 1) := by decide +kernel
theorem d_MO_plan_111 : decode b_MO_plan 111 = .ok (.iload_n 3, 1) := by decide +kernel
theorem d_MO_plan_112 : decode b_MO_plan 112 = .ok (.invokevirtual 125, 3) := by decide +kernel
theorem d_MO_plan_115 : decode b_MO_plan 115 = .ok (.goto 5, 3) := by decide +kernel
theorem d_MO_plan_118 : decode b_MO_plan 118 = .ok (.ldc 102, 2) := by decide +kernel
theorem d_MO_plan_120 : decode b_MO_plan 120 = .ok (.istore 5, 2) := by decide +kernel
theorem d_MO_plan_122 : decode b_MO_plan 122 = .ok (.iload 5, 2) := by decide +kernel
theorem d_MO_plan_124 : decode b_MO_plan 124 = .ok (.aload_n 0, 1) := by decide +kernel
theorem d_MO_plan_125 : decode b_MO_plan 125 = .ok (.getfield 115, 3) := by decide +kernel
theorem d_MO_plan_128 : decode b_MO_plan 128 = .ok (.if_icmp .lt 30, 3) := by decide +kernel
theorem d_MO_plan_131 : decode b_MO_plan 131 = .ok (.iload 5, 2) := by decide +kernel
theorem d_MO_plan_133 : decode b_MO_plan 133 = .ok (.aload_n 0, 1) := by decide +kernel
theorem d_MO_plan_134 : decode b_MO_plan 134 = .ok (.getfield 115, 3) := by decide +kernel
theorem d_MO_plan_137 : decode b_MO_plan 137 = .ok (.if_icmp .ne 25, 3) := by decide +kernel
theorem d_MO_plan_140 : decode b_MO_plan 140 = .ok (.iload 5, 2) := by decide +kernel
theorem d_MO_plan_142 : decode b_MO_plan 142 = .ok (.ldc 102, 2) := by decide +kernel
theorem d_MO_plan_144 : decode b_MO_plan 144 = .ok (.if_icmp .ge 18, 3) := by decide +kernel
theorem d_MO_plan_147 : decode b_MO_plan 147 = .ok (.iload_n 3, 1) := by decide +kernel
theorem d_MO_plan_148 : decode b_MO_plan 148 = .ok (.invokestatic 128, 3) := by decide +kernel
theorem d_MO_plan_151 : decode b_MO_plan 151 = .ok (.aload_n 0, 1) := by decide +kernel
theorem d_MO_plan_152 : decode b_MO_plan 152 = .ok (.getfield 118, 3) := by decide +kernel
theorem d_MO_plan_155 : decode b_MO_plan 155 = .ok (.if_icmp .ge 7, 3) := by decide +kernel
theorem d_MO_plan_158 : decode b_MO_plan 158 = .ok (.iconst 1, 1) := by decide +kernel
theorem d_MO_plan_159 : decode b_MO_plan 159 = .ok (.goto 4, 3) := by decide +kernel
theorem d_MO_plan_162 : decode b_MO_plan 162 = .ok (.iconst 0, 1) := by decide +kernel
theorem d_MO_plan_163 : decode b_MO_plan 163 = .ok (.istore 6, 2) := by decide +kernel
theorem d_MO_plan_165 : decode b_MO_plan 165 = .ok (.aload_n 0, 1) := by decide +kernel
theorem d_MO_plan_166 : decode b_MO_plan 166 = .ok (.iload 6, 2) := by decide +kernel
theorem d_MO_plan_168 : decode b_MO_plan 168 = .ok (.ifCond .eq 8, 3) := by decide +kernel
theorem d_MO_plan_171 : decode b_MO_plan 171 = .ok (.iload 5, 2) := by decide +kernel
theorem d_MO_plan_173 : decode b_MO_plan 173 = .ok (.goto 7, 3) := by decide +kernel
theorem d_MO_plan_176 : decode b_MO_plan 176 = .ok (.aload_n 0, 1) := by decide +kernel
theorem d_MO_plan_177 : decode b_MO_plan 177 = .ok (.getfield 115, 3) := by decide +kernel
theorem d_MO_plan_180 : decode b_MO_plan 180 = .ok (.putfield 115, 3) := by decide +kernel
theorem d_MO_plan_183 : decode b_MO_plan 183 = .ok (.aload_n 0, 1) := by decide +kernel
theorem d_MO_plan_184 : decode b_MO_plan 184 = .ok (.iload 6, 2) := by decide +kernel
theorem d_MO_plan_186 : decode b_MO_plan 186 = .ok (.ifCond .eq 10, 3) := by decide +kernel
theorem d_MO_plan_189 : decode b_MO_plan 189 = .ok (.iload_n 3, 1) := by decide +kernel
theorem d_MO_plan_190 : decode b_MO_plan 190 = .ok (.invokestatic 128, 3) := by decide +kernel
theorem d_MO_plan_193 : decode b_MO_plan 193 = .ok (.goto 7, 3) := by decide +kernel
theorem d_MO_plan_196 : decode b_MO_plan 196 = .ok (.aload_n 0, 1) := by decide +kernel
theorem d_MO_plan_197 : decode b_MO_plan 197 = .ok (.getfield 118, 3) := by decide +kernel
theorem d_MO_plan_200 : decode b_MO_plan 200 = .ok (.putfield 118, 3) := by decide +kernel
theorem d_MO_plan_203 : decode b_MO_plan 203 = .ok (.iinc 3 1, 3) := by decide +kernel
theorem d_MO_plan_206 : decode b_MO_plan 206 = .ok (.goto (-129), 3) := by decide +kernel
theorem d_MO_plan_209 : decode b_MO_plan 209 = .ok (.iconst 0, 1) := by decide +kernel
theorem d_MO_plan_210 : decode b_MO_plan 210 = .ok (.istore_n 3, 1) := by decide +kernel
theorem d_MO_plan_211 : decode b_MO_plan 211 = .ok (.iload_n 3, 1) := by decide +kernel
theorem d_MO_plan_212 : decode b_MO_plan 212 = .ok (.iconst 1, 1) := by decide +kernel
theorem d_MO_plan_213 : decode b_MO_plan 213 = .ok (.aload_n 0, 1) := by decide +kernel
theorem d_MO_plan_214 : decode b_MO_plan 214 = .ok (.getfield 73, 3) := by decide +kernel
theorem d_MO_plan_217 : decode b_MO_plan 217 = .ok (.ishl, 1) := by decide +kernel
theorem d_MO_plan_218 : decode b_MO_plan 218 = .ok (.if_icmp .ge 54, 3) := by decide +kernel
theorem d_MO_plan_221 : decode b_MO_plan 221 = .ok (.aload_n 0, 1) := by decide +kernel
theorem d_MO_plan_222 : decode b_MO_plan 222 = .ok (.getfield 51, 3) := by decide +kernel
theorem d_MO_plan_225 : decode b_MO_plan 225 = .ok (.iload_n 3, 1) := by decide +kernel
theorem d_MO_plan_226 : decode b_MO_plan 226 = .ok (.iload_n 3, 1) := by decide +kernel
theorem d_MO_plan_227 : decode b_MO_plan 227 = .ok (.invokestatic 128, 3) := by decide +kernel
theorem d_MO_plan_230 : decode b_MO_plan 230 = .ok (.aload_n 0, 1) := by decide +kernel
theorem d_MO_plan_231 : decode b_MO_plan 231 = .ok (.getfield 118, 3) := by decide +kernel
theorem d_MO_plan_234 : decode b_MO_plan 234 = .ok (.if_icmp .ne 30, 3) := by decide +kernel
theorem d_MO_plan_237 : decode b_MO_plan 237 = .ok (.aload_n 0, 1) := by decide +kernel
theorem d_MO_plan_238 : decode b_MO_plan 238 = .ok (.iload_n 3, 1) := by decide +kernel
theorem d_MO_plan_239 : decode b_MO_plan 239 = .ok (.invokevirtual 121, 3) := by decide +kernel
theorem d_MO_plan_242 : decode b_MO_plan 242 = .ok (.iload_n 2, 1) := by decide +kernel
theorem d_MO_plan_243 : decode b_MO_plan 243 = .ok (.iand, 1) := by decide +kernel
theorem d_MO_plan_244 : decode b_MO_plan 244 = .ok (.iload_n 2, 1) := by decide +kernel
theorem d_MO_plan_245 : decode b_MO_plan 245 = .ok (.if_icmp .ne 19, 3) := by decide +kernel
theorem d_MO_plan_248 : decode b_MO_plan 248 = .ok (.aload_n 0, 1) := by decide +kernel
theorem d_MO_plan_249 : decode b_MO_plan 249 = .ok (.iload_n 3, 1) := by decide +kernel
theorem d_MO_plan_250 : decode b_MO_plan 250 = .ok (.invokevirtual 125, 3) := by decide +kernel
theorem d_MO_plan_253 : decode b_MO_plan 253 = .ok (.aload_n 0, 1) := by decide +kernel
theorem d_MO_plan_254 : decode b_MO_plan 254 = .ok (.getfield 115, 3) := by decide +kernel
theorem d_MO_plan_257 : decode b_MO_plan 257 = .ok (.if_icmp .ne 7, 3) := by decide +kernel
theorem d_MO_plan_260 : decode b_MO_plan 260 = .ok (.iconst 1, 1) := by decide +kernel
theorem d_MO_plan_261 : decode b_MO_plan 261 = .ok (.goto 4, 3) := by decide +kernel
theorem d_MO_plan_264 : decode b_MO_plan 264 = .ok (.iconst 0, 1) := by decide +kernel
theorem d_MO_plan_265 : decode b_MO_plan 265 = .ok (.bastore, 1) := by decide +kernel
theorem d_MO_plan_266 : decode b_MO_plan 266 = .ok (.iinc 3 1, 3) := by decide +kernel
theorem d_MO_plan_269 : decode b_MO_plan 269 = .ok (.goto (-58), 3) := by decide +kernel
theorem d_MO_plan_272 : decode b_MO_plan 272 = .ok (.aload_n 0, 1) := by decide +kernel
theorem d_MO_plan_273 : decode b_MO_plan 273 = .ok (.invokevirtual 131, 3) := by decide +kernel
theorem d_MO_plan_276 : decode b_MO_plan 276 = .ok (.aload_n 0, 1) := by decide +kernel
theorem d_MO_plan_277 : decode b_MO_plan 277 = .ok (.getfield 118, 3) := by decide +kernel
theorem d_MO_plan_280 : decode b_MO_plan 280 = .ok (.ireturn, 1) := by decide +kernel
theorem d_MO_reckon_0 : decode b_MO_reckon 0 = .ok (.iconst 1, 1) := by decide +kernel
theorem d_MO_reckon_1 : decode b_MO_reckon 1 = .ok (.istore_n 1, 1) := by decide +kernel
theorem d_MO_reckon_2 : decode b_MO_reckon 2 = .ok (.iload_n 1, 1) := by decide +kernel
theorem d_MO_reckon_3 : decode b_MO_reckon 3 = .ok (.iconst 1, 1) := by decide +kernel
theorem d_MO_reckon_4 : decode b_MO_reckon 4 = .ok (.aload_n 0, 1) := by decide +kernel
theorem d_MO_reckon_5 : decode b_MO_reckon 5 = .ok (.getfield 73, 3) := by decide +kernel
theorem d_MO_reckon_8 : decode b_MO_reckon 8 = .ok (.ishl, 1) := by decide +kernel
theorem d_MO_reckon_9 : decode b_MO_reckon 9 = .ok (.if_icmp .ge 141, 3) := by decide +kernel
theorem d_MO_reckon_12 : decode b_MO_reckon 12 = .ok (.iconst 0, 1) := by decide +kernel
theorem d_MO_reckon_13 : decode b_MO_reckon 13 = .ok (.istore_n 2, 1) := by decide +kernel
theorem d_MO_reckon_14 : decode b_MO_reckon 14 = .ok (.iload_n 2, 1) := by decide +kernel
theorem d_MO_reckon_15 : decode b_MO_reckon 15 = .ok (.aload_n 0, 1) := by decide +kernel
theorem d_MO_reckon_16 : decode b_MO_reckon 16 = .ok (.getfield 73, 3) := by decide +kernel
theorem d_MO_reckon_19 : decode b_MO_reckon 19 = .ok (.if_icmp .ge 125, 3) := by decide +kernel
theorem d_MO_reckon_22 : decode b_MO_reckon 22 = .ok (.iload_n 1, 1) := by decide +kernel
theorem d_MO_reckon_23 : decode b_MO_reckon 23 = .ok (.iload_n 2, 1) := by decide +kernel
theorem d_MO_reckon_24 : decode b_MO_reckon 24 = .ok (.invokestatic 106, 3) := by decide +kernel
theorem d_MO_reckon_27 : decode b_MO_reckon 27 = .ok (.ifCond .eq 111, 3) := by decide +kernel
theorem d_MO_reckon_30 : decode b_MO_reckon 30 = .ok (.iload_n 1, 1) := by decide +kernel
theorem d_MO_reckon_31 : decode b_MO_reckon 31 = .ok (.iconst 1, 1) := by decide +kernel
theorem d_MO_reckon_32 : decode b_MO_reckon 32 = .ok (.iload_n 2, 1) := by decide +kernel
theorem d_MO_reckon_33 : decode b_MO_reckon 33 = .ok (.ishl, 1) := by decide +kernel
theorem d_MO_reckon_34 : decode b_MO_reckon 34 = .ok (.isub, 1) := by decide +kernel
theorem d_MO_reckon_35 : decode b_MO_reckon 35 = .ok (.istore_n 3, 1) := by decide +kernel
theorem d_MO_reckon_36 : decode b_MO_reckon 36 = .ok (.iload_n 3, 1) := by decide +kernel
theorem d_MO_reckon_37 : decode b_MO_reckon 37 = .ok (.ifCond .ne 7, 3) := by decide +kernel
theorem d_MO_reckon_40 : decode b_MO_reckon 40 = .ok (.iconst 0, 1) := by decide +kernel
theorem d_MO_reckon_41 : decode b_MO_reckon 41 = .ok (.goto 5, 3) := by decide +kernel
theorem d_MO_reckon_44 : decode b_MO_reckon 44 = .ok (.ldc 102, 2) := by decide +kernel
theorem d_MO_reckon_46 : decode b_MO_reckon 46 = .ok (.istore 4, 2) := by decide +kernel
theorem d_MO_reckon_48 : decode b_MO_reckon 48 = .ok (.iconst 0, 1) := by decide +kernel
theorem d_MO_reckon_49 : decode b_MO_reckon 49 = .ok (.istore 5, 2) := by decide +kernel
theorem d_MO_reckon_51 : decode b_MO_reckon 51 = .ok (.iload 5, 2) := by decide +kernel
theorem d_MO_reckon_53 : decode b_MO_reckon 53 = .ok (.aload_n 0, 1) := by decide +kernel
theorem d_MO_reckon_54 : decode b_MO_reckon 54 = .ok (.getfield 73, 3) := by decide +kernel
theorem d_MO_reckon_57 : decode b_MO_reckon 57 = .ok (.if_icmp .ge 61, 3) := by decide +kernel
theorem d_MO_reckon_60 : decode b_MO_reckon 60 = .ok (.iload_n 3, 1) := by decide +kernel
theorem d_MO_reckon_61 : decode b_MO_reckon 61 = .ok (.iload 5, 2) := by decide +kernel
theorem d_MO_reckon_63 : decode b_MO_reckon 63 = .ok (.invokestatic 106, 3) := by decide +kernel
theorem d_MO_reckon_66 : decode b_MO_reckon 66 = .ok (.ifCond .eq 26, 3) := by decide +kernel
theorem d_MO_reckon_69 : decode b_MO_reckon 69 = .ok (.aload_n 0, 1) := by decide +kernel
theorem d_MO_reckon_70 : decode b_MO_reckon 70 = .ok (.iload_n 2, 1) := by decide +kernel
theorem d_MO_reckon_71 : decode b_MO_reckon 71 = .ok (.iload 5, 2) := by decide +kernel
theorem d_MO_reckon_73 : decode b_MO_reckon 73 = .ok (.invokevirtual 109, 3) := by decide +kernel
theorem d_MO_reckon_76 : decode b_MO_reckon 76 = .ok (.aload_n 0, 1) := by decide +kernel
theorem d_MO_reckon_77 : decode b_MO_reckon 77 = .ok (.getfield 48, 3) := by decide +kernel
theorem d_MO_reckon_80 : decode b_MO_reckon 80 = .ok (.bipush 8, 2) := by decide +kernel
theorem d_MO_reckon_82 : decode b_MO_reckon 82 = .ok (.iload_n 3, 1) := by decide +kernel
theorem d_MO_reckon_83 : decode b_MO_reckon 83 = .ok (.imul, 1) := by decide +kernel
theorem d_MO_reckon_84 : decode b_MO_reckon 84 = .ok (.iload 5, 2) := by decide +kernel
theorem d_MO_reckon_86 : decode b_MO_reckon 86 = .ok (.iadd, 1) := by decide +kernel
theorem d_MO_reckon_87 : decode b_MO_reckon 87 = .ok (.iaload, 1) := by decide +kernel
theorem d_MO_reckon_88 : decode b_MO_reckon 88 = .ok (.iadd, 1) := by decide +kernel
theorem d_MO_reckon_89 : decode b_MO_reckon 89 = .ok (.goto 5, 3) := by decide +kernel
theorem d_MO_reckon_92 : decode b_MO_reckon 92 = .ok (.ldc 102, 2) := by decide +kernel
theorem d_MO_reckon_94 : decode b_MO_reckon 94 = .ok (.istore 6, 2) := by decide +kernel
theorem d_MO_reckon_96 : decode b_MO_reckon 96 = .ok (.iload 6, 2) := by decide +kernel
theorem d_MO_reckon_98 : decode b_MO_reckon 98 = .ok (.iload 4, 2) := by decide +kernel
theorem d_MO_reckon_100 : decode b_MO_reckon 100 = .ok (.if_icmp .ge 8, 3) := by decide +kernel
theorem d_MO_reckon_103 : decode b_MO_reckon 103 = .ok (.iload 6, 2) := by decide +kernel
theorem d_MO_reckon_105 : decode b_MO_reckon 105 = .ok (.goto 5, 3) := by decide +kernel
theorem d_MO_reckon_108 : decode b_MO_reckon 108 = .ok (.iload 4, 2) := by decide +kernel
theorem d_MO_reckon_110 : decode b_MO_reckon 110 = .ok (.istore 4, 2) := by decide +kernel
theorem d_MO_reckon_112 : decode b_MO_reckon 112 = .ok (.iinc 5 1, 3) := by decide +kernel
theorem d_MO_reckon_115 : decode b_MO_reckon 115 = .ok (.goto (-64), 3) := by decide +kernel
theorem d_MO_reckon_118 : decode b_MO_reckon 118 = .ok (.aload_n 0, 1) := by decide +kernel
theorem d_MO_reckon_119 : decode b_MO_reckon 119 = .ok (.getfield 48, 3) := by decide +kernel
theorem d_MO_reckon_122 : decode b_MO_reckon 122 = .ok (.bipush 8, 2) := by decide +kernel
theorem d_MO_reckon_124 : decode b_MO_reckon 124 = .ok (.iload_n 1, 1) := by decide +kernel
theorem d_MO_reckon_125 : decode b_MO_reckon 125 = .ok (.imul, 1) := by decide +kernel
theorem d_MO_reckon_126 : decode b_MO_reckon 126 = .ok (.iload_n 2, 1) := by decide +kernel
theorem d_MO_reckon_127 : decode b_MO_reckon 127 = .ok (.iadd, 1) := by decide +kernel
theorem d_MO_reckon_128 : decode b_MO_reckon 128 = .ok (.aload_n 0, 1) := by decide +kernel
theorem d_MO_reckon_129 : decode b_MO_reckon 129 = .ok (.getfield 19, 3) := by decide +kernel
theorem d_MO_reckon_132 : decode b_MO_reckon 132 = .ok (.iload_n 2, 1) := by decide +kernel
theorem d_MO_reckon_133 : decode b_MO_reckon 133 = .ok (.iaload, 1) := by decide +kernel
theorem d_MO_reckon_134 : decode b_MO_reckon 134 = .ok (.iload 4, 2) := by decide +kernel
theorem d_MO_reckon_136 : decode b_MO_reckon 136 = .ok (.iadd, 1) := by decide +kernel
theorem d_MO_reckon_137 : decode b_MO_reckon 137 = .ok (.iastore, 1) := by decide +kernel
theorem d_MO_reckon_138 : decode b_MO_reckon 138 = .ok (.iinc 2 1, 3) := by decide +kernel
theorem d_MO_reckon_141 : decode b_MO_reckon 141 = .ok (.goto (-127), 3) := by decide +kernel
theorem d_MO_reckon_144 : decode b_MO_reckon 144 = .ok (.iinc 1 1, 3) := by decide +kernel
theorem d_MO_reckon_147 : decode b_MO_reckon 147 = .ok (.goto (-145), 3) := by decide +kernel
theorem d_MO_reckon_150 : decode b_MO_reckon 150 = .ok (.return_, 1) := by decide +kernel
theorem d_MO_has_0 : decode b_MO_has 0 = .ok (.iload_n 0, 1) := by decide +kernel
theorem d_MO_has_1 : decode b_MO_has 1 = .ok (.iload_n 1, 1) := by decide +kernel
theorem d_MO_has_2 : decode b_MO_has 2 = .ok (.ishr, 1) := by decide +kernel
theorem d_MO_has_3 : decode b_MO_has 3 = .ok (.iconst 1, 1) := by decide +kernel
theorem d_MO_has_4 : decode b_MO_has 4 = .ok (.iand, 1) := by decide +kernel
theorem d_MO_has_5 : decode b_MO_has 5 = .ok (.iconst 1, 1) := by decide +kernel
theorem d_MO_has_6 : decode b_MO_has 6 = .ok (.if_icmp .ne 7, 3) := by decide +kernel
theorem d_MO_has_9 : decode b_MO_has 9 = .ok (.iconst 1, 1) := by decide +kernel
theorem d_MO_has_10 : decode b_MO_has 10 = .ok (.goto 4, 3) := by decide +kernel
theorem d_MO_has_13 : decode b_MO_has 13 = .ok (.iconst 0, 1) := by decide +kernel
theorem d_MO_has_14 : decode b_MO_has 14 = .ok (.ireturn, 1) := by decide +kernel
theorem d_MO_between_0 : decode b_MO_between 0 = .ok (.aload_n 0, 1) := by decide +kernel
theorem d_MO_between_1 : decode b_MO_between 1 = .ok (.getfield 25, 3) := by decide +kernel
theorem d_MO_between_4 : decode b_MO_between 4 = .ok (.bipush 10, 2) := by decide +kernel
theorem d_MO_between_6 : decode b_MO_between 6 = .ok (.aload_n 0, 1) := by decide +kernel
theorem d_MO_between_7 : decode b_MO_between 7 = .ok (.getfield 16, 3) := by decide +kernel
theorem d_MO_between_10 : decode b_MO_between 10 = .ok (.iload_n 1, 1) := by decide +kernel
theorem d_MO_between_11 : decode b_MO_between 11 = .ok (.iaload, 1) := by decide +kernel
theorem d_MO_between_12 : decode b_MO_between 12 = .ok (.imul, 1) := by decide +kernel
theorem d_MO_between_13 : decode b_MO_between 13 = .ok (.aload_n 0, 1) := by decide +kernel
theorem d_MO_between_14 : decode b_MO_between 14 = .ok (.getfield 16, 3) := by decide +kernel
theorem d_MO_between_17 : decode b_MO_between 17 = .ok (.iload_n 2, 1) := by decide +kernel
theorem d_MO_between_18 : decode b_MO_between 18 = .ok (.iaload, 1) := by decide +kernel
theorem d_MO_between_19 : decode b_MO_between 19 = .ok (.iadd, 1) := by decide +kernel
theorem d_MO_between_20 : decode b_MO_between 20 = .ok (.iaload, 1) := by decide +kernel
theorem d_MO_between_21 : decode b_MO_between 21 = .ok (.ireturn, 1) := by decide +kernel
theorem d_MO_shownBy_0 : decode b_MO_shownBy 0 = .ok (.iconst 0, 1) := by decide +kernel
theorem d_MO_shownBy_1 : decode b_MO_shownBy 1 = .ok (.istore_n 2, 1) := by decide +kernel
theorem d_MO_shownBy_2 : decode b_MO_shownBy 2 = .ok (.iconst 0, 1) := by decide +kernel
theorem d_MO_shownBy_3 : decode b_MO_shownBy 3 = .ok (.istore_n 3, 1) := by decide +kernel
theorem d_MO_shownBy_4 : decode b_MO_shownBy 4 = .ok (.iload_n 3, 1) := by decide +kernel
theorem d_MO_shownBy_5 : decode b_MO_shownBy 5 = .ok (.aload_n 0, 1) := by decide +kernel
theorem d_MO_shownBy_6 : decode b_MO_shownBy 6 = .ok (.getfield 73, 3) := by decide +kernel
theorem d_MO_shownBy_9 : decode b_MO_shownBy 9 = .ok (.if_icmp .ge 30, 3) := by decide +kernel
theorem d_MO_shownBy_12 : decode b_MO_shownBy 12 = .ok (.iload_n 1, 1) := by decide +kernel
theorem d_MO_shownBy_13 : decode b_MO_shownBy 13 = .ok (.iload_n 3, 1) := by decide +kernel
theorem d_MO_shownBy_14 : decode b_MO_shownBy 14 = .ok (.invokestatic 106, 3) := by decide +kernel
theorem d_MO_shownBy_17 : decode b_MO_shownBy 17 = .ok (.ifCond .eq 14, 3) := by decide +kernel
theorem d_MO_shownBy_20 : decode b_MO_shownBy 20 = .ok (.iload_n 2, 1) := by decide +kernel
theorem d_MO_shownBy_21 : decode b_MO_shownBy 21 = .ok (.aload_n 0, 1) := by decide +kernel
theorem d_MO_shownBy_22 : decode b_MO_shownBy 22 = .ok (.getfield 22, 3) := by decide +kernel
theorem d_MO_shownBy_25 : decode b_MO_shownBy 25 = .ok (.iload_n 3, 1) := by decide +kernel
theorem d_MO_shownBy_26 : decode b_MO_shownBy 26 = .ok (.iaload, 1) := by decide +kernel
theorem d_MO_shownBy_27 : decode b_MO_shownBy 27 = .ok (.ior, 1) := by decide +kernel
theorem d_MO_shownBy_28 : decode b_MO_shownBy 28 = .ok (.goto 4, 3) := by decide +kernel
theorem d_MO_shownBy_31 : decode b_MO_shownBy 31 = .ok (.iload_n 2, 1) := by decide +kernel
theorem d_MO_shownBy_32 : decode b_MO_shownBy 32 = .ok (.istore_n 2, 1) := by decide +kernel
theorem d_MO_shownBy_33 : decode b_MO_shownBy 33 = .ok (.iinc 3 1, 3) := by decide +kernel
theorem d_MO_shownBy_36 : decode b_MO_shownBy 36 = .ok (.goto (-32), 3) := by decide +kernel
theorem d_MO_shownBy_39 : decode b_MO_shownBy 39 = .ok (.iload_n 2, 1) := by decide +kernel
theorem d_MO_shownBy_40 : decode b_MO_shownBy 40 = .ok (.ireturn, 1) := by decide +kernel
theorem d_MO_leastOf_0 : decode b_MO_leastOf 0 = .ok (.iload_n 1, 1) := by decide +kernel
theorem d_MO_leastOf_1 : decode b_MO_leastOf 1 = .ok (.ifCond .ne 7, 3) := by decide +kernel
theorem d_MO_leastOf_4 : decode b_MO_leastOf 4 = .ok (.iconst 0, 1) := by decide +kernel
theorem d_MO_leastOf_5 : decode b_MO_leastOf 5 = .ok (.goto 5, 3) := by decide +kernel
theorem d_MO_leastOf_8 : decode b_MO_leastOf 8 = .ok (.ldc 102, 2) := by decide +kernel
theorem d_MO_leastOf_10 : decode b_MO_leastOf 10 = .ok (.istore_n 2, 1) := by decide +kernel
theorem d_MO_leastOf_11 : decode b_MO_leastOf 11 = .ok (.iconst 0, 1) := by decide +kernel
theorem d_MO_leastOf_12 : decode b_MO_leastOf 12 = .ok (.istore_n 3, 1) := by decide +kernel
theorem d_MO_leastOf_13 : decode b_MO_leastOf 13 = .ok (.iload_n 3, 1) := by decide +kernel
theorem d_MO_leastOf_14 : decode b_MO_leastOf 14 = .ok (.aload_n 0, 1) := by decide +kernel
theorem d_MO_leastOf_15 : decode b_MO_leastOf 15 = .ok (.getfield 73, 3) := by decide +kernel
theorem d_MO_leastOf_18 : decode b_MO_leastOf 18 = .ok (.if_icmp .ge 48, 3) := by decide +kernel
theorem d_MO_leastOf_21 : decode b_MO_leastOf 21 = .ok (.iload_n 1, 1) := by decide +kernel
theorem d_MO_leastOf_22 : decode b_MO_leastOf 22 = .ok (.iload_n 3, 1) := by decide +kernel
theorem d_MO_leastOf_23 : decode b_MO_leastOf 23 = .ok (.invokestatic 106, 3) := by decide +kernel
theorem d_MO_leastOf_26 : decode b_MO_leastOf 26 = .ok (.ifCond .eq 32, 3) := by decide +kernel
theorem d_MO_leastOf_29 : decode b_MO_leastOf 29 = .ok (.aload_n 0, 1) := by decide +kernel
theorem d_MO_leastOf_30 : decode b_MO_leastOf 30 = .ok (.getfield 48, 3) := by decide +kernel
theorem d_MO_leastOf_33 : decode b_MO_leastOf 33 = .ok (.bipush 8, 2) := by decide +kernel
theorem d_MO_leastOf_35 : decode b_MO_leastOf 35 = .ok (.iload_n 1, 1) := by decide +kernel
theorem d_MO_leastOf_36 : decode b_MO_leastOf 36 = .ok (.imul, 1) := by decide +kernel
theorem d_MO_leastOf_37 : decode b_MO_leastOf 37 = .ok (.iload_n 3, 1) := by decide +kernel
theorem d_MO_leastOf_38 : decode b_MO_leastOf 38 = .ok (.iadd, 1) := by decide +kernel
theorem d_MO_leastOf_39 : decode b_MO_leastOf 39 = .ok (.iaload, 1) := by decide +kernel
theorem d_MO_leastOf_40 : decode b_MO_leastOf 40 = .ok (.iload_n 2, 1) := by decide +kernel
theorem d_MO_leastOf_41 : decode b_MO_leastOf 41 = .ok (.if_icmp .ge 17, 3) := by decide +kernel
theorem d_MO_leastOf_44 : decode b_MO_leastOf 44 = .ok (.aload_n 0, 1) := by decide +kernel
theorem d_MO_leastOf_45 : decode b_MO_leastOf 45 = .ok (.getfield 48, 3) := by decide +kernel
theorem d_MO_leastOf_48 : decode b_MO_leastOf 48 = .ok (.bipush 8, 2) := by decide +kernel
theorem d_MO_leastOf_50 : decode b_MO_leastOf 50 = .ok (.iload_n 1, 1) := by decide +kernel
theorem d_MO_leastOf_51 : decode b_MO_leastOf 51 = .ok (.imul, 1) := by decide +kernel
theorem d_MO_leastOf_52 : decode b_MO_leastOf 52 = .ok (.iload_n 3, 1) := by decide +kernel
theorem d_MO_leastOf_53 : decode b_MO_leastOf 53 = .ok (.iadd, 1) := by decide +kernel
theorem d_MO_leastOf_54 : decode b_MO_leastOf 54 = .ok (.iaload, 1) := by decide +kernel
theorem d_MO_leastOf_55 : decode b_MO_leastOf 55 = .ok (.goto 4, 3) := by decide +kernel
theorem d_MO_leastOf_58 : decode b_MO_leastOf 58 = .ok (.iload_n 2, 1) := by decide +kernel
theorem d_MO_leastOf_59 : decode b_MO_leastOf 59 = .ok (.istore_n 2, 1) := by decide +kernel
theorem d_MO_leastOf_60 : decode b_MO_leastOf 60 = .ok (.iinc 3 1, 3) := by decide +kernel
theorem d_MO_leastOf_63 : decode b_MO_leastOf 63 = .ok (.goto (-50), 3) := by decide +kernel
theorem d_MO_leastOf_66 : decode b_MO_leastOf 66 = .ok (.iload_n 2, 1) := by decide +kernel
theorem d_MO_leastOf_67 : decode b_MO_leastOf 67 = .ok (.ireturn, 1) := by decide +kernel
theorem d_MO_sizeOf_0 : decode b_MO_sizeOf 0 = .ok (.iconst 0, 1) := by decide +kernel
theorem d_MO_sizeOf_1 : decode b_MO_sizeOf 1 = .ok (.istore_n 1, 1) := by decide +kernel
theorem d_MO_sizeOf_2 : decode b_MO_sizeOf 2 = .ok (.iconst 0, 1) := by decide +kernel
theorem d_MO_sizeOf_3 : decode b_MO_sizeOf 3 = .ok (.istore_n 2, 1) := by decide +kernel
theorem d_MO_sizeOf_4 : decode b_MO_sizeOf 4 = .ok (.iload_n 2, 1) := by decide +kernel
theorem d_MO_sizeOf_5 : decode b_MO_sizeOf 5 = .ok (.bipush 8, 2) := by decide +kernel
theorem d_MO_sizeOf_7 : decode b_MO_sizeOf 7 = .ok (.if_icmp .ge 25, 3) := by decide +kernel
theorem d_MO_sizeOf_10 : decode b_MO_sizeOf 10 = .ok (.iload_n 0, 1) := by decide +kernel
theorem d_MO_sizeOf_11 : decode b_MO_sizeOf 11 = .ok (.iload_n 2, 1) := by decide +kernel
theorem d_MO_sizeOf_12 : decode b_MO_sizeOf 12 = .ok (.invokestatic 106, 3) := by decide +kernel
theorem d_MO_sizeOf_15 : decode b_MO_sizeOf 15 = .ok (.ifCond .eq 9, 3) := by decide +kernel
theorem d_MO_sizeOf_18 : decode b_MO_sizeOf 18 = .ok (.iload_n 1, 1) := by decide +kernel
theorem d_MO_sizeOf_19 : decode b_MO_sizeOf 19 = .ok (.iconst 1, 1) := by decide +kernel
theorem d_MO_sizeOf_20 : decode b_MO_sizeOf 20 = .ok (.iadd, 1) := by decide +kernel
theorem d_MO_sizeOf_21 : decode b_MO_sizeOf 21 = .ok (.goto 4, 3) := by decide +kernel
theorem d_MO_sizeOf_24 : decode b_MO_sizeOf 24 = .ok (.iload_n 1, 1) := by decide +kernel
theorem d_MO_sizeOf_25 : decode b_MO_sizeOf 25 = .ok (.istore_n 1, 1) := by decide +kernel
theorem d_MO_sizeOf_26 : decode b_MO_sizeOf 26 = .ok (.iinc 2 1, 3) := by decide +kernel
theorem d_MO_sizeOf_29 : decode b_MO_sizeOf 29 = .ok (.goto (-25), 3) := by decide +kernel
theorem d_MO_sizeOf_32 : decode b_MO_sizeOf 32 = .ok (.iload_n 1, 1) := by decide +kernel
theorem d_MO_sizeOf_33 : decode b_MO_sizeOf 33 = .ok (.ireturn, 1) := by decide +kernel
theorem d_MO_order_0 : decode b_MO_order 0 = .ok (.iconst 0, 1) := by decide +kernel
theorem d_MO_order_1 : decode b_MO_order 1 = .ok (.istore_n 1, 1) := by decide +kernel
theorem d_MO_order_2 : decode b_MO_order 2 = .ok (.aload_n 0, 1) := by decide +kernel
theorem d_MO_order_3 : decode b_MO_order 3 = .ok (.getfield 115, 3) := by decide +kernel
theorem d_MO_order_6 : decode b_MO_order 6 = .ok (.istore_n 2, 1) := by decide +kernel
theorem d_MO_order_7 : decode b_MO_order 7 = .ok (.iconst 0, 1) := by decide +kernel
theorem d_MO_order_8 : decode b_MO_order 8 = .ok (.istore_n 3, 1) := by decide +kernel
theorem d_MO_order_9 : decode b_MO_order 9 = .ok (.iload_n 3, 1) := by decide +kernel
theorem d_MO_order_10 : decode b_MO_order 10 = .ok (.aload_n 0, 1) := by decide +kernel
theorem d_MO_order_11 : decode b_MO_order 11 = .ok (.getfield 118, 3) := by decide +kernel
theorem d_MO_order_14 : decode b_MO_order 14 = .ok (.if_icmp .ge 241, 3) := by decide +kernel
theorem d_MO_order_17 : decode b_MO_order 17 = .ok (.iconst (-1), 1) := by decide +kernel
theorem d_MO_order_18 : decode b_MO_order 18 = .ok (.istore 4, 2) := by decide +kernel
theorem d_MO_order_20 : decode b_MO_order 20 = .ok (.iconst 0, 1) := by decide +kernel
theorem d_MO_order_21 : decode b_MO_order 21 = .ok (.istore 5, 2) := by decide +kernel
theorem d_MO_order_23 : decode b_MO_order 23 = .ok (.aload_n 0, 1) := by decide +kernel
theorem d_MO_order_24 : decode b_MO_order 24 = .ok (.getfield 73, 3) := by decide +kernel
theorem d_MO_order_27 : decode b_MO_order 27 = .ok (.iconst 1, 1) := by decide +kernel
theorem d_MO_order_28 : decode b_MO_order 28 = .ok (.isub, 1) := by decide +kernel
theorem d_MO_order_29 : decode b_MO_order 29 = .ok (.istore 6, 2) := by decide +kernel
theorem d_MO_order_31 : decode b_MO_order 31 = .ok (.iload 6, 2) := by decide +kernel
theorem d_MO_order_33 : decode b_MO_order 33 = .ok (.ifCond .lt 114, 3) := by decide +kernel
theorem d_MO_order_36 : decode b_MO_order 36 = .ok (.iload_n 3, 1) := by decide +kernel
theorem d_MO_order_37 : decode b_MO_order 37 = .ok (.ifCond .ne 7, 3) := by decide +kernel
theorem d_MO_order_40 : decode b_MO_order 40 = .ok (.iconst 0, 1) := by decide +kernel
theorem d_MO_order_41 : decode b_MO_order 41 = .ok (.goto 17, 3) := by decide +kernel
theorem d_MO_order_44 : decode b_MO_order 44 = .ok (.aload_n 0, 1) := by decide +kernel
theorem d_MO_order_45 : decode b_MO_order 45 = .ok (.aload_n 0, 1) := by decide +kernel
theorem d_MO_order_46 : decode b_MO_order 46 = .ok (.getfield 45, 3) := by decide +kernel
theorem d_MO_order_49 : decode b_MO_order 49 = .ok (.iload_n 3, 1) := by decide +kernel
theorem d_MO_order_50 : decode b_MO_order 50 = .ok (.iconst 1, 1) := by decide +kernel
theorem d_MO_order_51 : decode b_MO_order 51 = .ok (.isub, 1) := by decide +kernel
theorem d_MO_order_52 : decode b_MO_order 52 = .ok (.iaload, 1) := by decide +kernel
theorem d_MO_order_53 : decode b_MO_order 53 = .ok (.iload 6, 2) := by decide +kernel
theorem d_MO_order_55 : decode b_MO_order 55 = .ok (.invokevirtual 109, 3) := by decide +kernel
theorem d_MO_order_58 : decode b_MO_order 58 = .ok (.istore 7, 2) := by decide +kernel
theorem d_MO_order_60 : decode b_MO_order 60 = .ok (.iconst 0, 1) := by decide +kernel
theorem d_MO_order_61 : decode b_MO_order 61 = .ok (.istore 8, 2) := by decide +kernel
theorem d_MO_order_63 : decode b_MO_order 63 = .ok (.iload 8, 2) := by decide +kernel
theorem d_MO_order_65 : decode b_MO_order 65 = .ok (.iconst 1, 1) := by decide +kernel
theorem d_MO_order_66 : decode b_MO_order 66 = .ok (.aload_n 0, 1) := by decide +kernel
theorem d_MO_order_67 : decode b_MO_order 67 = .ok (.getfield 73, 3) := by decide +kernel
theorem d_MO_order_70 : decode b_MO_order 70 = .ok (.ishl, 1) := by decide +kernel
theorem d_MO_order_71 : decode b_MO_order 71 = .ok (.if_icmp .ge 70, 3) := by decide +kernel
theorem d_MO_order_74 : decode b_MO_order 74 = .ok (.aload_n 0, 1) := by decide +kernel
theorem d_MO_order_75 : decode b_MO_order 75 = .ok (.getfield 51, 3) := by decide +kernel
theorem d_MO_order_78 : decode b_MO_order 78 = .ok (.iload 8, 2) := by decide +kernel
theorem d_MO_order_80 : decode b_MO_order 80 = .ok (.baload, 1) := by decide +kernel
theorem d_MO_order_81 : decode b_MO_order 81 = .ok (.ifCond .eq 54, 3) := by decide +kernel
theorem d_MO_order_84 : decode b_MO_order 84 = .ok (.iload 8, 2) := by decide +kernel
theorem d_MO_order_86 : decode b_MO_order 86 = .ok (.iload_n 1, 1) := by decide +kernel
theorem d_MO_order_87 : decode b_MO_order 87 = .ok (.isub, 1) := by decide +kernel
theorem d_MO_order_88 : decode b_MO_order 88 = .ok (.iload 6, 2) := by decide +kernel
theorem d_MO_order_90 : decode b_MO_order 90 = .ok (.invokestatic 106, 3) := by decide +kernel
theorem d_MO_order_93 : decode b_MO_order 93 = .ok (.ifCond .eq 42, 3) := by decide +kernel
theorem d_MO_order_96 : decode b_MO_order 96 = .ok (.iload_n 1, 1) := by decide +kernel
theorem d_MO_order_97 : decode b_MO_order 97 = .ok (.iload 6, 2) := by decide +kernel
theorem d_MO_order_99 : decode b_MO_order 99 = .ok (.invokestatic 106, 3) := by decide +kernel
theorem d_MO_order_102 : decode b_MO_order 102 = .ok (.ifCond .ne 33, 3) := by decide +kernel
theorem d_MO_order_105 : decode b_MO_order 105 = .ok (.iload 7, 2) := by decide +kernel
theorem d_MO_order_107 : decode b_MO_order 107 = .ok (.aload_n 0, 1) := by decide +kernel
theorem d_MO_order_108 : decode b_MO_order 108 = .ok (.getfield 48, 3) := by decide +kernel
theorem d_MO_order_111 : decode b_MO_order 111 = .ok (.bipush 8, 2) := by decide +kernel
theorem d_MO_order_113 : decode b_MO_order 113 = .ok (.iload 8, 2) := by decide +kernel
theorem d_MO_order_115 : decode b_MO_order 115 = .ok (.iload_n 1, 1) := by decide +kernel
theorem d_MO_order_116 : decode b_MO_order 116 = .ok (.isub, 1) := by decide +kernel
theorem d_MO_order_117 : decode b_MO_order 117 = .ok (.imul, 1) := by decide +kernel
theorem d_MO_order_118 : decode b_MO_order 118 = .ok (.iload 6, 2) := by decide +kernel
theorem d_MO_order_120 : decode b_MO_order 120 = .ok (.iadd, 1) := by decide +kernel
theorem d_MO_order_121 : decode b_MO_order 121 = .ok (.iaload, 1) := by decide +kernel
theorem d_MO_order_122 : decode b_MO_order 122 = .ok (.iadd, 1) := by decide +kernel
theorem d_MO_order_123 : decode b_MO_order 123 = .ok (.iload_n 2, 1) := by decide +kernel
theorem d_MO_order_124 : decode b_MO_order 124 = .ok (.if_icmp .ne 11, 3) := by decide +kernel
theorem d_MO_order_127 : decode b_MO_order 127 = .ok (.iload 6, 2) := by decide +kernel
theorem d_MO_order_129 : decode b_MO_order 129 = .ok (.istore 4, 2) := by decide +kernel
theorem d_MO_order_131 : decode b_MO_order 131 = .ok (.iload 7, 2) := by decide +kernel
theorem d_MO_order_133 : decode b_MO_order 133 = .ok (.istore 5, 2) := by decide +kernel
theorem d_MO_order_135 : decode b_MO_order 135 = .ok (.iinc 8 1, 3) := by decide +kernel
theorem d_MO_order_138 : decode b_MO_order 138 = .ok (.goto (-75), 3) := by decide +kernel
theorem d_MO_order_141 : decode b_MO_order 141 = .ok (.iinc 6 (-1), 3) := by decide +kernel
theorem d_MO_order_144 : decode b_MO_order 144 = .ok (.goto (-113), 3) := by decide +kernel
theorem d_MO_order_147 : decode b_MO_order 147 = .ok (.iconst 0, 1) := by decide +kernel
theorem d_MO_order_148 : decode b_MO_order 148 = .ok (.istore 6, 2) := by decide +kernel
theorem d_MO_order_150 : decode b_MO_order 150 = .ok (.iload 6, 2) := by decide +kernel
theorem d_MO_order_152 : decode b_MO_order 152 = .ok (.iconst 1, 1) := by decide +kernel
theorem d_MO_order_153 : decode b_MO_order 153 = .ok (.aload_n 0, 1) := by decide +kernel
theorem d_MO_order_154 : decode b_MO_order 154 = .ok (.getfield 73, 3) := by decide +kernel
theorem d_MO_order_157 : decode b_MO_order 157 = .ok (.ishl, 1) := by decide +kernel
theorem d_MO_order_158 : decode b_MO_order 158 = .ok (.if_icmp .ge 63, 3) := by decide +kernel
theorem d_MO_order_161 : decode b_MO_order 161 = .ok (.aload_n 0, 1) := by decide +kernel
theorem d_MO_order_162 : decode b_MO_order 162 = .ok (.getfield 51, 3) := by decide +kernel
theorem d_MO_order_165 : decode b_MO_order 165 = .ok (.iload 6, 2) := by decide +kernel
theorem d_MO_order_167 : decode b_MO_order 167 = .ok (.aload_n 0, 1) := by decide +kernel
theorem d_MO_order_168 : decode b_MO_order 168 = .ok (.getfield 51, 3) := by decide +kernel
theorem d_MO_order_171 : decode b_MO_order 171 = .ok (.iload 6, 2) := by decide +kernel
theorem d_MO_order_173 : decode b_MO_order 173 = .ok (.baload, 1) := by decide +kernel
theorem d_MO_order_174 : decode b_MO_order 174 = .ok (.ifCond .eq 39, 3) := by decide +kernel
theorem d_MO_order_177 : decode b_MO_order 177 = .ok (.iload 6, 2) := by decide +kernel
theorem d_MO_order_179 : decode b_MO_order 179 = .ok (.iload 4, 2) := by decide +kernel
theorem d_MO_order_181 : decode b_MO_order 181 = .ok (.invokestatic 106, 3) := by decide +kernel
theorem d_MO_order_184 : decode b_MO_order 184 = .ok (.ifCond .eq 29, 3) := by decide +kernel
theorem d_MO_order_187 : decode b_MO_order 187 = .ok (.iload 5, 2) := by decide +kernel
theorem d_MO_order_189 : decode b_MO_order 189 = .ok (.aload_n 0, 1) := by decide +kernel
theorem d_MO_order_190 : decode b_MO_order 190 = .ok (.getfield 48, 3) := by decide +kernel
theorem d_MO_order_193 : decode b_MO_order 193 = .ok (.bipush 8, 2) := by decide +kernel
theorem d_MO_order_195 : decode b_MO_order 195 = .ok (.iload 6, 2) := by decide +kernel
theorem d_MO_order_197 : decode b_MO_order 197 = .ok (.iload_n 1, 1) := by decide +kernel
theorem d_MO_order_198 : decode b_MO_order 198 = .ok (.isub, 1) := by decide +kernel
theorem d_MO_order_199 : decode b_MO_order 199 = .ok (.imul, 1) := by decide +kernel
theorem d_MO_order_200 : decode b_MO_order 200 = .ok (.iload 4, 2) := by decide +kernel
theorem d_MO_order_202 : decode b_MO_order 202 = .ok (.iadd, 1) := by decide +kernel
theorem d_MO_order_203 : decode b_MO_order 203 = .ok (.iaload, 1) := by decide +kernel
theorem d_MO_order_204 : decode b_MO_order 204 = .ok (.iadd, 1) := by decide +kernel
theorem d_MO_order_205 : decode b_MO_order 205 = .ok (.iload_n 2, 1) := by decide +kernel
theorem d_MO_order_206 : decode b_MO_order 206 = .ok (.if_icmp .ne 7, 3) := by decide +kernel
theorem d_MO_order_209 : decode b_MO_order 209 = .ok (.iconst 1, 1) := by decide +kernel
theorem d_MO_order_210 : decode b_MO_order 210 = .ok (.goto 4, 3) := by decide +kernel
theorem d_MO_order_213 : decode b_MO_order 213 = .ok (.iconst 0, 1) := by decide +kernel
theorem d_MO_order_214 : decode b_MO_order 214 = .ok (.bastore, 1) := by decide +kernel
theorem d_MO_order_215 : decode b_MO_order 215 = .ok (.iinc 6 1, 3) := by decide +kernel
theorem d_MO_order_218 : decode b_MO_order 218 = .ok (.goto (-68), 3) := by decide +kernel
theorem d_MO_order_221 : decode b_MO_order 221 = .ok (.aload_n 0, 1) := by decide +kernel
theorem d_MO_order_222 : decode b_MO_order 222 = .ok (.getfield 45, 3) := by decide +kernel
theorem d_MO_order_225 : decode b_MO_order 225 = .ok (.iload_n 3, 1) := by decide +kernel
theorem d_MO_order_226 : decode b_MO_order 226 = .ok (.iload 4, 2) := by decide +kernel
theorem d_MO_order_228 : decode b_MO_order 228 = .ok (.iastore, 1) := by decide +kernel
theorem d_MO_order_229 : decode b_MO_order 229 = .ok (.iload_n 1, 1) := by decide +kernel
theorem d_MO_order_230 : decode b_MO_order 230 = .ok (.iconst 1, 1) := by decide +kernel
theorem d_MO_order_231 : decode b_MO_order 231 = .ok (.iload 4, 2) := by decide +kernel
theorem d_MO_order_233 : decode b_MO_order 233 = .ok (.ishl, 1) := by decide +kernel
theorem d_MO_order_234 : decode b_MO_order 234 = .ok (.ior, 1) := by decide +kernel
theorem d_MO_order_235 : decode b_MO_order 235 = .ok (.istore_n 1, 1) := by decide +kernel
theorem d_MO_order_236 : decode b_MO_order 236 = .ok (.iload_n 2, 1) := by decide +kernel
theorem d_MO_order_237 : decode b_MO_order 237 = .ok (.iload 5, 2) := by decide +kernel
theorem d_MO_order_239 : decode b_MO_order 239 = .ok (.isub, 1) := by decide +kernel
theorem d_MO_order_240 : decode b_MO_order 240 = .ok (.aload_n 0, 1) := by decide +kernel
theorem d_MO_order_241 : decode b_MO_order 241 = .ok (.getfield 19, 3) := by decide +kernel
theorem d_MO_order_244 : decode b_MO_order 244 = .ok (.iload 4, 2) := by decide +kernel
theorem d_MO_order_246 : decode b_MO_order 246 = .ok (.iaload, 1) := by decide +kernel
theorem d_MO_order_247 : decode b_MO_order 247 = .ok (.isub, 1) := by decide +kernel
theorem d_MO_order_248 : decode b_MO_order 248 = .ok (.istore_n 2, 1) := by decide +kernel
theorem d_MO_order_249 : decode b_MO_order 249 = .ok (.iinc 3 1, 3) := by decide +kernel
theorem d_MO_order_252 : decode b_MO_order 252 = .ok (.goto (-243), 3) := by decide +kernel
theorem d_MO_order_255 : decode b_MO_order 255 = .ok (.return_, 1) := by decide +kernel
theorem d_MO_planned_0 : decode b_MO_planned 0 = .ok (.aload_n 0, 1) := by decide +kernel
theorem d_MO_planned_1 : decode b_MO_planned 1 = .ok (.iload_n 1, 1) := by decide +kernel
theorem d_MO_planned_2 : decode b_MO_planned 2 = .ok (.iconst 0, 1) := by decide +kernel
theorem d_MO_planned_3 : decode b_MO_planned 3 = .ok (.aload_n 0, 1) := by decide +kernel
theorem d_MO_planned_4 : decode b_MO_planned 4 = .ok (.getfield 118, 3) := by decide +kernel
theorem d_MO_planned_7 : decode b_MO_planned 7 = .ok (.iconst 1, 1) := by decide +kernel
theorem d_MO_planned_8 : decode b_MO_planned 8 = .ok (.isub, 1) := by decide +kernel
theorem d_MO_planned_9 : decode b_MO_planned 9 = .ok (.invokestatic 64, 3) := by decide +kernel
theorem d_MO_planned_12 : decode b_MO_planned 12 = .ok (.iconst 1, 1) := by decide +kernel
theorem d_MO_planned_13 : decode b_MO_planned 13 = .ok (.invokevirtual 69, 3) := by decide +kernel
theorem d_MO_planned_16 : decode b_MO_planned 16 = .ok (.ifCond .eq 12, 3) := by decide +kernel
theorem d_MO_planned_19 : decode b_MO_planned 19 = .ok (.aload_n 0, 1) := by decide +kernel
theorem d_MO_planned_20 : decode b_MO_planned 20 = .ok (.getfield 45, 3) := by decide +kernel
theorem d_MO_planned_23 : decode b_MO_planned 23 = .ok (.iload_n 1, 1) := by decide +kernel
theorem d_MO_planned_24 : decode b_MO_planned 24 = .ok (.iaload, 1) := by decide +kernel
theorem d_MO_planned_25 : decode b_MO_planned 25 = .ok (.goto 4, 3) := by decide +kernel
theorem d_MO_planned_28 : decode b_MO_planned 28 = .ok (.iconst 0, 1) := by decide +kernel
theorem d_MO_planned_29 : decode b_MO_planned 29 = .ok (.ireturn, 1) := by decide +kernel
theorem d_MO_seconds_0 : decode b_MO_seconds 0 = .ok (.aload_n 0, 1) := by decide +kernel
theorem d_MO_seconds_1 : decode b_MO_seconds 1 = .ok (.iconst 0, 1) := by decide +kernel
theorem d_MO_seconds_2 : decode b_MO_seconds 2 = .ok (.putfield 58, 3) := by decide +kernel
theorem d_MO_seconds_5 : decode b_MO_seconds 5 = .ok (.aload_n 0, 1) := by decide +kernel
theorem d_MO_seconds_6 : decode b_MO_seconds 6 = .ok (.getfield 115, 3) := by decide +kernel
theorem d_MO_seconds_9 : decode b_MO_seconds 9 = .ok (.ireturn, 1) := by decide +kernel
theorem d_MO_from_0 : decode b_MO_from 0 = .ok (.aload_n 0, 1) := by decide +kernel
theorem d_MO_from_1 : decode b_MO_from 1 = .ok (.iload_n 1, 1) := by decide +kernel
theorem d_MO_from_2 : decode b_MO_from 2 = .ok (.iconst 0, 1) := by decide +kernel
theorem d_MO_from_3 : decode b_MO_from 3 = .ok (.aload_n 0, 1) := by decide +kernel
theorem d_MO_from_4 : decode b_MO_from 4 = .ok (.getfield 73, 3) := by decide +kernel
theorem d_MO_from_7 : decode b_MO_from 7 = .ok (.iconst 1, 1) := by decide +kernel
theorem d_MO_from_8 : decode b_MO_from 8 = .ok (.isub, 1) := by decide +kernel
theorem d_MO_from_9 : decode b_MO_from 9 = .ok (.invokestatic 64, 3) := by decide +kernel
theorem d_MO_from_12 : decode b_MO_from 12 = .ok (.iconst 1, 1) := by decide +kernel
theorem d_MO_from_13 : decode b_MO_from 13 = .ok (.invokevirtual 69, 3) := by decide +kernel
theorem d_MO_from_16 : decode b_MO_from 16 = .ok (.ifCond .ne 5, 3) := by decide +kernel
theorem d_MO_from_19 : decode b_MO_from 19 = .ok (.iconst 0, 1) := by decide +kernel
theorem d_MO_from_20 : decode b_MO_from 20 = .ok (.ireturn, 1) := by decide +kernel
theorem d_MO_from_21 : decode b_MO_from 21 = .ok (.aload_n 0, 1) := by decide +kernel
theorem d_MO_from_22 : decode b_MO_from 22 = .ok (.getfield 22, 3) := by decide +kernel
theorem d_MO_from_25 : decode b_MO_from 25 = .ok (.iload_n 1, 1) := by decide +kernel
theorem d_MO_from_26 : decode b_MO_from 26 = .ok (.iaload, 1) := by decide +kernel
theorem d_MO_from_27 : decode b_MO_from 27 = .ok (.ifCond .ne 5, 3) := by decide +kernel
theorem d_MO_from_30 : decode b_MO_from 30 = .ok (.iconst (-1), 1) := by decide +kernel
theorem d_MO_from_31 : decode b_MO_from 31 = .ok (.ireturn, 1) := by decide +kernel
theorem d_MO_from_32 : decode b_MO_from 32 = .ok (.aload_n 0, 1) := by decide +kernel
theorem d_MO_from_33 : decode b_MO_from 33 = .ok (.invokevirtual 112, 3) := by decide +kernel
theorem d_MO_from_36 : decode b_MO_from 36 = .ok (.ldc 102, 2) := by decide +kernel
theorem d_MO_from_38 : decode b_MO_from 38 = .ok (.istore_n 2, 1) := by decide +kernel
theorem d_MO_from_39 : decode b_MO_from 39 = .ok (.iconst 1, 1) := by decide +kernel
theorem d_MO_from_40 : decode b_MO_from 40 = .ok (.istore_n 3, 1) := by decide +kernel
theorem d_MO_from_41 : decode b_MO_from 41 = .ok (.iload_n 3, 1) := by decide +kernel
theorem d_MO_from_42 : decode b_MO_from 42 = .ok (.iconst 1, 1) := by decide +kernel
theorem d_MO_from_43 : decode b_MO_from 43 = .ok (.aload_n 0, 1) := by decide +kernel
theorem d_MO_from_44 : decode b_MO_from 44 = .ok (.getfield 73, 3) := by decide +kernel
theorem d_MO_from_47 : decode b_MO_from 47 = .ok (.ishl, 1) := by decide +kernel
theorem d_MO_from_48 : decode b_MO_from 48 = .ok (.if_icmp .ge 72, 3) := by decide +kernel
theorem d_MO_from_51 : decode b_MO_from 51 = .ok (.iload_n 3, 1) := by decide +kernel
theorem d_MO_from_52 : decode b_MO_from 52 = .ok (.iload_n 1, 1) := by decide +kernel
theorem d_MO_from_53 : decode b_MO_from 53 = .ok (.invokestatic 106, 3) := by decide +kernel
theorem d_MO_from_56 : decode b_MO_from 56 = .ok (.ifCond .eq 19, 3) := by decide +kernel
theorem d_MO_from_59 : decode b_MO_from 59 = .ok (.aload_n 0, 1) := by decide +kernel
theorem d_MO_from_60 : decode b_MO_from 60 = .ok (.iload_n 3, 1) := by decide +kernel
theorem d_MO_from_61 : decode b_MO_from 61 = .ok (.invokevirtual 121, 3) := by decide +kernel
theorem d_MO_from_64 : decode b_MO_from 64 = .ok (.aload_n 0, 1) := by decide +kernel
theorem d_MO_from_65 : decode b_MO_from 65 = .ok (.invokevirtual 98, 3) := by decide +kernel
theorem d_MO_from_68 : decode b_MO_from 68 = .ok (.if_icmp .ne 7, 3) := by decide +kernel
theorem d_MO_from_71 : decode b_MO_from 71 = .ok (.iconst 1, 1) := by decide +kernel
theorem d_MO_from_72 : decode b_MO_from 72 = .ok (.goto 4, 3) := by decide +kernel
theorem d_MO_from_75 : decode b_MO_from 75 = .ok (.iconst 0, 1) := by decide +kernel
theorem d_MO_from_76 : decode b_MO_from 76 = .ok (.istore 4, 2) := by decide +kernel
theorem d_MO_from_78 : decode b_MO_from 78 = .ok (.iload 4, 2) := by decide +kernel
theorem d_MO_from_80 : decode b_MO_from 80 = .ok (.ifCond .eq 32, 3) := by decide +kernel
theorem d_MO_from_83 : decode b_MO_from 83 = .ok (.aload_n 0, 1) := by decide +kernel
theorem d_MO_from_84 : decode b_MO_from 84 = .ok (.getfield 48, 3) := by decide +kernel
theorem d_MO_from_87 : decode b_MO_from 87 = .ok (.bipush 8, 2) := by decide +kernel
theorem d_MO_from_89 : decode b_MO_from 89 = .ok (.iload_n 3, 1) := by decide +kernel
theorem d_MO_from_90 : decode b_MO_from 90 = .ok (.imul, 1) := by decide +kernel
theorem d_MO_from_91 : decode b_MO_from 91 = .ok (.iload_n 1, 1) := by decide +kernel
theorem d_MO_from_92 : decode b_MO_from 92 = .ok (.iadd, 1) := by decide +kernel
theorem d_MO_from_93 : decode b_MO_from 93 = .ok (.iaload, 1) := by decide +kernel
theorem d_MO_from_94 : decode b_MO_from 94 = .ok (.iload_n 2, 1) := by decide +kernel
theorem d_MO_from_95 : decode b_MO_from 95 = .ok (.if_icmp .ge 17, 3) := by decide +kernel
theorem d_MO_from_98 : decode b_MO_from 98 = .ok (.aload_n 0, 1) := by decide +kernel
theorem d_MO_from_99 : decode b_MO_from 99 = .ok (.getfield 48, 3) := by decide +kernel
theorem d_MO_from_102 : decode b_MO_from 102 = .ok (.bipush 8, 2) := by decide +kernel
theorem d_MO_from_104 : decode b_MO_from 104 = .ok (.iload_n 3, 1) := by decide +kernel
theorem d_MO_from_105 : decode b_MO_from 105 = .ok (.imul, 1) := by decide +kernel
theorem d_MO_from_106 : decode b_MO_from 106 = .ok (.iload_n 1, 1) := by decide +kernel
theorem d_MO_from_107 : decode b_MO_from 107 = .ok (.iadd, 1) := by decide +kernel
theorem d_MO_from_108 : decode b_MO_from 108 = .ok (.iaload, 1) := by decide +kernel
theorem d_MO_from_109 : decode b_MO_from 109 = .ok (.goto 4, 3) := by decide +kernel
theorem d_MO_from_112 : decode b_MO_from 112 = .ok (.iload_n 2, 1) := by decide +kernel
theorem d_MO_from_113 : decode b_MO_from 113 = .ok (.istore_n 2, 1) := by decide +kernel
theorem d_MO_from_114 : decode b_MO_from 114 = .ok (.iinc 3 1, 3) := by decide +kernel
theorem d_MO_from_117 : decode b_MO_from 117 = .ok (.goto (-76), 3) := by decide +kernel
theorem d_MO_from_120 : decode b_MO_from 120 = .ok (.iload_n 2, 1) := by decide +kernel
theorem d_MO_from_121 : decode b_MO_from 121 = .ok (.ireturn, 1) := by decide +kernel
