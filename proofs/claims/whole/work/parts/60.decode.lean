theorem dX9_init_0 : decode cX9_init 0 = .ok (.aload_n 0, 1) := by decide +kernel
theorem dX9_init_1 : decode cX9_init 1 = .ok (.invokespecial 1, 3) := by decide +kernel
theorem dX9_init_4 : decode cX9_init 4 = .ok (.aload_n 0, 1) := by decide +kernel
theorem dX9_init_5 : decode cX9_init 5 = .ok (.sipush 6580, 3) := by decide +kernel
theorem dX9_init_8 : decode cX9_init 8 = .ok (.newarray .int, 2) := by decide +kernel
theorem dX9_init_10 : decode cX9_init 10 = .ok (.putfield 7, 3) := by decide +kernel
theorem dX9_init_13 : decode cX9_init 13 = .ok (.aload_n 0, 1) := by decide +kernel
theorem dX9_init_14 : decode cX9_init 14 = .ok (.bipush 47, 2) := by decide +kernel
theorem dX9_init_16 : decode cX9_init 16 = .ok (.newarray .int, 2) := by decide +kernel
theorem dX9_init_18 : decode cX9_init 18 = .ok (.putfield 13, 3) := by decide +kernel
theorem dX9_init_21 : decode cX9_init 21 = .ok (.aload_n 0, 1) := by decide +kernel
theorem dX9_init_22 : decode cX9_init 22 = .ok (.bipush 8, 2) := by decide +kernel
theorem dX9_init_24 : decode cX9_init 24 = .ok (.newarray .int, 2) := by decide +kernel
theorem dX9_init_26 : decode cX9_init 26 = .ok (.putfield 16, 3) := by decide +kernel
theorem dX9_init_29 : decode cX9_init 29 = .ok (.aload_n 0, 1) := by decide +kernel
theorem dX9_init_30 : decode cX9_init 30 = .ok (.bipush 8, 2) := by decide +kernel
theorem dX9_init_32 : decode cX9_init 32 = .ok (.newarray .int, 2) := by decide +kernel
theorem dX9_init_34 : decode cX9_init 34 = .ok (.putfield 19, 3) := by decide +kernel
theorem dX9_init_37 : decode cX9_init 37 = .ok (.aload_n 0, 1) := by decide +kernel
theorem dX9_init_38 : decode cX9_init 38 = .ok (.bipush 8, 2) := by decide +kernel
theorem dX9_init_40 : decode cX9_init 40 = .ok (.newarray .int, 2) := by decide +kernel
theorem dX9_init_42 : decode cX9_init 42 = .ok (.putfield 22, 3) := by decide +kernel
theorem dX9_init_45 : decode cX9_init 45 = .ok (.aload_n 0, 1) := by decide +kernel
theorem dX9_init_46 : decode cX9_init 46 = .ok (.bipush 8, 2) := by decide +kernel
theorem dX9_init_48 : decode cX9_init 48 = .ok (.newarray .int, 2) := by decide +kernel
theorem dX9_init_50 : decode cX9_init 50 = .ok (.putfield 25, 3) := by decide +kernel
theorem dX9_init_53 : decode cX9_init 53 = .ok (.aload_n 0, 1) := by decide +kernel
theorem dX9_init_54 : decode cX9_init 54 = .ok (.bipush 8, 2) := by decide +kernel
theorem dX9_init_56 : decode cX9_init 56 = .ok (.newarray .int, 2) := by decide +kernel
theorem dX9_init_58 : decode cX9_init 58 = .ok (.putfield 28, 3) := by decide +kernel
theorem dX9_init_61 : decode cX9_init 61 = .ok (.aload_n 0, 1) := by decide +kernel
theorem dX9_init_62 : decode cX9_init 62 = .ok (.bipush 8, 2) := by decide +kernel
theorem dX9_init_64 : decode cX9_init 64 = .ok (.newarray .int, 2) := by decide +kernel
theorem dX9_init_66 : decode cX9_init 66 = .ok (.putfield 31, 3) := by decide +kernel
theorem dX9_init_69 : decode cX9_init 69 = .ok (.aload_n 0, 1) := by decide +kernel
theorem dX9_init_70 : decode cX9_init 70 = .ok (.bipush 16, 2) := by decide +kernel
theorem dX9_init_72 : decode cX9_init 72 = .ok (.newarray .int, 2) := by decide +kernel
theorem dX9_init_74 : decode cX9_init 74 = .ok (.putfield 34, 3) := by decide +kernel
theorem dX9_init_77 : decode cX9_init 77 = .ok (.aload_n 0, 1) := by decide +kernel
theorem dX9_init_78 : decode cX9_init 78 = .ok (.bipush 16, 2) := by decide +kernel
theorem dX9_init_80 : decode cX9_init 80 = .ok (.newarray .int, 2) := by decide +kernel
theorem dX9_init_82 : decode cX9_init 82 = .ok (.putfield 37, 3) := by decide +kernel
theorem dX9_init_85 : decode cX9_init 85 = .ok (.aload_n 0, 1) := by decide +kernel
theorem dX9_init_86 : decode cX9_init 86 = .ok (.bipush 16, 2) := by decide +kernel
theorem dX9_init_88 : decode cX9_init 88 = .ok (.newarray .int, 2) := by decide +kernel
theorem dX9_init_90 : decode cX9_init 90 = .ok (.putfield 40, 3) := by decide +kernel
theorem dX9_init_93 : decode cX9_init 93 = .ok (.aload_n 0, 1) := by decide +kernel
theorem dX9_init_94 : decode cX9_init 94 = .ok (.bipush 16, 2) := by decide +kernel
theorem dX9_init_96 : decode cX9_init 96 = .ok (.newarray .int, 2) := by decide +kernel
theorem dX9_init_98 : decode cX9_init 98 = .ok (.putfield 43, 3) := by decide +kernel
theorem dX9_init_101 : decode cX9_init 101 = .ok (.aload_n 0, 1) := by decide +kernel
theorem dX9_init_102 : decode cX9_init 102 = .ok (.bipush 16, 2) := by decide +kernel
theorem dX9_init_104 : decode cX9_init 104 = .ok (.newarray .int, 2) := by decide +kernel
theorem dX9_init_106 : decode cX9_init 106 = .ok (.putfield 46, 3) := by decide +kernel
theorem dX9_init_109 : decode cX9_init 109 = .ok (.aload_n 0, 1) := by decide +kernel
theorem dX9_init_110 : decode cX9_init 110 = .ok (.bipush 16, 2) := by decide +kernel
theorem dX9_init_112 : decode cX9_init 112 = .ok (.newarray .int, 2) := by decide +kernel
theorem dX9_init_114 : decode cX9_init 114 = .ok (.putfield 49, 3) := by decide +kernel
theorem dX9_init_117 : decode cX9_init 117 = .ok (.aload_n 0, 1) := by decide +kernel
theorem dX9_init_118 : decode cX9_init 118 = .ok (.bipush 16, 2) := by decide +kernel
theorem dX9_init_120 : decode cX9_init 120 = .ok (.newarray .int, 2) := by decide +kernel
theorem dX9_init_122 : decode cX9_init 122 = .ok (.putfield 52, 3) := by decide +kernel
theorem dX9_init_125 : decode cX9_init 125 = .ok (.aload_n 0, 1) := by decide +kernel
theorem dX9_init_126 : decode cX9_init 126 = .ok (.sipush 250, 3) := by decide +kernel
theorem dX9_init_129 : decode cX9_init 129 = .ok (.newarray .long, 2) := by decide +kernel
theorem dX9_init_131 : decode cX9_init 131 = .ok (.putfield 55, 3) := by decide +kernel
theorem dX9_init_134 : decode cX9_init 134 = .ok (.aload_n 0, 1) := by decide +kernel
theorem dX9_init_135 : decode cX9_init 135 = .ok (.sipush 1400, 3) := by decide +kernel
theorem dX9_init_138 : decode cX9_init 138 = .ok (.newarray .int, 2) := by decide +kernel
theorem dX9_init_140 : decode cX9_init 140 = .ok (.putfield 59, 3) := by decide +kernel
theorem dX9_init_143 : decode cX9_init 143 = .ok (.iconst 0, 1) := by decide +kernel
theorem dX9_init_144 : decode cX9_init 144 = .ok (.istore_n 1, 1) := by decide +kernel
theorem dX9_init_145 : decode cX9_init 145 = .ok (.iload_n 1, 1) := by decide +kernel
theorem dX9_init_146 : decode cX9_init 146 = .ok (.bipush 8, 2) := by decide +kernel
theorem dX9_init_148 : decode cX9_init 148 = .ok (.if_icmp .ge 47, 3) := by decide +kernel
theorem dX9_init_151 : decode cX9_init 151 = .ok (.aload_n 0, 1) := by decide +kernel
theorem dX9_init_152 : decode cX9_init 152 = .ok (.getfield 16, 3) := by decide +kernel
theorem dX9_init_155 : decode cX9_init 155 = .ok (.iload_n 1, 1) := by decide +kernel
theorem dX9_init_156 : decode cX9_init 156 = .ok (.iconst 1, 1) := by decide +kernel
theorem dX9_init_157 : decode cX9_init 157 = .ok (.iastore, 1) := by decide +kernel
theorem dX9_init_158 : decode cX9_init 158 = .ok (.aload_n 0, 1) := by decide +kernel
theorem dX9_init_159 : decode cX9_init 159 = .ok (.getfield 19, 3) := by decide +kernel
theorem dX9_init_162 : decode cX9_init 162 = .ok (.iload_n 1, 1) := by decide +kernel
theorem dX9_init_163 : decode cX9_init 163 = .ok (.iconst 1, 1) := by decide +kernel
theorem dX9_init_164 : decode cX9_init 164 = .ok (.iastore, 1) := by decide +kernel
theorem dX9_init_165 : decode cX9_init 165 = .ok (.aload_n 0, 1) := by decide +kernel
theorem dX9_init_166 : decode cX9_init 166 = .ok (.getfield 22, 3) := by decide +kernel
theorem dX9_init_169 : decode cX9_init 169 = .ok (.iload_n 1, 1) := by decide +kernel
theorem dX9_init_170 : decode cX9_init 170 = .ok (.iconst 1, 1) := by decide +kernel
theorem dX9_init_171 : decode cX9_init 171 = .ok (.iastore, 1) := by decide +kernel
theorem dX9_init_172 : decode cX9_init 172 = .ok (.aload_n 0, 1) := by decide +kernel
theorem dX9_init_173 : decode cX9_init 173 = .ok (.iconst 0, 1) := by decide +kernel
theorem dX9_init_174 : decode cX9_init 174 = .ok (.iload_n 1, 1) := by decide +kernel
theorem dX9_init_175 : decode cX9_init 175 = .ok (.iadd, 1) := by decide +kernel
theorem dX9_init_176 : decode cX9_init 176 = .ok (.lconst 1, 1) := by decide +kernel
theorem dX9_init_177 : decode cX9_init 177 = .ok (.invokevirtual 62, 3) := by decide +kernel
theorem dX9_init_180 : decode cX9_init 180 = .ok (.aload_n 0, 1) := by decide +kernel
theorem dX9_init_181 : decode cX9_init 181 = .ok (.bipush 8, 2) := by decide +kernel
theorem dX9_init_183 : decode cX9_init 183 = .ok (.iload_n 1, 1) := by decide +kernel
theorem dX9_init_184 : decode cX9_init 184 = .ok (.iadd, 1) := by decide +kernel
theorem dX9_init_185 : decode cX9_init 185 = .ok (.lconst 1, 1) := by decide +kernel
theorem dX9_init_186 : decode cX9_init 186 = .ok (.invokevirtual 62, 3) := by decide +kernel
theorem dX9_init_189 : decode cX9_init 189 = .ok (.iinc 1 1, 3) := by decide +kernel
theorem dX9_init_192 : decode cX9_init 192 = .ok (.goto (-47), 3) := by decide +kernel
theorem dX9_init_195 : decode cX9_init 195 = .ok (.aload_n 0, 1) := by decide +kernel
theorem dX9_init_196 : decode cX9_init 196 = .ok (.bipush 32, 2) := by decide +kernel
theorem dX9_init_198 : decode cX9_init 198 = .ok (.lconst 1, 1) := by decide +kernel
theorem dX9_init_199 : decode cX9_init 199 = .ok (.invokevirtual 62, 3) := by decide +kernel
theorem dX9_init_202 : decode cX9_init 202 = .ok (.aload_n 0, 1) := by decide +kernel
theorem dX9_init_203 : decode cX9_init 203 = .ok (.bipush 33, 2) := by decide +kernel
theorem dX9_init_205 : decode cX9_init 205 = .ok (.lconst 1, 1) := by decide +kernel
theorem dX9_init_206 : decode cX9_init 206 = .ok (.invokevirtual 62, 3) := by decide +kernel
theorem dX9_init_209 : decode cX9_init 209 = .ok (.return_, 1) := by decide +kernel
theorem dX9_thrown_0 : decode cX9_thrown 0 = .ok (.aload_n 0, 1) := by decide +kernel
theorem dX9_thrown_1 : decode cX9_thrown 1 = .ok (.getfield 66, 3) := by decide +kernel
theorem dX9_thrown_4 : decode cX9_thrown 4 = .ok (.ireturn, 1) := by decide +kernel
theorem dX9_in_0 : decode cX9_in 0 = .ok (.iload_n 0, 1) := by decide +kernel
theorem dX9_in_1 : decode cX9_in 1 = .ok (.iload_n 1, 1) := by decide +kernel
theorem dX9_in_2 : decode cX9_in 2 = .ok (.if_icmp .lt 12, 3) := by decide +kernel
theorem dX9_in_5 : decode cX9_in 5 = .ok (.iload_n 0, 1) := by decide +kernel
theorem dX9_in_6 : decode cX9_in 6 = .ok (.iload_n 2, 1) := by decide +kernel
theorem dX9_in_7 : decode cX9_in 7 = .ok (.if_icmp .gt 7, 3) := by decide +kernel
theorem dX9_in_10 : decode cX9_in 10 = .ok (.iconst 1, 1) := by decide +kernel
theorem dX9_in_11 : decode cX9_in 11 = .ok (.goto 4, 3) := by decide +kernel
theorem dX9_in_14 : decode cX9_in 14 = .ok (.iconst 0, 1) := by decide +kernel
theorem dX9_in_15 : decode cX9_in 15 = .ok (.ireturn, 1) := by decide +kernel
theorem dX9_isMember_0 : decode cX9_isMember 0 = .ok (.aload_n 0, 1) := by decide +kernel
theorem dX9_isMember_1 : decode cX9_isMember 1 = .ok (.getfield 70, 3) := by decide +kernel
theorem dX9_isMember_4 : decode cX9_isMember 4 = .ok (.iload_n 1, 1) := by decide +kernel
theorem dX9_isMember_5 : decode cX9_isMember 5 = .ok (.ishr, 1) := by decide +kernel
theorem dX9_isMember_6 : decode cX9_isMember 6 = .ok (.iconst 1, 1) := by decide +kernel
theorem dX9_isMember_7 : decode cX9_isMember 7 = .ok (.iand, 1) := by decide +kernel
theorem dX9_isMember_8 : decode cX9_isMember 8 = .ok (.iconst 1, 1) := by decide +kernel
theorem dX9_isMember_9 : decode cX9_isMember 9 = .ok (.if_icmp .ne 7, 3) := by decide +kernel
theorem dX9_isMember_12 : decode cX9_isMember 12 = .ok (.iconst 1, 1) := by decide +kernel
theorem dX9_isMember_13 : decode cX9_isMember 13 = .ok (.goto 4, 3) := by decide +kernel
theorem dX9_isMember_16 : decode cX9_isMember 16 = .ok (.iconst 0, 1) := by decide +kernel
theorem dX9_isMember_17 : decode cX9_isMember 17 = .ok (.ireturn, 1) := by decide +kernel
theorem dX9_set_0 : decode cX9_set 0 = .ok (.aload_n 0, 1) := by decide +kernel
theorem dX9_set_1 : decode cX9_set 1 = .ok (.getfield 13, 3) := by decide +kernel
theorem dX9_set_4 : decode cX9_set 4 = .ok (.iload_n 1, 1) := by decide +kernel
theorem dX9_set_5 : decode cX9_set 5 = .ok (.iconst 0, 1) := by decide +kernel
theorem dX9_set_6 : decode cX9_set 6 = .ok (.iastore, 1) := by decide +kernel
theorem dX9_set_7 : decode cX9_set 7 = .ok (.lload_n 2, 1) := by decide +kernel
theorem dX9_set_8 : decode cX9_set 8 = .ok (.lstore 4, 2) := by decide +kernel
theorem dX9_set_10 : decode cX9_set 10 = .ok (.lload 4, 2) := by decide +kernel
theorem dX9_set_12 : decode cX9_set 12 = .ok (.lconst 0, 1) := by decide +kernel
theorem dX9_set_13 : decode cX9_set 13 = .ok (.lcmp, 1) := by decide +kernel
theorem dX9_set_14 : decode cX9_set 14 = .ok (.ifCond .le 48, 3) := by decide +kernel
theorem dX9_set_17 : decode cX9_set 17 = .ok (.aload_n 0, 1) := by decide +kernel
theorem dX9_set_18 : decode cX9_set 18 = .ok (.getfield 7, 3) := by decide +kernel
theorem dX9_set_21 : decode cX9_set 21 = .ok (.sipush 140, 3) := by decide +kernel
theorem dX9_set_24 : decode cX9_set 24 = .ok (.iload_n 1, 1) := by decide +kernel
theorem dX9_set_25 : decode cX9_set 25 = .ok (.imul, 1) := by decide +kernel
theorem dX9_set_26 : decode cX9_set 26 = .ok (.aload_n 0, 1) := by decide +kernel
theorem dX9_set_27 : decode cX9_set 27 = .ok (.getfield 13, 3) := by decide +kernel
theorem dX9_set_30 : decode cX9_set 30 = .ok (.iload_n 1, 1) := by decide +kernel
theorem dX9_set_31 : decode cX9_set 31 = .ok (.iaload, 1) := by decide +kernel
theorem dX9_set_32 : decode cX9_set 32 = .ok (.iadd, 1) := by decide +kernel
theorem dX9_set_33 : decode cX9_set 33 = .ok (.lload 4, 2) := by decide +kernel
theorem dX9_set_35 : decode cX9_set 35 = .ok (.ldc2_w 73, 3) := by decide +kernel
theorem dX9_set_38 : decode cX9_set 38 = .ok (.lrem, 1) := by decide +kernel
theorem dX9_set_39 : decode cX9_set 39 = .ok (.l2i, 1) := by decide +kernel
theorem dX9_set_40 : decode cX9_set 40 = .ok (.iastore, 1) := by decide +kernel
theorem dX9_set_41 : decode cX9_set 41 = .ok (.aload_n 0, 1) := by decide +kernel
theorem dX9_set_42 : decode cX9_set 42 = .ok (.getfield 13, 3) := by decide +kernel
theorem dX9_set_45 : decode cX9_set 45 = .ok (.iload_n 1, 1) := by decide +kernel
theorem dX9_set_46 : decode cX9_set 46 = .ok (.dup2, 1) := by decide +kernel
theorem dX9_set_47 : decode cX9_set 47 = .ok (.iaload, 1) := by decide +kernel
theorem dX9_set_48 : decode cX9_set 48 = .ok (.iconst 1, 1) := by decide +kernel
theorem dX9_set_49 : decode cX9_set 49 = .ok (.iadd, 1) := by decide +kernel
theorem dX9_set_50 : decode cX9_set 50 = .ok (.iastore, 1) := by decide +kernel
theorem dX9_set_51 : decode cX9_set 51 = .ok (.lload 4, 2) := by decide +kernel
theorem dX9_set_53 : decode cX9_set 53 = .ok (.ldc2_w 73, 3) := by decide +kernel
theorem dX9_set_56 : decode cX9_set 56 = .ok (.ldiv, 1) := by decide +kernel
theorem dX9_set_57 : decode cX9_set 57 = .ok (.lstore 4, 2) := by decide +kernel
theorem dX9_set_59 : decode cX9_set 59 = .ok (.goto (-49), 3) := by decide +kernel
theorem dX9_set_62 : decode cX9_set 62 = .ok (.return_, 1) := by decide +kernel
theorem dX9_copy_0 : decode cX9_copy 0 = .ok (.iconst 0, 1) := by decide +kernel
theorem dX9_copy_1 : decode cX9_copy 1 = .ok (.istore_n 3, 1) := by decide +kernel
theorem dX9_copy_2 : decode cX9_copy 2 = .ok (.iload_n 3, 1) := by decide +kernel
theorem dX9_copy_3 : decode cX9_copy 3 = .ok (.aload_n 0, 1) := by decide +kernel
theorem dX9_copy_4 : decode cX9_copy 4 = .ok (.getfield 13, 3) := by decide +kernel
theorem dX9_copy_7 : decode cX9_copy 7 = .ok (.iload_n 2, 1) := by decide +kernel
theorem dX9_copy_8 : decode cX9_copy 8 = .ok (.iaload, 1) := by decide +kernel
theorem dX9_copy_9 : decode cX9_copy 9 = .ok (.if_icmp .ge 33, 3) := by decide +kernel
theorem dX9_copy_12 : decode cX9_copy 12 = .ok (.aload_n 0, 1) := by decide +kernel
theorem dX9_copy_13 : decode cX9_copy 13 = .ok (.getfield 7, 3) := by decide +kernel
theorem dX9_copy_16 : decode cX9_copy 16 = .ok (.sipush 140, 3) := by decide +kernel
theorem dX9_copy_19 : decode cX9_copy 19 = .ok (.iload_n 1, 1) := by decide +kernel
theorem dX9_copy_20 : decode cX9_copy 20 = .ok (.imul, 1) := by decide +kernel
theorem dX9_copy_21 : decode cX9_copy 21 = .ok (.iload_n 3, 1) := by decide +kernel
theorem dX9_copy_22 : decode cX9_copy 22 = .ok (.iadd, 1) := by decide +kernel
theorem dX9_copy_23 : decode cX9_copy 23 = .ok (.aload_n 0, 1) := by decide +kernel
theorem dX9_copy_24 : decode cX9_copy 24 = .ok (.getfield 7, 3) := by decide +kernel
theorem dX9_copy_27 : decode cX9_copy 27 = .ok (.sipush 140, 3) := by decide +kernel
theorem dX9_copy_30 : decode cX9_copy 30 = .ok (.iload_n 2, 1) := by decide +kernel
theorem dX9_copy_31 : decode cX9_copy 31 = .ok (.imul, 1) := by decide +kernel
theorem dX9_copy_32 : decode cX9_copy 32 = .ok (.iload_n 3, 1) := by decide +kernel
theorem dX9_copy_33 : decode cX9_copy 33 = .ok (.iadd, 1) := by decide +kernel
theorem dX9_copy_34 : decode cX9_copy 34 = .ok (.iaload, 1) := by decide +kernel
theorem dX9_copy_35 : decode cX9_copy 35 = .ok (.iastore, 1) := by decide +kernel
theorem dX9_copy_36 : decode cX9_copy 36 = .ok (.iinc 3 1, 3) := by decide +kernel
theorem dX9_copy_39 : decode cX9_copy 39 = .ok (.goto (-37), 3) := by decide +kernel
theorem dX9_copy_42 : decode cX9_copy 42 = .ok (.aload_n 0, 1) := by decide +kernel
theorem dX9_copy_43 : decode cX9_copy 43 = .ok (.getfield 13, 3) := by decide +kernel
theorem dX9_copy_46 : decode cX9_copy 46 = .ok (.iload_n 1, 1) := by decide +kernel
theorem dX9_copy_47 : decode cX9_copy 47 = .ok (.aload_n 0, 1) := by decide +kernel
theorem dX9_copy_48 : decode cX9_copy 48 = .ok (.getfield 13, 3) := by decide +kernel
theorem dX9_copy_51 : decode cX9_copy 51 = .ok (.iload_n 2, 1) := by decide +kernel
theorem dX9_copy_52 : decode cX9_copy 52 = .ok (.iaload, 1) := by decide +kernel
theorem dX9_copy_53 : decode cX9_copy 53 = .ok (.iastore, 1) := by decide +kernel
theorem dX9_copy_54 : decode cX9_copy 54 = .ok (.return_, 1) := by decide +kernel
theorem dX9_trim_0 : decode cX9_trim 0 = .ok (.aload_n 0, 1) := by decide +kernel
theorem dX9_trim_1 : decode cX9_trim 1 = .ok (.getfield 13, 3) := by decide +kernel
theorem dX9_trim_4 : decode cX9_trim 4 = .ok (.iload_n 1, 1) := by decide +kernel
theorem dX9_trim_5 : decode cX9_trim 5 = .ok (.iaload, 1) := by decide +kernel
theorem dX9_trim_6 : decode cX9_trim 6 = .ok (.ifCond .le 38, 3) := by decide +kernel
theorem dX9_trim_9 : decode cX9_trim 9 = .ok (.aload_n 0, 1) := by decide +kernel
theorem dX9_trim_10 : decode cX9_trim 10 = .ok (.getfield 7, 3) := by decide +kernel
theorem dX9_trim_13 : decode cX9_trim 13 = .ok (.sipush 140, 3) := by decide +kernel
theorem dX9_trim_16 : decode cX9_trim 16 = .ok (.iload_n 1, 1) := by decide +kernel
theorem dX9_trim_17 : decode cX9_trim 17 = .ok (.imul, 1) := by decide +kernel
theorem dX9_trim_18 : decode cX9_trim 18 = .ok (.aload_n 0, 1) := by decide +kernel
theorem dX9_trim_19 : decode cX9_trim 19 = .ok (.getfield 13, 3) := by decide +kernel
theorem dX9_trim_22 : decode cX9_trim 22 = .ok (.iload_n 1, 1) := by decide +kernel
theorem dX9_trim_23 : decode cX9_trim 23 = .ok (.iaload, 1) := by decide +kernel
theorem dX9_trim_24 : decode cX9_trim 24 = .ok (.iadd, 1) := by decide +kernel
theorem dX9_trim_25 : decode cX9_trim 25 = .ok (.iconst 1, 1) := by decide +kernel
theorem dX9_trim_26 : decode cX9_trim 26 = .ok (.isub, 1) := by decide +kernel
theorem dX9_trim_27 : decode cX9_trim 27 = .ok (.iaload, 1) := by decide +kernel
theorem dX9_trim_28 : decode cX9_trim 28 = .ok (.ifCond .ne 16, 3) := by decide +kernel
theorem dX9_trim_31 : decode cX9_trim 31 = .ok (.aload_n 0, 1) := by decide +kernel
theorem dX9_trim_32 : decode cX9_trim 32 = .ok (.getfield 13, 3) := by decide +kernel
theorem dX9_trim_35 : decode cX9_trim 35 = .ok (.iload_n 1, 1) := by decide +kernel
theorem dX9_trim_36 : decode cX9_trim 36 = .ok (.dup2, 1) := by decide +kernel
theorem dX9_trim_37 : decode cX9_trim 37 = .ok (.iaload, 1) := by decide +kernel
theorem dX9_trim_38 : decode cX9_trim 38 = .ok (.iconst 1, 1) := by decide +kernel
theorem dX9_trim_39 : decode cX9_trim 39 = .ok (.isub, 1) := by decide +kernel
theorem dX9_trim_40 : decode cX9_trim 40 = .ok (.iastore, 1) := by decide +kernel
theorem dX9_trim_41 : decode cX9_trim 41 = .ok (.goto (-41), 3) := by decide +kernel
theorem dX9_trim_44 : decode cX9_trim 44 = .ok (.return_, 1) := by decide +kernel
theorem dX9_isOne_0 : decode cX9_isOne 0 = .ok (.aload_n 0, 1) := by decide +kernel
theorem dX9_isOne_1 : decode cX9_isOne 1 = .ok (.getfield 13, 3) := by decide +kernel
theorem dX9_isOne_4 : decode cX9_isOne 4 = .ok (.iload_n 1, 1) := by decide +kernel
theorem dX9_isOne_5 : decode cX9_isOne 5 = .ok (.iaload, 1) := by decide +kernel
theorem dX9_isOne_6 : decode cX9_isOne 6 = .ok (.iconst 1, 1) := by decide +kernel
theorem dX9_isOne_7 : decode cX9_isOne 7 = .ok (.if_icmp .ne 21, 3) := by decide +kernel
theorem dX9_isOne_10 : decode cX9_isOne 10 = .ok (.aload_n 0, 1) := by decide +kernel
theorem dX9_isOne_11 : decode cX9_isOne 11 = .ok (.getfield 7, 3) := by decide +kernel
theorem dX9_isOne_14 : decode cX9_isOne 14 = .ok (.sipush 140, 3) := by decide +kernel
theorem dX9_isOne_17 : decode cX9_isOne 17 = .ok (.iload_n 1, 1) := by decide +kernel
theorem dX9_isOne_18 : decode cX9_isOne 18 = .ok (.imul, 1) := by decide +kernel
theorem dX9_isOne_19 : decode cX9_isOne 19 = .ok (.iaload, 1) := by decide +kernel
theorem dX9_isOne_20 : decode cX9_isOne 20 = .ok (.iconst 1, 1) := by decide +kernel
theorem dX9_isOne_21 : decode cX9_isOne 21 = .ok (.if_icmp .ne 7, 3) := by decide +kernel
theorem dX9_isOne_24 : decode cX9_isOne 24 = .ok (.iconst 1, 1) := by decide +kernel
theorem dX9_isOne_25 : decode cX9_isOne 25 = .ok (.goto 4, 3) := by decide +kernel
theorem dX9_isOne_28 : decode cX9_isOne 28 = .ok (.iconst 0, 1) := by decide +kernel
theorem dX9_isOne_29 : decode cX9_isOne 29 = .ok (.ireturn, 1) := by decide +kernel
theorem dX9_isEven_0 : decode cX9_isEven 0 = .ok (.aload_n 0, 1) := by decide +kernel
theorem dX9_isEven_1 : decode cX9_isEven 1 = .ok (.getfield 13, 3) := by decide +kernel
theorem dX9_isEven_4 : decode cX9_isEven 4 = .ok (.iload_n 1, 1) := by decide +kernel
theorem dX9_isEven_5 : decode cX9_isEven 5 = .ok (.iaload, 1) := by decide +kernel
theorem dX9_isEven_6 : decode cX9_isEven 6 = .ok (.ifCond .eq 18, 3) := by decide +kernel
theorem dX9_isEven_9 : decode cX9_isEven 9 = .ok (.aload_n 0, 1) := by decide +kernel
theorem dX9_isEven_10 : decode cX9_isEven 10 = .ok (.getfield 7, 3) := by decide +kernel
theorem dX9_isEven_13 : decode cX9_isEven 13 = .ok (.sipush 140, 3) := by decide +kernel
theorem dX9_isEven_16 : decode cX9_isEven 16 = .ok (.iload_n 1, 1) := by decide +kernel
theorem dX9_isEven_17 : decode cX9_isEven 17 = .ok (.imul, 1) := by decide +kernel
theorem dX9_isEven_18 : decode cX9_isEven 18 = .ok (.iaload, 1) := by decide +kernel
theorem dX9_isEven_19 : decode cX9_isEven 19 = .ok (.iconst 2, 1) := by decide +kernel
theorem dX9_isEven_20 : decode cX9_isEven 20 = .ok (.irem, 1) := by decide +kernel
theorem dX9_isEven_21 : decode cX9_isEven 21 = .ok (.ifCond .ne 7, 3) := by decide +kernel
theorem dX9_isEven_24 : decode cX9_isEven 24 = .ok (.iconst 1, 1) := by decide +kernel
theorem dX9_isEven_25 : decode cX9_isEven 25 = .ok (.goto 4, 3) := by decide +kernel
theorem dX9_isEven_28 : decode cX9_isEven 28 = .ok (.iconst 0, 1) := by decide +kernel
theorem dX9_isEven_29 : decode cX9_isEven 29 = .ok (.ireturn, 1) := by decide +kernel
theorem dX9_bits_0 : decode cX9_bits 0 = .ok (.aload_n 0, 1) := by decide +kernel
theorem dX9_bits_1 : decode cX9_bits 1 = .ok (.getfield 13, 3) := by decide +kernel
theorem dX9_bits_4 : decode cX9_bits 4 = .ok (.iload_n 1, 1) := by decide +kernel
theorem dX9_bits_5 : decode cX9_bits 5 = .ok (.iaload, 1) := by decide +kernel
theorem dX9_bits_6 : decode cX9_bits 6 = .ok (.ifCond .ne 7, 3) := by decide +kernel
theorem dX9_bits_9 : decode cX9_bits 9 = .ok (.iconst 0, 1) := by decide +kernel
theorem dX9_bits_10 : decode cX9_bits 10 = .ok (.goto 14, 3) := by decide +kernel
theorem dX9_bits_13 : decode cX9_bits 13 = .ok (.bipush 30, 2) := by decide +kernel
theorem dX9_bits_15 : decode cX9_bits 15 = .ok (.aload_n 0, 1) := by decide +kernel
theorem dX9_bits_16 : decode cX9_bits 16 = .ok (.getfield 13, 3) := by decide +kernel
theorem dX9_bits_19 : decode cX9_bits 19 = .ok (.iload_n 1, 1) := by decide +kernel
theorem dX9_bits_20 : decode cX9_bits 20 = .ok (.iaload, 1) := by decide +kernel
theorem dX9_bits_21 : decode cX9_bits 21 = .ok (.iconst 1, 1) := by decide +kernel
theorem dX9_bits_22 : decode cX9_bits 22 = .ok (.isub, 1) := by decide +kernel
theorem dX9_bits_23 : decode cX9_bits 23 = .ok (.imul, 1) := by decide +kernel
theorem dX9_bits_24 : decode cX9_bits 24 = .ok (.istore_n 2, 1) := by decide +kernel
theorem dX9_bits_25 : decode cX9_bits 25 = .ok (.aload_n 0, 1) := by decide +kernel
theorem dX9_bits_26 : decode cX9_bits 26 = .ok (.getfield 13, 3) := by decide +kernel
theorem dX9_bits_29 : decode cX9_bits 29 = .ok (.iload_n 1, 1) := by decide +kernel
theorem dX9_bits_30 : decode cX9_bits 30 = .ok (.iaload, 1) := by decide +kernel
theorem dX9_bits_31 : decode cX9_bits 31 = .ok (.ifCond .ne 7, 3) := by decide +kernel
theorem dX9_bits_34 : decode cX9_bits 34 = .ok (.iconst 0, 1) := by decide +kernel
theorem dX9_bits_35 : decode cX9_bits 35 = .ok (.goto 22, 3) := by decide +kernel
theorem dX9_bits_38 : decode cX9_bits 38 = .ok (.aload_n 0, 1) := by decide +kernel
theorem dX9_bits_39 : decode cX9_bits 39 = .ok (.getfield 7, 3) := by decide +kernel
theorem dX9_bits_42 : decode cX9_bits 42 = .ok (.sipush 140, 3) := by decide +kernel
theorem dX9_bits_45 : decode cX9_bits 45 = .ok (.iload_n 1, 1) := by decide +kernel
theorem dX9_bits_46 : decode cX9_bits 46 = .ok (.imul, 1) := by decide +kernel
theorem dX9_bits_47 : decode cX9_bits 47 = .ok (.aload_n 0, 1) := by decide +kernel
theorem dX9_bits_48 : decode cX9_bits 48 = .ok (.getfield 13, 3) := by decide +kernel
theorem dX9_bits_51 : decode cX9_bits 51 = .ok (.iload_n 1, 1) := by decide +kernel
theorem dX9_bits_52 : decode cX9_bits 52 = .ok (.iaload, 1) := by decide +kernel
theorem dX9_bits_53 : decode cX9_bits 53 = .ok (.iadd, 1) := by decide +kernel
theorem dX9_bits_54 : decode cX9_bits 54 = .ok (.iconst 1, 1) := by decide +kernel
theorem dX9_bits_55 : decode cX9_bits 55 = .ok (.isub, 1) := by decide +kernel
theorem dX9_bits_56 : decode cX9_bits 56 = .ok (.iaload, 1) := by decide +kernel
theorem dX9_bits_57 : decode cX9_bits 57 = .ok (.istore_n 3, 1) := by decide +kernel
theorem dX9_bits_58 : decode cX9_bits 58 = .ok (.iload_n 3, 1) := by decide +kernel
theorem dX9_bits_59 : decode cX9_bits 59 = .ok (.ifCond .le 13, 3) := by decide +kernel
theorem dX9_bits_62 : decode cX9_bits 62 = .ok (.iinc 2 1, 3) := by decide +kernel
theorem dX9_bits_65 : decode cX9_bits 65 = .ok (.iload_n 3, 1) := by decide +kernel
theorem dX9_bits_66 : decode cX9_bits 66 = .ok (.iconst 1, 1) := by decide +kernel
theorem dX9_bits_67 : decode cX9_bits 67 = .ok (.ishr, 1) := by decide +kernel
theorem dX9_bits_68 : decode cX9_bits 68 = .ok (.istore_n 3, 1) := by decide +kernel
theorem dX9_bits_69 : decode cX9_bits 69 = .ok (.goto (-11), 3) := by decide +kernel
theorem dX9_bits_72 : decode cX9_bits 72 = .ok (.iload_n 2, 1) := by decide +kernel
theorem dX9_bits_73 : decode cX9_bits 73 = .ok (.ireturn, 1) := by decide +kernel
theorem dX9_limb_0 : decode cX9_limb 0 = .ok (.iload_n 2, 1) := by decide +kernel
theorem dX9_limb_1 : decode cX9_limb 1 = .ok (.aload_n 0, 1) := by decide +kernel
theorem dX9_limb_2 : decode cX9_limb 2 = .ok (.getfield 13, 3) := by decide +kernel
theorem dX9_limb_5 : decode cX9_limb 5 = .ok (.iload_n 1, 1) := by decide +kernel
theorem dX9_limb_6 : decode cX9_limb 6 = .ok (.iaload, 1) := by decide +kernel
theorem dX9_limb_7 : decode cX9_limb 7 = .ok (.if_icmp .ge 18, 3) := by decide +kernel
theorem dX9_limb_10 : decode cX9_limb 10 = .ok (.aload_n 0, 1) := by decide +kernel
theorem dX9_limb_11 : decode cX9_limb 11 = .ok (.getfield 7, 3) := by decide +kernel
theorem dX9_limb_14 : decode cX9_limb 14 = .ok (.sipush 140, 3) := by decide +kernel
theorem dX9_limb_17 : decode cX9_limb 17 = .ok (.iload_n 1, 1) := by decide +kernel
theorem dX9_limb_18 : decode cX9_limb 18 = .ok (.imul, 1) := by decide +kernel
theorem dX9_limb_19 : decode cX9_limb 19 = .ok (.iload_n 2, 1) := by decide +kernel
theorem dX9_limb_20 : decode cX9_limb 20 = .ok (.iadd, 1) := by decide +kernel
theorem dX9_limb_21 : decode cX9_limb 21 = .ok (.iaload, 1) := by decide +kernel
theorem dX9_limb_22 : decode cX9_limb 22 = .ok (.goto 4, 3) := by decide +kernel
theorem dX9_limb_25 : decode cX9_limb 25 = .ok (.iconst 0, 1) := by decide +kernel
theorem dX9_limb_26 : decode cX9_limb 26 = .ok (.ireturn, 1) := by decide +kernel
theorem dX9_add_0 : decode cX9_add 0 = .ok (.aload_n 0, 1) := by decide +kernel
theorem dX9_add_1 : decode cX9_add 1 = .ok (.getfield 13, 3) := by decide +kernel
theorem dX9_add_4 : decode cX9_add 4 = .ok (.iload_n 1, 1) := by decide +kernel
theorem dX9_add_5 : decode cX9_add 5 = .ok (.iaload, 1) := by decide +kernel
theorem dX9_add_6 : decode cX9_add 6 = .ok (.aload_n 0, 1) := by decide +kernel
theorem dX9_add_7 : decode cX9_add 7 = .ok (.getfield 13, 3) := by decide +kernel
theorem dX9_add_10 : decode cX9_add 10 = .ok (.iload_n 2, 1) := by decide +kernel
theorem dX9_add_11 : decode cX9_add 11 = .ok (.iaload, 1) := by decide +kernel
theorem dX9_add_12 : decode cX9_add 12 = .ok (.if_icmp .le 12, 3) := by decide +kernel
theorem dX9_add_15 : decode cX9_add 15 = .ok (.aload_n 0, 1) := by decide +kernel
theorem dX9_add_16 : decode cX9_add 16 = .ok (.getfield 13, 3) := by decide +kernel
theorem dX9_add_19 : decode cX9_add 19 = .ok (.iload_n 1, 1) := by decide +kernel
theorem dX9_add_20 : decode cX9_add 20 = .ok (.iaload, 1) := by decide +kernel
theorem dX9_add_21 : decode cX9_add 21 = .ok (.goto 9, 3) := by decide +kernel
theorem dX9_add_24 : decode cX9_add 24 = .ok (.aload_n 0, 1) := by decide +kernel
theorem dX9_add_25 : decode cX9_add 25 = .ok (.getfield 13, 3) := by decide +kernel
theorem dX9_add_28 : decode cX9_add 28 = .ok (.iload_n 2, 1) := by decide +kernel
theorem dX9_add_29 : decode cX9_add 29 = .ok (.iaload, 1) := by decide +kernel
theorem dX9_add_30 : decode cX9_add 30 = .ok (.istore_n 3, 1) := by decide +kernel
theorem dX9_add_31 : decode cX9_add 31 = .ok (.iconst 0, 1) := by decide +kernel
theorem dX9_add_32 : decode cX9_add 32 = .ok (.istore 4, 2) := by decide +kernel
theorem dX9_add_34 : decode cX9_add 34 = .ok (.iconst 0, 1) := by decide +kernel
theorem dX9_add_35 : decode cX9_add 35 = .ok (.istore 5, 2) := by decide +kernel
theorem dX9_add_37 : decode cX9_add 37 = .ok (.iload 5, 2) := by decide +kernel
theorem dX9_add_39 : decode cX9_add 39 = .ok (.iload_n 3, 1) := by decide +kernel
theorem dX9_add_40 : decode cX9_add 40 = .ok (.if_icmp .ge 54, 3) := by decide +kernel
theorem dX9_add_43 : decode cX9_add 43 = .ok (.iload 4, 2) := by decide +kernel
theorem dX9_add_45 : decode cX9_add 45 = .ok (.aload_n 0, 1) := by decide +kernel
theorem dX9_add_46 : decode cX9_add 46 = .ok (.iload_n 1, 1) := by decide +kernel
theorem dX9_add_47 : decode cX9_add 47 = .ok (.iload 5, 2) := by decide +kernel
theorem dX9_add_49 : decode cX9_add 49 = .ok (.invokevirtual 75, 3) := by decide +kernel
theorem dX9_add_52 : decode cX9_add 52 = .ok (.iadd, 1) := by decide +kernel
theorem dX9_add_53 : decode cX9_add 53 = .ok (.aload_n 0, 1) := by decide +kernel
theorem dX9_add_54 : decode cX9_add 54 = .ok (.iload_n 2, 1) := by decide +kernel
theorem dX9_add_55 : decode cX9_add 55 = .ok (.iload 5, 2) := by decide +kernel
theorem dX9_add_57 : decode cX9_add 57 = .ok (.invokevirtual 75, 3) := by decide +kernel
theorem dX9_add_60 : decode cX9_add 60 = .ok (.iadd, 1) := by decide +kernel
theorem dX9_add_61 : decode cX9_add 61 = .ok (.istore 6, 2) := by decide +kernel
theorem dX9_add_63 : decode cX9_add 63 = .ok (.iload 6, 2) := by decide +kernel
theorem dX9_add_65 : decode cX9_add 65 = .ok (.bipush 30, 2) := by decide +kernel
theorem dX9_add_67 : decode cX9_add 67 = .ok (.iushr, 1) := by decide +kernel
theorem dX9_add_68 : decode cX9_add 68 = .ok (.istore 4, 2) := by decide +kernel
theorem dX9_add_70 : decode cX9_add 70 = .ok (.aload_n 0, 1) := by decide +kernel
theorem dX9_add_71 : decode cX9_add 71 = .ok (.getfield 7, 3) := by decide +kernel
theorem dX9_add_74 : decode cX9_add 74 = .ok (.sipush 140, 3) := by decide +kernel
theorem dX9_add_77 : decode cX9_add 77 = .ok (.iload_n 1, 1) := by decide +kernel
theorem dX9_add_78 : decode cX9_add 78 = .ok (.imul, 1) := by decide +kernel
theorem dX9_add_79 : decode cX9_add 79 = .ok (.iload 5, 2) := by decide +kernel
theorem dX9_add_81 : decode cX9_add 81 = .ok (.iadd, 1) := by decide +kernel
theorem dX9_add_82 : decode cX9_add 82 = .ok (.iload 6, 2) := by decide +kernel
theorem dX9_add_84 : decode cX9_add 84 = .ok (.ldc 79, 2) := by decide +kernel
theorem dX9_add_86 : decode cX9_add 86 = .ok (.iand, 1) := by decide +kernel
theorem dX9_add_87 : decode cX9_add 87 = .ok (.iastore, 1) := by decide +kernel
theorem dX9_add_88 : decode cX9_add 88 = .ok (.iinc 5 1, 3) := by decide +kernel
theorem dX9_add_91 : decode cX9_add 91 = .ok (.goto (-54), 3) := by decide +kernel
theorem dX9_add_94 : decode cX9_add 94 = .ok (.aload_n 0, 1) := by decide +kernel
theorem dX9_add_95 : decode cX9_add 95 = .ok (.getfield 13, 3) := by decide +kernel
theorem dX9_add_98 : decode cX9_add 98 = .ok (.iload_n 1, 1) := by decide +kernel
theorem dX9_add_99 : decode cX9_add 99 = .ok (.iload_n 3, 1) := by decide +kernel
theorem dX9_add_100 : decode cX9_add 100 = .ok (.iastore, 1) := by decide +kernel
theorem dX9_add_101 : decode cX9_add 101 = .ok (.iload 4, 2) := by decide +kernel
theorem dX9_add_103 : decode cX9_add 103 = .ok (.ifCond .le 27, 3) := by decide +kernel
theorem dX9_add_106 : decode cX9_add 106 = .ok (.aload_n 0, 1) := by decide +kernel
theorem dX9_add_107 : decode cX9_add 107 = .ok (.getfield 7, 3) := by decide +kernel
theorem dX9_add_110 : decode cX9_add 110 = .ok (.sipush 140, 3) := by decide +kernel
theorem dX9_add_113 : decode cX9_add 113 = .ok (.iload_n 1, 1) := by decide +kernel
theorem dX9_add_114 : decode cX9_add 114 = .ok (.imul, 1) := by decide +kernel
theorem dX9_add_115 : decode cX9_add 115 = .ok (.iload_n 3, 1) := by decide +kernel
theorem dX9_add_116 : decode cX9_add 116 = .ok (.iadd, 1) := by decide +kernel
theorem dX9_add_117 : decode cX9_add 117 = .ok (.iload 4, 2) := by decide +kernel
theorem dX9_add_119 : decode cX9_add 119 = .ok (.iastore, 1) := by decide +kernel
theorem dX9_add_120 : decode cX9_add 120 = .ok (.aload_n 0, 1) := by decide +kernel
theorem dX9_add_121 : decode cX9_add 121 = .ok (.getfield 13, 3) := by decide +kernel
theorem dX9_add_124 : decode cX9_add 124 = .ok (.iload_n 1, 1) := by decide +kernel
theorem dX9_add_125 : decode cX9_add 125 = .ok (.dup2, 1) := by decide +kernel
theorem dX9_add_126 : decode cX9_add 126 = .ok (.iaload, 1) := by decide +kernel
theorem dX9_add_127 : decode cX9_add 127 = .ok (.iconst 1, 1) := by decide +kernel
theorem dX9_add_128 : decode cX9_add 128 = .ok (.iadd, 1) := by decide +kernel
theorem dX9_add_129 : decode cX9_add 129 = .ok (.iastore, 1) := by decide +kernel
theorem dX9_add_130 : decode cX9_add 130 = .ok (.return_, 1) := by decide +kernel
theorem dX9_compare_0 : decode cX9_compare 0 = .ok (.aload_n 0, 1) := by decide +kernel
theorem dX9_compare_1 : decode cX9_compare 1 = .ok (.getfield 13, 3) := by decide +kernel
theorem dX9_compare_4 : decode cX9_compare 4 = .ok (.iload_n 1, 1) := by decide +kernel
theorem dX9_compare_5 : decode cX9_compare 5 = .ok (.iaload, 1) := by decide +kernel
theorem dX9_compare_6 : decode cX9_compare 6 = .ok (.aload_n 0, 1) := by decide +kernel
theorem dX9_compare_7 : decode cX9_compare 7 = .ok (.getfield 13, 3) := by decide +kernel
theorem dX9_compare_10 : decode cX9_compare 10 = .ok (.iload_n 2, 1) := by decide +kernel
theorem dX9_compare_11 : decode cX9_compare 11 = .ok (.iaload, 1) := by decide +kernel
theorem dX9_compare_12 : decode cX9_compare 12 = .ok (.if_icmp .eq 24, 3) := by decide +kernel
theorem dX9_compare_15 : decode cX9_compare 15 = .ok (.aload_n 0, 1) := by decide +kernel
theorem dX9_compare_16 : decode cX9_compare 16 = .ok (.getfield 13, 3) := by decide +kernel
theorem dX9_compare_19 : decode cX9_compare 19 = .ok (.iload_n 1, 1) := by decide +kernel
theorem dX9_compare_20 : decode cX9_compare 20 = .ok (.iaload, 1) := by decide +kernel
theorem dX9_compare_21 : decode cX9_compare 21 = .ok (.aload_n 0, 1) := by decide +kernel
theorem dX9_compare_22 : decode cX9_compare 22 = .ok (.getfield 13, 3) := by decide +kernel
theorem dX9_compare_25 : decode cX9_compare 25 = .ok (.iload_n 2, 1) := by decide +kernel
theorem dX9_compare_26 : decode cX9_compare 26 = .ok (.iaload, 1) := by decide +kernel
theorem dX9_compare_27 : decode cX9_compare 27 = .ok (.if_icmp .ge 7, 3) := by decide +kernel
theorem dX9_compare_30 : decode cX9_compare 30 = .ok (.iconst (-1), 1) := by decide +kernel
theorem dX9_compare_31 : decode cX9_compare 31 = .ok (.goto 4, 3) := by decide +kernel
theorem dX9_compare_34 : decode cX9_compare 34 = .ok (.iconst 1, 1) := by decide +kernel
theorem dX9_compare_35 : decode cX9_compare 35 = .ok (.ireturn, 1) := by decide +kernel
theorem dX9_compare_36 : decode cX9_compare 36 = .ok (.aload_n 0, 1) := by decide +kernel
theorem dX9_compare_37 : decode cX9_compare 37 = .ok (.getfield 13, 3) := by decide +kernel
theorem dX9_compare_40 : decode cX9_compare 40 = .ok (.iload_n 1, 1) := by decide +kernel
theorem dX9_compare_41 : decode cX9_compare 41 = .ok (.iaload, 1) := by decide +kernel
theorem dX9_compare_42 : decode cX9_compare 42 = .ok (.iconst 1, 1) := by decide +kernel
theorem dX9_compare_43 : decode cX9_compare 43 = .ok (.isub, 1) := by decide +kernel
theorem dX9_compare_44 : decode cX9_compare 44 = .ok (.istore_n 3, 1) := by decide +kernel
theorem dX9_compare_45 : decode cX9_compare 45 = .ok (.iload_n 3, 1) := by decide +kernel
theorem dX9_compare_46 : decode cX9_compare 46 = .ok (.ifCond .lt 36, 3) := by decide +kernel
theorem dX9_compare_49 : decode cX9_compare 49 = .ok (.aload_n 0, 1) := by decide +kernel
theorem dX9_compare_50 : decode cX9_compare 50 = .ok (.getfield 7, 3) := by decide +kernel
theorem dX9_compare_53 : decode cX9_compare 53 = .ok (.sipush 140, 3) := by decide +kernel
theorem dX9_compare_56 : decode cX9_compare 56 = .ok (.iload_n 1, 1) := by decide +kernel
theorem dX9_compare_57 : decode cX9_compare 57 = .ok (.imul, 1) := by decide +kernel
theorem dX9_compare_58 : decode cX9_compare 58 = .ok (.iload_n 3, 1) := by decide +kernel
theorem dX9_compare_59 : decode cX9_compare 59 = .ok (.iadd, 1) := by decide +kernel
theorem dX9_compare_60 : decode cX9_compare 60 = .ok (.iaload, 1) := by decide +kernel
theorem dX9_compare_61 : decode cX9_compare 61 = .ok (.aload_n 0, 1) := by decide +kernel
theorem dX9_compare_62 : decode cX9_compare 62 = .ok (.getfield 7, 3) := by decide +kernel
theorem dX9_compare_65 : decode cX9_compare 65 = .ok (.sipush 140, 3) := by decide +kernel
theorem dX9_compare_68 : decode cX9_compare 68 = .ok (.iload_n 2, 1) := by decide +kernel
theorem dX9_compare_69 : decode cX9_compare 69 = .ok (.imul, 1) := by decide +kernel
theorem dX9_compare_70 : decode cX9_compare 70 = .ok (.iload_n 3, 1) := by decide +kernel
theorem dX9_compare_71 : decode cX9_compare 71 = .ok (.iadd, 1) := by decide +kernel
theorem dX9_compare_72 : decode cX9_compare 72 = .ok (.iaload, 1) := by decide +kernel
theorem dX9_compare_73 : decode cX9_compare 73 = .ok (.if_icmp .ne 9, 3) := by decide +kernel
theorem dX9_compare_76 : decode cX9_compare 76 = .ok (.iinc 3 (-1), 3) := by decide +kernel
theorem dX9_compare_79 : decode cX9_compare 79 = .ok (.goto (-34), 3) := by decide +kernel
theorem dX9_compare_82 : decode cX9_compare 82 = .ok (.iload_n 3, 1) := by decide +kernel
theorem dX9_compare_83 : decode cX9_compare 83 = .ok (.ifCond .ge 7, 3) := by decide +kernel
theorem dX9_compare_86 : decode cX9_compare 86 = .ok (.iconst 0, 1) := by decide +kernel
theorem dX9_compare_87 : decode cX9_compare 87 = .ok (.goto 35, 3) := by decide +kernel
theorem dX9_compare_90 : decode cX9_compare 90 = .ok (.aload_n 0, 1) := by decide +kernel
theorem dX9_compare_91 : decode cX9_compare 91 = .ok (.getfield 7, 3) := by decide +kernel
theorem dX9_compare_94 : decode cX9_compare 94 = .ok (.sipush 140, 3) := by decide +kernel
theorem dX9_compare_97 : decode cX9_compare 97 = .ok (.iload_n 1, 1) := by decide +kernel
theorem dX9_compare_98 : decode cX9_compare 98 = .ok (.imul, 1) := by decide +kernel
theorem dX9_compare_99 : decode cX9_compare 99 = .ok (.iload_n 3, 1) := by decide +kernel
theorem dX9_compare_100 : decode cX9_compare 100 = .ok (.iadd, 1) := by decide +kernel
theorem dX9_compare_101 : decode cX9_compare 101 = .ok (.iaload, 1) := by decide +kernel
theorem dX9_compare_102 : decode cX9_compare 102 = .ok (.aload_n 0, 1) := by decide +kernel
theorem dX9_compare_103 : decode cX9_compare 103 = .ok (.getfield 7, 3) := by decide +kernel
theorem dX9_compare_106 : decode cX9_compare 106 = .ok (.sipush 140, 3) := by decide +kernel
theorem dX9_compare_109 : decode cX9_compare 109 = .ok (.iload_n 2, 1) := by decide +kernel
theorem dX9_compare_110 : decode cX9_compare 110 = .ok (.imul, 1) := by decide +kernel
theorem dX9_compare_111 : decode cX9_compare 111 = .ok (.iload_n 3, 1) := by decide +kernel
theorem dX9_compare_112 : decode cX9_compare 112 = .ok (.iadd, 1) := by decide +kernel
theorem dX9_compare_113 : decode cX9_compare 113 = .ok (.iaload, 1) := by decide +kernel
theorem dX9_compare_114 : decode cX9_compare 114 = .ok (.if_icmp .ge 7, 3) := by decide +kernel
theorem dX9_compare_117 : decode cX9_compare 117 = .ok (.iconst (-1), 1) := by decide +kernel
theorem dX9_compare_118 : decode cX9_compare 118 = .ok (.goto 4, 3) := by decide +kernel
theorem dX9_compare_121 : decode cX9_compare 121 = .ok (.iconst 1, 1) := by decide +kernel
theorem dX9_compare_122 : decode cX9_compare 122 = .ok (.ireturn, 1) := by decide +kernel
theorem dX9_multiply_0 : decode cX9_multiply 0 = .ok (.aload_n 0, 1) := by decide +kernel
theorem dX9_multiply_1 : decode cX9_multiply 1 = .ok (.getfield 13, 3) := by decide +kernel
theorem dX9_multiply_4 : decode cX9_multiply 4 = .ok (.iload_n 1, 1) := by decide +kernel
theorem dX9_multiply_5 : decode cX9_multiply 5 = .ok (.aload_n 0, 1) := by decide +kernel
theorem dX9_multiply_6 : decode cX9_multiply 6 = .ok (.getfield 13, 3) := by decide +kernel
theorem dX9_multiply_9 : decode cX9_multiply 9 = .ok (.iload_n 2, 1) := by decide +kernel
theorem dX9_multiply_10 : decode cX9_multiply 10 = .ok (.iaload, 1) := by decide +kernel
theorem dX9_multiply_11 : decode cX9_multiply 11 = .ok (.aload_n 0, 1) := by decide +kernel
theorem dX9_multiply_12 : decode cX9_multiply 12 = .ok (.getfield 13, 3) := by decide +kernel
theorem dX9_multiply_15 : decode cX9_multiply 15 = .ok (.iload_n 3, 1) := by decide +kernel
theorem dX9_multiply_16 : decode cX9_multiply 16 = .ok (.iaload, 1) := by decide +kernel
theorem dX9_multiply_17 : decode cX9_multiply 17 = .ok (.iadd, 1) := by decide +kernel
theorem dX9_multiply_18 : decode cX9_multiply 18 = .ok (.iastore, 1) := by decide +kernel
theorem dX9_multiply_19 : decode cX9_multiply 19 = .ok (.iconst 0, 1) := by decide +kernel
theorem dX9_multiply_20 : decode cX9_multiply 20 = .ok (.istore 4, 2) := by decide +kernel
theorem dX9_multiply_22 : decode cX9_multiply 22 = .ok (.iload 4, 2) := by decide +kernel
theorem dX9_multiply_24 : decode cX9_multiply 24 = .ok (.aload_n 0, 1) := by decide +kernel
theorem dX9_multiply_25 : decode cX9_multiply 25 = .ok (.getfield 13, 3) := by decide +kernel
theorem dX9_multiply_28 : decode cX9_multiply 28 = .ok (.iload_n 1, 1) := by decide +kernel
theorem dX9_multiply_29 : decode cX9_multiply 29 = .ok (.iaload, 1) := by decide +kernel
theorem dX9_multiply_30 : decode cX9_multiply 30 = .ok (.if_icmp .ge 23, 3) := by decide +kernel
theorem dX9_multiply_33 : decode cX9_multiply 33 = .ok (.aload_n 0, 1) := by decide +kernel
theorem dX9_multiply_34 : decode cX9_multiply 34 = .ok (.getfield 7, 3) := by decide +kernel
theorem dX9_multiply_37 : decode cX9_multiply 37 = .ok (.sipush 140, 3) := by decide +kernel
theorem dX9_multiply_40 : decode cX9_multiply 40 = .ok (.iload_n 1, 1) := by decide +kernel
theorem dX9_multiply_41 : decode cX9_multiply 41 = .ok (.imul, 1) := by decide +kernel
theorem dX9_multiply_42 : decode cX9_multiply 42 = .ok (.iload 4, 2) := by decide +kernel
theorem dX9_multiply_44 : decode cX9_multiply 44 = .ok (.iadd, 1) := by decide +kernel
theorem dX9_multiply_45 : decode cX9_multiply 45 = .ok (.iconst 0, 1) := by decide +kernel
theorem dX9_multiply_46 : decode cX9_multiply 46 = .ok (.iastore, 1) := by decide +kernel
theorem dX9_multiply_47 : decode cX9_multiply 47 = .ok (.iinc 4 1, 3) := by decide +kernel
theorem dX9_multiply_50 : decode cX9_multiply 50 = .ok (.goto (-28), 3) := by decide +kernel
theorem dX9_multiply_53 : decode cX9_multiply 53 = .ok (.iconst 0, 1) := by decide +kernel
theorem dX9_multiply_54 : decode cX9_multiply 54 = .ok (.istore 4, 2) := by decide +kernel
theorem dX9_multiply_56 : decode cX9_multiply 56 = .ok (.iload 4, 2) := by decide +kernel
theorem dX9_multiply_58 : decode cX9_multiply 58 = .ok (.aload_n 0, 1) := by decide +kernel
theorem dX9_multiply_59 : decode cX9_multiply 59 = .ok (.getfield 13, 3) := by decide +kernel
theorem dX9_multiply_62 : decode cX9_multiply 62 = .ok (.iload_n 2, 1) := by decide +kernel
theorem dX9_multiply_63 : decode cX9_multiply 63 = .ok (.iaload, 1) := by decide +kernel
theorem dX9_multiply_64 : decode cX9_multiply 64 = .ok (.if_icmp .ge 132, 3) := by decide +kernel
theorem dX9_multiply_67 : decode cX9_multiply 67 = .ok (.lconst 0, 1) := by decide +kernel
theorem dX9_multiply_68 : decode cX9_multiply 68 = .ok (.lstore 5, 2) := by decide +kernel
theorem dX9_multiply_70 : decode cX9_multiply 70 = .ok (.iconst 0, 1) := by decide +kernel
theorem dX9_multiply_71 : decode cX9_multiply 71 = .ok (.istore 7, 2) := by decide +kernel
theorem dX9_multiply_73 : decode cX9_multiply 73 = .ok (.iload 7, 2) := by decide +kernel
theorem dX9_multiply_75 : decode cX9_multiply 75 = .ok (.aload_n 0, 1) := by decide +kernel
theorem dX9_multiply_76 : decode cX9_multiply 76 = .ok (.getfield 13, 3) := by decide +kernel
theorem dX9_multiply_79 : decode cX9_multiply 79 = .ok (.iload_n 3, 1) := by decide +kernel
theorem dX9_multiply_80 : decode cX9_multiply 80 = .ok (.iaload, 1) := by decide +kernel
theorem dX9_multiply_81 : decode cX9_multiply 81 = .ok (.if_icmp .ge 86, 3) := by decide +kernel
theorem dX9_multiply_84 : decode cX9_multiply 84 = .ok (.sipush 140, 3) := by decide +kernel
theorem dX9_multiply_87 : decode cX9_multiply 87 = .ok (.iload_n 1, 1) := by decide +kernel
theorem dX9_multiply_88 : decode cX9_multiply 88 = .ok (.imul, 1) := by decide +kernel
theorem dX9_multiply_89 : decode cX9_multiply 89 = .ok (.iload 4, 2) := by decide +kernel
theorem dX9_multiply_91 : decode cX9_multiply 91 = .ok (.iadd, 1) := by decide +kernel
theorem dX9_multiply_92 : decode cX9_multiply 92 = .ok (.iload 7, 2) := by decide +kernel
theorem dX9_multiply_94 : decode cX9_multiply 94 = .ok (.iadd, 1) := by decide +kernel
theorem dX9_multiply_95 : decode cX9_multiply 95 = .ok (.istore 8, 2) := by decide +kernel
theorem dX9_multiply_97 : decode cX9_multiply 97 = .ok (.aload_n 0, 1) := by decide +kernel
theorem dX9_multiply_98 : decode cX9_multiply 98 = .ok (.getfield 7, 3) := by decide +kernel
theorem dX9_multiply_101 : decode cX9_multiply 101 = .ok (.sipush 140, 3) := by decide +kernel
theorem dX9_multiply_104 : decode cX9_multiply 104 = .ok (.iload_n 2, 1) := by decide +kernel
theorem dX9_multiply_105 : decode cX9_multiply 105 = .ok (.imul, 1) := by decide +kernel
theorem dX9_multiply_106 : decode cX9_multiply 106 = .ok (.iload 4, 2) := by decide +kernel
theorem dX9_multiply_108 : decode cX9_multiply 108 = .ok (.iadd, 1) := by decide +kernel
theorem dX9_multiply_109 : decode cX9_multiply 109 = .ok (.iaload, 1) := by decide +kernel
theorem dX9_multiply_110 : decode cX9_multiply 110 = .ok (.i2l, 1) := by decide +kernel
theorem dX9_multiply_111 : decode cX9_multiply 111 = .ok (.aload_n 0, 1) := by decide +kernel
theorem dX9_multiply_112 : decode cX9_multiply 112 = .ok (.getfield 7, 3) := by decide +kernel
theorem dX9_multiply_115 : decode cX9_multiply 115 = .ok (.sipush 140, 3) := by decide +kernel
theorem dX9_multiply_118 : decode cX9_multiply 118 = .ok (.iload_n 3, 1) := by decide +kernel
theorem dX9_multiply_119 : decode cX9_multiply 119 = .ok (.imul, 1) := by decide +kernel
theorem dX9_multiply_120 : decode cX9_multiply 120 = .ok (.iload 7, 2) := by decide +kernel
theorem dX9_multiply_122 : decode cX9_multiply 122 = .ok (.iadd, 1) := by decide +kernel
theorem dX9_multiply_123 : decode cX9_multiply 123 = .ok (.iaload, 1) := by decide +kernel
theorem dX9_multiply_124 : decode cX9_multiply 124 = .ok (.i2l, 1) := by decide +kernel
theorem dX9_multiply_125 : decode cX9_multiply 125 = .ok (.lmul, 1) := by decide +kernel
theorem dX9_multiply_126 : decode cX9_multiply 126 = .ok (.aload_n 0, 1) := by decide +kernel
theorem dX9_multiply_127 : decode cX9_multiply 127 = .ok (.getfield 7, 3) := by decide +kernel
theorem dX9_multiply_130 : decode cX9_multiply 130 = .ok (.iload 8, 2) := by decide +kernel
theorem dX9_multiply_132 : decode cX9_multiply 132 = .ok (.iaload, 1) := by decide +kernel
theorem dX9_multiply_133 : decode cX9_multiply 133 = .ok (.i2l, 1) := by decide +kernel
theorem dX9_multiply_134 : decode cX9_multiply 134 = .ok (.ladd, 1) := by decide +kernel
theorem dX9_multiply_135 : decode cX9_multiply 135 = .ok (.lload 5, 2) := by decide +kernel
theorem dX9_multiply_137 : decode cX9_multiply 137 = .ok (.ladd, 1) := by decide +kernel
theorem dX9_multiply_138 : decode cX9_multiply 138 = .ok (.lstore 9, 2) := by decide +kernel
theorem dX9_multiply_140 : decode cX9_multiply 140 = .ok (.aload_n 0, 1) := by decide +kernel
theorem dX9_multiply_141 : decode cX9_multiply 141 = .ok (.getfield 7, 3) := by decide +kernel
theorem dX9_multiply_144 : decode cX9_multiply 144 = .ok (.iload 8, 2) := by decide +kernel
theorem dX9_multiply_146 : decode cX9_multiply 146 = .ok (.lload 9, 2) := by decide +kernel
theorem dX9_multiply_148 : decode cX9_multiply 148 = .ok (.ldc2_w 80, 3) := by decide +kernel
theorem dX9_multiply_151 : decode cX9_multiply 151 = .ok (.land, 1) := by decide +kernel
theorem dX9_multiply_152 : decode cX9_multiply 152 = .ok (.l2i, 1) := by decide +kernel
theorem dX9_multiply_153 : decode cX9_multiply 153 = .ok (.iastore, 1) := by decide +kernel
theorem dX9_multiply_154 : decode cX9_multiply 154 = .ok (.lload 9, 2) := by decide +kernel
theorem dX9_multiply_156 : decode cX9_multiply 156 = .ok (.bipush 30, 2) := by decide +kernel
theorem dX9_multiply_158 : decode cX9_multiply 158 = .ok (.lushr, 1) := by decide +kernel
theorem dX9_multiply_159 : decode cX9_multiply 159 = .ok (.lstore 5, 2) := by decide +kernel
theorem dX9_multiply_161 : decode cX9_multiply 161 = .ok (.iinc 7 1, 3) := by decide +kernel
theorem dX9_multiply_164 : decode cX9_multiply 164 = .ok (.goto (-91), 3) := by decide +kernel
theorem dX9_multiply_167 : decode cX9_multiply 167 = .ok (.aload_n 0, 1) := by decide +kernel
theorem dX9_multiply_168 : decode cX9_multiply 168 = .ok (.getfield 7, 3) := by decide +kernel
theorem dX9_multiply_171 : decode cX9_multiply 171 = .ok (.sipush 140, 3) := by decide +kernel
theorem dX9_multiply_174 : decode cX9_multiply 174 = .ok (.iload_n 1, 1) := by decide +kernel
theorem dX9_multiply_175 : decode cX9_multiply 175 = .ok (.imul, 1) := by decide +kernel
theorem dX9_multiply_176 : decode cX9_multiply 176 = .ok (.iload 4, 2) := by decide +kernel
theorem dX9_multiply_178 : decode cX9_multiply 178 = .ok (.iadd, 1) := by decide +kernel
theorem dX9_multiply_179 : decode cX9_multiply 179 = .ok (.aload_n 0, 1) := by decide +kernel
theorem dX9_multiply_180 : decode cX9_multiply 180 = .ok (.getfield 13, 3) := by decide +kernel
theorem dX9_multiply_183 : decode cX9_multiply 183 = .ok (.iload_n 3, 1) := by decide +kernel
theorem dX9_multiply_184 : decode cX9_multiply 184 = .ok (.iaload, 1) := by decide +kernel
theorem dX9_multiply_185 : decode cX9_multiply 185 = .ok (.iadd, 1) := by decide +kernel
theorem dX9_multiply_186 : decode cX9_multiply 186 = .ok (.lload 5, 2) := by decide +kernel
theorem dX9_multiply_188 : decode cX9_multiply 188 = .ok (.l2i, 1) := by decide +kernel
theorem dX9_multiply_189 : decode cX9_multiply 189 = .ok (.iastore, 1) := by decide +kernel
theorem dX9_multiply_190 : decode cX9_multiply 190 = .ok (.iinc 4 1, 3) := by decide +kernel
theorem dX9_multiply_193 : decode cX9_multiply 193 = .ok (.goto (-137), 3) := by decide +kernel
theorem dX9_multiply_196 : decode cX9_multiply 196 = .ok (.aload_n 0, 1) := by decide +kernel
theorem dX9_multiply_197 : decode cX9_multiply 197 = .ok (.iload_n 1, 1) := by decide +kernel
theorem dX9_multiply_198 : decode cX9_multiply 198 = .ok (.invokevirtual 82, 3) := by decide +kernel
theorem dX9_multiply_201 : decode cX9_multiply 201 = .ok (.return_, 1) := by decide +kernel
theorem dX9_scale_0 : decode cX9_scale 0 = .ok (.lconst 0, 1) := by decide +kernel
theorem dX9_scale_1 : decode cX9_scale 1 = .ok (.lstore_n 3, 1) := by decide +kernel
theorem dX9_scale_2 : decode cX9_scale 2 = .ok (.sipush 140, 3) := by decide +kernel
theorem dX9_scale_5 : decode cX9_scale 5 = .ok (.iload_n 1, 1) := by decide +kernel
theorem dX9_scale_6 : decode cX9_scale 6 = .ok (.imul, 1) := by decide +kernel
theorem dX9_scale_7 : decode cX9_scale 7 = .ok (.istore 5, 2) := by decide +kernel
theorem dX9_scale_9 : decode cX9_scale 9 = .ok (.iload 5, 2) := by decide +kernel
theorem dX9_scale_11 : decode cX9_scale 11 = .ok (.sipush 140, 3) := by decide +kernel
theorem dX9_scale_14 : decode cX9_scale 14 = .ok (.iload_n 1, 1) := by decide +kernel
theorem dX9_scale_15 : decode cX9_scale 15 = .ok (.imul, 1) := by decide +kernel
theorem dX9_scale_16 : decode cX9_scale 16 = .ok (.aload_n 0, 1) := by decide +kernel
theorem dX9_scale_17 : decode cX9_scale 17 = .ok (.getfield 13, 3) := by decide +kernel
theorem dX9_scale_20 : decode cX9_scale 20 = .ok (.iload_n 1, 1) := by decide +kernel
theorem dX9_scale_21 : decode cX9_scale 21 = .ok (.iaload, 1) := by decide +kernel
theorem dX9_scale_22 : decode cX9_scale 22 = .ok (.iadd, 1) := by decide +kernel
theorem dX9_scale_23 : decode cX9_scale 23 = .ok (.if_icmp .ge 44, 3) := by decide +kernel
theorem dX9_scale_26 : decode cX9_scale 26 = .ok (.aload_n 0, 1) := by decide +kernel
theorem dX9_scale_27 : decode cX9_scale 27 = .ok (.getfield 7, 3) := by decide +kernel
theorem dX9_scale_30 : decode cX9_scale 30 = .ok (.iload 5, 2) := by decide +kernel
theorem dX9_scale_32 : decode cX9_scale 32 = .ok (.iaload, 1) := by decide +kernel
theorem dX9_scale_33 : decode cX9_scale 33 = .ok (.i2l, 1) := by decide +kernel
theorem dX9_scale_34 : decode cX9_scale 34 = .ok (.iload_n 2, 1) := by decide +kernel
theorem dX9_scale_35 : decode cX9_scale 35 = .ok (.i2l, 1) := by decide +kernel
theorem dX9_scale_36 : decode cX9_scale 36 = .ok (.lmul, 1) := by decide +kernel
theorem dX9_scale_37 : decode cX9_scale 37 = .ok (.lload_n 3, 1) := by decide +kernel
theorem dX9_scale_38 : decode cX9_scale 38 = .ok (.ladd, 1) := by decide +kernel
theorem dX9_scale_39 : decode cX9_scale 39 = .ok (.lstore 6, 2) := by decide +kernel
theorem dX9_scale_41 : decode cX9_scale 41 = .ok (.aload_n 0, 1) := by decide +kernel
theorem dX9_scale_42 : decode cX9_scale 42 = .ok (.getfield 7, 3) := by decide +kernel
theorem dX9_scale_45 : decode cX9_scale 45 = .ok (.iload 5, 2) := by decide +kernel
theorem dX9_scale_47 : decode cX9_scale 47 = .ok (.lload 6, 2) := by decide +kernel
theorem dX9_scale_49 : decode cX9_scale 49 = .ok (.ldc2_w 80, 3) := by decide +kernel
theorem dX9_scale_52 : decode cX9_scale 52 = .ok (.land, 1) := by decide +kernel
theorem dX9_scale_53 : decode cX9_scale 53 = .ok (.l2i, 1) := by decide +kernel
theorem dX9_scale_54 : decode cX9_scale 54 = .ok (.iastore, 1) := by decide +kernel
theorem dX9_scale_55 : decode cX9_scale 55 = .ok (.lload 6, 2) := by decide +kernel
theorem dX9_scale_57 : decode cX9_scale 57 = .ok (.bipush 30, 2) := by decide +kernel
theorem dX9_scale_59 : decode cX9_scale 59 = .ok (.lushr, 1) := by decide +kernel
theorem dX9_scale_60 : decode cX9_scale 60 = .ok (.lstore_n 3, 1) := by decide +kernel
theorem dX9_scale_61 : decode cX9_scale 61 = .ok (.iinc 5 1, 3) := by decide +kernel
theorem dX9_scale_64 : decode cX9_scale 64 = .ok (.goto (-55), 3) := by decide +kernel
theorem dX9_scale_67 : decode cX9_scale 67 = .ok (.lload_n 3, 1) := by decide +kernel
theorem dX9_scale_68 : decode cX9_scale 68 = .ok (.lconst 0, 1) := by decide +kernel
theorem dX9_scale_69 : decode cX9_scale 69 = .ok (.lcmp, 1) := by decide +kernel
theorem dX9_scale_70 : decode cX9_scale 70 = .ok (.ifCond .le 32, 3) := by decide +kernel
theorem dX9_scale_73 : decode cX9_scale 73 = .ok (.aload_n 0, 1) := by decide +kernel
theorem dX9_scale_74 : decode cX9_scale 74 = .ok (.getfield 7, 3) := by decide +kernel
theorem dX9_scale_77 : decode cX9_scale 77 = .ok (.sipush 140, 3) := by decide +kernel
theorem dX9_scale_80 : decode cX9_scale 80 = .ok (.iload_n 1, 1) := by decide +kernel
theorem dX9_scale_81 : decode cX9_scale 81 = .ok (.imul, 1) := by decide +kernel
theorem dX9_scale_82 : decode cX9_scale 82 = .ok (.aload_n 0, 1) := by decide +kernel
theorem dX9_scale_83 : decode cX9_scale 83 = .ok (.getfield 13, 3) := by decide +kernel
theorem dX9_scale_86 : decode cX9_scale 86 = .ok (.iload_n 1, 1) := by decide +kernel
theorem dX9_scale_87 : decode cX9_scale 87 = .ok (.iaload, 1) := by decide +kernel
theorem dX9_scale_88 : decode cX9_scale 88 = .ok (.iadd, 1) := by decide +kernel
theorem dX9_scale_89 : decode cX9_scale 89 = .ok (.lload_n 3, 1) := by decide +kernel
theorem dX9_scale_90 : decode cX9_scale 90 = .ok (.l2i, 1) := by decide +kernel
theorem dX9_scale_91 : decode cX9_scale 91 = .ok (.iastore, 1) := by decide +kernel
theorem dX9_scale_92 : decode cX9_scale 92 = .ok (.aload_n 0, 1) := by decide +kernel
theorem dX9_scale_93 : decode cX9_scale 93 = .ok (.getfield 13, 3) := by decide +kernel
theorem dX9_scale_96 : decode cX9_scale 96 = .ok (.iload_n 1, 1) := by decide +kernel
theorem dX9_scale_97 : decode cX9_scale 97 = .ok (.dup2, 1) := by decide +kernel
theorem dX9_scale_98 : decode cX9_scale 98 = .ok (.iaload, 1) := by decide +kernel
theorem dX9_scale_99 : decode cX9_scale 99 = .ok (.iconst 1, 1) := by decide +kernel
theorem dX9_scale_100 : decode cX9_scale 100 = .ok (.iadd, 1) := by decide +kernel
theorem dX9_scale_101 : decode cX9_scale 101 = .ok (.iastore, 1) := by decide +kernel
theorem dX9_scale_102 : decode cX9_scale 102 = .ok (.aload_n 0, 1) := by decide +kernel
theorem dX9_scale_103 : decode cX9_scale 103 = .ok (.iload_n 1, 1) := by decide +kernel
theorem dX9_scale_104 : decode cX9_scale 104 = .ok (.invokevirtual 82, 3) := by decide +kernel
theorem dX9_scale_107 : decode cX9_scale 107 = .ok (.return_, 1) := by decide +kernel
theorem dX9_divide_0 : decode cX9_divide 0 = .ok (.lconst 0, 1) := by decide +kernel
theorem dX9_divide_1 : decode cX9_divide 1 = .ok (.lstore_n 3, 1) := by decide +kernel
theorem dX9_divide_2 : decode cX9_divide 2 = .ok (.sipush 140, 3) := by decide +kernel
theorem dX9_divide_5 : decode cX9_divide 5 = .ok (.iload_n 1, 1) := by decide +kernel
theorem dX9_divide_6 : decode cX9_divide 6 = .ok (.imul, 1) := by decide +kernel
theorem dX9_divide_7 : decode cX9_divide 7 = .ok (.aload_n 0, 1) := by decide +kernel
theorem dX9_divide_8 : decode cX9_divide 8 = .ok (.getfield 13, 3) := by decide +kernel
theorem dX9_divide_11 : decode cX9_divide 11 = .ok (.iload_n 1, 1) := by decide +kernel
theorem dX9_divide_12 : decode cX9_divide 12 = .ok (.iaload, 1) := by decide +kernel
theorem dX9_divide_13 : decode cX9_divide 13 = .ok (.iadd, 1) := by decide +kernel
theorem dX9_divide_14 : decode cX9_divide 14 = .ok (.iconst 1, 1) := by decide +kernel
theorem dX9_divide_15 : decode cX9_divide 15 = .ok (.isub, 1) := by decide +kernel
theorem dX9_divide_16 : decode cX9_divide 16 = .ok (.istore 5, 2) := by decide +kernel
theorem dX9_divide_18 : decode cX9_divide 18 = .ok (.iload 5, 2) := by decide +kernel
theorem dX9_divide_20 : decode cX9_divide 20 = .ok (.sipush 140, 3) := by decide +kernel
theorem dX9_divide_23 : decode cX9_divide 23 = .ok (.iload_n 1, 1) := by decide +kernel
theorem dX9_divide_24 : decode cX9_divide 24 = .ok (.imul, 1) := by decide +kernel
theorem dX9_divide_25 : decode cX9_divide 25 = .ok (.if_icmp .lt 44, 3) := by decide +kernel
theorem dX9_divide_28 : decode cX9_divide 28 = .ok (.lload_n 3, 1) := by decide +kernel
theorem dX9_divide_29 : decode cX9_divide 29 = .ok (.ldc2_w 73, 3) := by decide +kernel
theorem dX9_divide_32 : decode cX9_divide 32 = .ok (.lmul, 1) := by decide +kernel
theorem dX9_divide_33 : decode cX9_divide 33 = .ok (.aload_n 0, 1) := by decide +kernel
theorem dX9_divide_34 : decode cX9_divide 34 = .ok (.getfield 7, 3) := by decide +kernel
theorem dX9_divide_37 : decode cX9_divide 37 = .ok (.iload 5, 2) := by decide +kernel
theorem dX9_divide_39 : decode cX9_divide 39 = .ok (.iaload, 1) := by decide +kernel
theorem dX9_divide_40 : decode cX9_divide 40 = .ok (.i2l, 1) := by decide +kernel
theorem dX9_divide_41 : decode cX9_divide 41 = .ok (.ladd, 1) := by decide +kernel
theorem dX9_divide_42 : decode cX9_divide 42 = .ok (.lstore 6, 2) := by decide +kernel
theorem dX9_divide_44 : decode cX9_divide 44 = .ok (.aload_n 0, 1) := by decide +kernel
theorem dX9_divide_45 : decode cX9_divide 45 = .ok (.getfield 7, 3) := by decide +kernel
theorem dX9_divide_48 : decode cX9_divide 48 = .ok (.iload 5, 2) := by decide +kernel
theorem dX9_divide_50 : decode cX9_divide 50 = .ok (.lload 6, 2) := by decide +kernel
theorem dX9_divide_52 : decode cX9_divide 52 = .ok (.iload_n 2, 1) := by decide +kernel
theorem dX9_divide_53 : decode cX9_divide 53 = .ok (.i2l, 1) := by decide +kernel
theorem dX9_divide_54 : decode cX9_divide 54 = .ok (.ldiv, 1) := by decide +kernel
theorem dX9_divide_55 : decode cX9_divide 55 = .ok (.l2i, 1) := by decide +kernel
theorem dX9_divide_56 : decode cX9_divide 56 = .ok (.iastore, 1) := by decide +kernel
theorem dX9_divide_57 : decode cX9_divide 57 = .ok (.lload 6, 2) := by decide +kernel
theorem dX9_divide_59 : decode cX9_divide 59 = .ok (.iload_n 2, 1) := by decide +kernel
theorem dX9_divide_60 : decode cX9_divide 60 = .ok (.i2l, 1) := by decide +kernel
theorem dX9_divide_61 : decode cX9_divide 61 = .ok (.lrem, 1) := by decide +kernel
theorem dX9_divide_62 : decode cX9_divide 62 = .ok (.lstore_n 3, 1) := by decide +kernel
theorem dX9_divide_63 : decode cX9_divide 63 = .ok (.iinc 5 (-1), 3) := by decide +kernel
theorem dX9_divide_66 : decode cX9_divide 66 = .ok (.goto (-48), 3) := by decide +kernel
theorem dX9_divide_69 : decode cX9_divide 69 = .ok (.aload_n 0, 1) := by decide +kernel
theorem dX9_divide_70 : decode cX9_divide 70 = .ok (.iload_n 1, 1) := by decide +kernel
theorem dX9_divide_71 : decode cX9_divide 71 = .ok (.invokevirtual 82, 3) := by decide +kernel
theorem dX9_divide_74 : decode cX9_divide 74 = .ok (.lload_n 3, 1) := by decide +kernel
theorem dX9_divide_75 : decode cX9_divide 75 = .ok (.l2i, 1) := by decide +kernel
theorem dX9_divide_76 : decode cX9_divide 76 = .ok (.ireturn, 1) := by decide +kernel
theorem dX9_twice_0 : decode cX9_twice 0 = .ok (.iload_n 2, 1) := by decide +kernel
theorem dX9_twice_1 : decode cX9_twice 1 = .ok (.istore_n 3, 1) := by decide +kernel
theorem dX9_twice_2 : decode cX9_twice 2 = .ok (.sipush 140, 3) := by decide +kernel
theorem dX9_twice_5 : decode cX9_twice 5 = .ok (.iload_n 1, 1) := by decide +kernel
theorem dX9_twice_6 : decode cX9_twice 6 = .ok (.imul, 1) := by decide +kernel
theorem dX9_twice_7 : decode cX9_twice 7 = .ok (.istore 4, 2) := by decide +kernel
theorem dX9_twice_9 : decode cX9_twice 9 = .ok (.iload 4, 2) := by decide +kernel
theorem dX9_twice_11 : decode cX9_twice 11 = .ok (.sipush 140, 3) := by decide +kernel
theorem dX9_twice_14 : decode cX9_twice 14 = .ok (.iload_n 1, 1) := by decide +kernel
theorem dX9_twice_15 : decode cX9_twice 15 = .ok (.imul, 1) := by decide +kernel
theorem dX9_twice_16 : decode cX9_twice 16 = .ok (.aload_n 0, 1) := by decide +kernel
theorem dX9_twice_17 : decode cX9_twice 17 = .ok (.getfield 13, 3) := by decide +kernel
theorem dX9_twice_20 : decode cX9_twice 20 = .ok (.iload_n 1, 1) := by decide +kernel
theorem dX9_twice_21 : decode cX9_twice 21 = .ok (.iaload, 1) := by decide +kernel
theorem dX9_twice_22 : decode cX9_twice 22 = .ok (.iadd, 1) := by decide +kernel
theorem dX9_twice_23 : decode cX9_twice 23 = .ok (.if_icmp .ge 40, 3) := by decide +kernel
theorem dX9_twice_26 : decode cX9_twice 26 = .ok (.aload_n 0, 1) := by decide +kernel
theorem dX9_twice_27 : decode cX9_twice 27 = .ok (.getfield 7, 3) := by decide +kernel
theorem dX9_twice_30 : decode cX9_twice 30 = .ok (.iload 4, 2) := by decide +kernel
theorem dX9_twice_32 : decode cX9_twice 32 = .ok (.iaload, 1) := by decide +kernel
theorem dX9_twice_33 : decode cX9_twice 33 = .ok (.iconst 2, 1) := by decide +kernel
theorem dX9_twice_34 : decode cX9_twice 34 = .ok (.imul, 1) := by decide +kernel
theorem dX9_twice_35 : decode cX9_twice 35 = .ok (.iload_n 3, 1) := by decide +kernel
theorem dX9_twice_36 : decode cX9_twice 36 = .ok (.iadd, 1) := by decide +kernel
theorem dX9_twice_37 : decode cX9_twice 37 = .ok (.istore 5, 2) := by decide +kernel
theorem dX9_twice_39 : decode cX9_twice 39 = .ok (.aload_n 0, 1) := by decide +kernel
theorem dX9_twice_40 : decode cX9_twice 40 = .ok (.getfield 7, 3) := by decide +kernel
theorem dX9_twice_43 : decode cX9_twice 43 = .ok (.iload 4, 2) := by decide +kernel
theorem dX9_twice_45 : decode cX9_twice 45 = .ok (.iload 5, 2) := by decide +kernel
theorem dX9_twice_47 : decode cX9_twice 47 = .ok (.ldc 79, 2) := by decide +kernel
theorem dX9_twice_49 : decode cX9_twice 49 = .ok (.iand, 1) := by decide +kernel
theorem dX9_twice_50 : decode cX9_twice 50 = .ok (.iastore, 1) := by decide +kernel
theorem dX9_twice_51 : decode cX9_twice 51 = .ok (.iload 5, 2) := by decide +kernel
theorem dX9_twice_53 : decode cX9_twice 53 = .ok (.bipush 30, 2) := by decide +kernel
theorem dX9_twice_55 : decode cX9_twice 55 = .ok (.iushr, 1) := by decide +kernel
theorem dX9_twice_56 : decode cX9_twice 56 = .ok (.istore_n 3, 1) := by decide +kernel
theorem dX9_twice_57 : decode cX9_twice 57 = .ok (.iinc 4 1, 3) := by decide +kernel
theorem dX9_twice_60 : decode cX9_twice 60 = .ok (.goto (-51), 3) := by decide +kernel
theorem dX9_twice_63 : decode cX9_twice 63 = .ok (.iload_n 3, 1) := by decide +kernel
theorem dX9_twice_64 : decode cX9_twice 64 = .ok (.ifCond .le 31, 3) := by decide +kernel
theorem dX9_twice_67 : decode cX9_twice 67 = .ok (.aload_n 0, 1) := by decide +kernel
theorem dX9_twice_68 : decode cX9_twice 68 = .ok (.getfield 7, 3) := by decide +kernel
theorem dX9_twice_71 : decode cX9_twice 71 = .ok (.sipush 140, 3) := by decide +kernel
theorem dX9_twice_74 : decode cX9_twice 74 = .ok (.iload_n 1, 1) := by decide +kernel
theorem dX9_twice_75 : decode cX9_twice 75 = .ok (.imul, 1) := by decide +kernel
theorem dX9_twice_76 : decode cX9_twice 76 = .ok (.aload_n 0, 1) := by decide +kernel
theorem dX9_twice_77 : decode cX9_twice 77 = .ok (.getfield 13, 3) := by decide +kernel
theorem dX9_twice_80 : decode cX9_twice 80 = .ok (.iload_n 1, 1) := by decide +kernel
theorem dX9_twice_81 : decode cX9_twice 81 = .ok (.iaload, 1) := by decide +kernel
theorem dX9_twice_82 : decode cX9_twice 82 = .ok (.iadd, 1) := by decide +kernel
theorem dX9_twice_83 : decode cX9_twice 83 = .ok (.iload_n 3, 1) := by decide +kernel
theorem dX9_twice_84 : decode cX9_twice 84 = .ok (.iastore, 1) := by decide +kernel
theorem dX9_twice_85 : decode cX9_twice 85 = .ok (.aload_n 0, 1) := by decide +kernel
theorem dX9_twice_86 : decode cX9_twice 86 = .ok (.getfield 13, 3) := by decide +kernel
theorem dX9_twice_89 : decode cX9_twice 89 = .ok (.iload_n 1, 1) := by decide +kernel
theorem dX9_twice_90 : decode cX9_twice 90 = .ok (.dup2, 1) := by decide +kernel
theorem dX9_twice_91 : decode cX9_twice 91 = .ok (.iaload, 1) := by decide +kernel
theorem dX9_twice_92 : decode cX9_twice 92 = .ok (.iconst 1, 1) := by decide +kernel
theorem dX9_twice_93 : decode cX9_twice 93 = .ok (.iadd, 1) := by decide +kernel
theorem dX9_twice_94 : decode cX9_twice 94 = .ok (.iastore, 1) := by decide +kernel
theorem dX9_twice_95 : decode cX9_twice 95 = .ok (.return_, 1) := by decide +kernel
theorem dX9_subtract_0 : decode cX9_subtract 0 = .ok (.iconst 0, 1) := by decide +kernel
theorem dX9_subtract_1 : decode cX9_subtract 1 = .ok (.istore_n 3, 1) := by decide +kernel
theorem dX9_subtract_2 : decode cX9_subtract 2 = .ok (.iconst 0, 1) := by decide +kernel
theorem dX9_subtract_3 : decode cX9_subtract 3 = .ok (.istore 4, 2) := by decide +kernel
theorem dX9_subtract_5 : decode cX9_subtract 5 = .ok (.iload 4, 2) := by decide +kernel
theorem dX9_subtract_7 : decode cX9_subtract 7 = .ok (.aload_n 0, 1) := by decide +kernel
theorem dX9_subtract_8 : decode cX9_subtract 8 = .ok (.getfield 13, 3) := by decide +kernel
theorem dX9_subtract_11 : decode cX9_subtract 11 = .ok (.iload_n 1, 1) := by decide +kernel
theorem dX9_subtract_12 : decode cX9_subtract 12 = .ok (.iaload, 1) := by decide +kernel
theorem dX9_subtract_13 : decode cX9_subtract 13 = .ok (.if_icmp .ge 65, 3) := by decide +kernel
theorem dX9_subtract_16 : decode cX9_subtract 16 = .ok (.aload_n 0, 1) := by decide +kernel
theorem dX9_subtract_17 : decode cX9_subtract 17 = .ok (.getfield 7, 3) := by decide +kernel
theorem dX9_subtract_20 : decode cX9_subtract 20 = .ok (.sipush 140, 3) := by decide +kernel
theorem dX9_subtract_23 : decode cX9_subtract 23 = .ok (.iload_n 1, 1) := by decide +kernel
theorem dX9_subtract_24 : decode cX9_subtract 24 = .ok (.imul, 1) := by decide +kernel
theorem dX9_subtract_25 : decode cX9_subtract 25 = .ok (.iload 4, 2) := by decide +kernel
theorem dX9_subtract_27 : decode cX9_subtract 27 = .ok (.iadd, 1) := by decide +kernel
theorem dX9_subtract_28 : decode cX9_subtract 28 = .ok (.iaload, 1) := by decide +kernel
theorem dX9_subtract_29 : decode cX9_subtract 29 = .ok (.iload_n 3, 1) := by decide +kernel
theorem dX9_subtract_30 : decode cX9_subtract 30 = .ok (.isub, 1) := by decide +kernel
theorem dX9_subtract_31 : decode cX9_subtract 31 = .ok (.aload_n 0, 1) := by decide +kernel
theorem dX9_subtract_32 : decode cX9_subtract 32 = .ok (.iload_n 2, 1) := by decide +kernel
theorem dX9_subtract_33 : decode cX9_subtract 33 = .ok (.iload 4, 2) := by decide +kernel
theorem dX9_subtract_35 : decode cX9_subtract 35 = .ok (.invokevirtual 75, 3) := by decide +kernel
theorem dX9_subtract_38 : decode cX9_subtract 38 = .ok (.isub, 1) := by decide +kernel
theorem dX9_subtract_39 : decode cX9_subtract 39 = .ok (.istore 5, 2) := by decide +kernel
theorem dX9_subtract_41 : decode cX9_subtract 41 = .ok (.iload 5, 2) := by decide +kernel
theorem dX9_subtract_43 : decode cX9_subtract 43 = .ok (.ifCond .ge 7, 3) := by decide +kernel
theorem dX9_subtract_46 : decode cX9_subtract 46 = .ok (.iconst 1, 1) := by decide +kernel
theorem dX9_subtract_47 : decode cX9_subtract 47 = .ok (.goto 4, 3) := by decide +kernel
theorem dX9_subtract_50 : decode cX9_subtract 50 = .ok (.iconst 0, 1) := by decide +kernel
theorem dX9_subtract_51 : decode cX9_subtract 51 = .ok (.istore_n 3, 1) := by decide +kernel
theorem dX9_subtract_52 : decode cX9_subtract 52 = .ok (.aload_n 0, 1) := by decide +kernel
theorem dX9_subtract_53 : decode cX9_subtract 53 = .ok (.getfield 7, 3) := by decide +kernel
theorem dX9_subtract_56 : decode cX9_subtract 56 = .ok (.sipush 140, 3) := by decide +kernel
theorem dX9_subtract_59 : decode cX9_subtract 59 = .ok (.iload_n 1, 1) := by decide +kernel
theorem dX9_subtract_60 : decode cX9_subtract 60 = .ok (.imul, 1) := by decide +kernel
theorem dX9_subtract_61 : decode cX9_subtract 61 = .ok (.iload 4, 2) := by decide +kernel
theorem dX9_subtract_63 : decode cX9_subtract 63 = .ok (.iadd, 1) := by decide +kernel
theorem dX9_subtract_64 : decode cX9_subtract 64 = .ok (.iload 5, 2) := by decide +kernel
theorem dX9_subtract_66 : decode cX9_subtract 66 = .ok (.iload_n 3, 1) := by decide +kernel
theorem dX9_subtract_67 : decode cX9_subtract 67 = .ok (.ldc 86, 2) := by decide +kernel
theorem dX9_subtract_69 : decode cX9_subtract 69 = .ok (.imul, 1) := by decide +kernel
theorem dX9_subtract_70 : decode cX9_subtract 70 = .ok (.iadd, 1) := by decide +kernel
theorem dX9_subtract_71 : decode cX9_subtract 71 = .ok (.iastore, 1) := by decide +kernel
theorem dX9_subtract_72 : decode cX9_subtract 72 = .ok (.iinc 4 1, 3) := by decide +kernel
theorem dX9_subtract_75 : decode cX9_subtract 75 = .ok (.goto (-70), 3) := by decide +kernel
theorem dX9_subtract_78 : decode cX9_subtract 78 = .ok (.aload_n 0, 1) := by decide +kernel
theorem dX9_subtract_79 : decode cX9_subtract 79 = .ok (.iload_n 1, 1) := by decide +kernel
theorem dX9_subtract_80 : decode cX9_subtract 80 = .ok (.invokevirtual 82, 3) := by decide +kernel
theorem dX9_subtract_83 : decode cX9_subtract 83 = .ok (.return_, 1) := by decide +kernel
theorem dX9_half_0 : decode cX9_half 0 = .ok (.iconst 0, 1) := by decide +kernel
theorem dX9_half_1 : decode cX9_half 1 = .ok (.istore_n 2, 1) := by decide +kernel
theorem dX9_half_2 : decode cX9_half 2 = .ok (.sipush 140, 3) := by decide +kernel
theorem dX9_half_5 : decode cX9_half 5 = .ok (.iload_n 1, 1) := by decide +kernel
theorem dX9_half_6 : decode cX9_half 6 = .ok (.imul, 1) := by decide +kernel
theorem dX9_half_7 : decode cX9_half 7 = .ok (.aload_n 0, 1) := by decide +kernel
theorem dX9_half_8 : decode cX9_half 8 = .ok (.getfield 13, 3) := by decide +kernel
theorem dX9_half_11 : decode cX9_half 11 = .ok (.iload_n 1, 1) := by decide +kernel
theorem dX9_half_12 : decode cX9_half 12 = .ok (.iaload, 1) := by decide +kernel
theorem dX9_half_13 : decode cX9_half 13 = .ok (.iadd, 1) := by decide +kernel
theorem dX9_half_14 : decode cX9_half 14 = .ok (.iconst 1, 1) := by decide +kernel
theorem dX9_half_15 : decode cX9_half 15 = .ok (.isub, 1) := by decide +kernel
theorem dX9_half_16 : decode cX9_half 16 = .ok (.istore_n 3, 1) := by decide +kernel
theorem dX9_half_17 : decode cX9_half 17 = .ok (.iload_n 3, 1) := by decide +kernel
theorem dX9_half_18 : decode cX9_half 18 = .ok (.sipush 140, 3) := by decide +kernel
theorem dX9_half_21 : decode cX9_half 21 = .ok (.iload_n 1, 1) := by decide +kernel
theorem dX9_half_22 : decode cX9_half 22 = .ok (.imul, 1) := by decide +kernel
theorem dX9_half_23 : decode cX9_half 23 = .ok (.if_icmp .lt 37, 3) := by decide +kernel
theorem dX9_half_26 : decode cX9_half 26 = .ok (.aload_n 0, 1) := by decide +kernel
theorem dX9_half_27 : decode cX9_half 27 = .ok (.getfield 7, 3) := by decide +kernel
theorem dX9_half_30 : decode cX9_half 30 = .ok (.iload_n 3, 1) := by decide +kernel
theorem dX9_half_31 : decode cX9_half 31 = .ok (.iaload, 1) := by decide +kernel
theorem dX9_half_32 : decode cX9_half 32 = .ok (.istore 4, 2) := by decide +kernel
theorem dX9_half_34 : decode cX9_half 34 = .ok (.aload_n 0, 1) := by decide +kernel
theorem dX9_half_35 : decode cX9_half 35 = .ok (.getfield 7, 3) := by decide +kernel
theorem dX9_half_38 : decode cX9_half 38 = .ok (.iload_n 3, 1) := by decide +kernel
theorem dX9_half_39 : decode cX9_half 39 = .ok (.iload 4, 2) := by decide +kernel
theorem dX9_half_41 : decode cX9_half 41 = .ok (.iconst 1, 1) := by decide +kernel
theorem dX9_half_42 : decode cX9_half 42 = .ok (.ishr, 1) := by decide +kernel
theorem dX9_half_43 : decode cX9_half 43 = .ok (.iload_n 2, 1) := by decide +kernel
theorem dX9_half_44 : decode cX9_half 44 = .ok (.bipush 29, 2) := by decide +kernel
theorem dX9_half_46 : decode cX9_half 46 = .ok (.ishl, 1) := by decide +kernel
theorem dX9_half_47 : decode cX9_half 47 = .ok (.ior, 1) := by decide +kernel
theorem dX9_half_48 : decode cX9_half 48 = .ok (.iastore, 1) := by decide +kernel
theorem dX9_half_49 : decode cX9_half 49 = .ok (.iload 4, 2) := by decide +kernel
theorem dX9_half_51 : decode cX9_half 51 = .ok (.iconst 1, 1) := by decide +kernel
theorem dX9_half_52 : decode cX9_half 52 = .ok (.iand, 1) := by decide +kernel
theorem dX9_half_53 : decode cX9_half 53 = .ok (.istore_n 2, 1) := by decide +kernel
theorem dX9_half_54 : decode cX9_half 54 = .ok (.iinc 3 (-1), 3) := by decide +kernel
theorem dX9_half_57 : decode cX9_half 57 = .ok (.goto (-40), 3) := by decide +kernel
theorem dX9_half_60 : decode cX9_half 60 = .ok (.aload_n 0, 1) := by decide +kernel
theorem dX9_half_61 : decode cX9_half 61 = .ok (.iload_n 1, 1) := by decide +kernel
theorem dX9_half_62 : decode cX9_half 62 = .ok (.invokevirtual 82, 3) := by decide +kernel
theorem dX9_half_65 : decode cX9_half 65 = .ok (.return_, 1) := by decide +kernel
theorem dX9_quotient_0 : decode cX9_quotient 0 = .ok (.aload_n 0, 1) := by decide +kernel
theorem dX9_quotient_1 : decode cX9_quotient 1 = .ok (.getfield 13, 3) := by decide +kernel
theorem dX9_quotient_4 : decode cX9_quotient 4 = .ok (.iload_n 3, 1) := by decide +kernel
theorem dX9_quotient_5 : decode cX9_quotient 5 = .ok (.iconst 0, 1) := by decide +kernel
theorem dX9_quotient_6 : decode cX9_quotient 6 = .ok (.iastore, 1) := by decide +kernel
theorem dX9_quotient_7 : decode cX9_quotient 7 = .ok (.aload_n 0, 1) := by decide +kernel
theorem dX9_quotient_8 : decode cX9_quotient 8 = .ok (.getfield 13, 3) := by decide +kernel
theorem dX9_quotient_11 : decode cX9_quotient 11 = .ok (.iload 4, 2) := by decide +kernel
theorem dX9_quotient_13 : decode cX9_quotient 13 = .ok (.iconst 0, 1) := by decide +kernel
theorem dX9_quotient_14 : decode cX9_quotient 14 = .ok (.iastore, 1) := by decide +kernel
theorem dX9_quotient_15 : decode cX9_quotient 15 = .ok (.aload_n 0, 1) := by decide +kernel
theorem dX9_quotient_16 : decode cX9_quotient 16 = .ok (.iload_n 1, 1) := by decide +kernel
theorem dX9_quotient_17 : decode cX9_quotient 17 = .ok (.invokevirtual 87, 3) := by decide +kernel
theorem dX9_quotient_20 : decode cX9_quotient 20 = .ok (.iconst 1, 1) := by decide +kernel
theorem dX9_quotient_21 : decode cX9_quotient 21 = .ok (.isub, 1) := by decide +kernel
theorem dX9_quotient_22 : decode cX9_quotient 22 = .ok (.istore 5, 2) := by decide +kernel
theorem dX9_quotient_24 : decode cX9_quotient 24 = .ok (.iload 5, 2) := by decide +kernel
theorem dX9_quotient_26 : decode cX9_quotient 26 = .ok (.ifCond .lt 83, 3) := by decide +kernel
theorem dX9_quotient_29 : decode cX9_quotient 29 = .ok (.aload_n 0, 1) := by decide +kernel
theorem dX9_quotient_30 : decode cX9_quotient 30 = .ok (.iload 4, 2) := by decide +kernel
theorem dX9_quotient_32 : decode cX9_quotient 32 = .ok (.aload_n 0, 1) := by decide +kernel
theorem dX9_quotient_33 : decode cX9_quotient 33 = .ok (.getfield 7, 3) := by decide +kernel
theorem dX9_quotient_36 : decode cX9_quotient 36 = .ok (.sipush 140, 3) := by decide +kernel
theorem dX9_quotient_39 : decode cX9_quotient 39 = .ok (.iload_n 1, 1) := by decide +kernel
theorem dX9_quotient_40 : decode cX9_quotient 40 = .ok (.imul, 1) := by decide +kernel
theorem dX9_quotient_41 : decode cX9_quotient 41 = .ok (.iload 5, 2) := by decide +kernel
theorem dX9_quotient_43 : decode cX9_quotient 43 = .ok (.bipush 30, 2) := by decide +kernel
theorem dX9_quotient_45 : decode cX9_quotient 45 = .ok (.idiv, 1) := by decide +kernel
theorem dX9_quotient_46 : decode cX9_quotient 46 = .ok (.iadd, 1) := by decide +kernel
theorem dX9_quotient_47 : decode cX9_quotient 47 = .ok (.iaload, 1) := by decide +kernel
theorem dX9_quotient_48 : decode cX9_quotient 48 = .ok (.iload 5, 2) := by decide +kernel
theorem dX9_quotient_50 : decode cX9_quotient 50 = .ok (.bipush 30, 2) := by decide +kernel
theorem dX9_quotient_52 : decode cX9_quotient 52 = .ok (.irem, 1) := by decide +kernel
theorem dX9_quotient_53 : decode cX9_quotient 53 = .ok (.ishr, 1) := by decide +kernel
theorem dX9_quotient_54 : decode cX9_quotient 54 = .ok (.iconst 1, 1) := by decide +kernel
theorem dX9_quotient_55 : decode cX9_quotient 55 = .ok (.iand, 1) := by decide +kernel
theorem dX9_quotient_56 : decode cX9_quotient 56 = .ok (.invokevirtual 91, 3) := by decide +kernel
theorem dX9_quotient_59 : decode cX9_quotient 59 = .ok (.aload_n 0, 1) := by decide +kernel
theorem dX9_quotient_60 : decode cX9_quotient 60 = .ok (.iload 4, 2) := by decide +kernel
theorem dX9_quotient_62 : decode cX9_quotient 62 = .ok (.iload_n 2, 1) := by decide +kernel
theorem dX9_quotient_63 : decode cX9_quotient 63 = .ok (.invokevirtual 95, 3) := by decide +kernel
theorem dX9_quotient_66 : decode cX9_quotient 66 = .ok (.ifCond .lt 7, 3) := by decide +kernel
theorem dX9_quotient_69 : decode cX9_quotient 69 = .ok (.iconst 1, 1) := by decide +kernel
theorem dX9_quotient_70 : decode cX9_quotient 70 = .ok (.goto 4, 3) := by decide +kernel
theorem dX9_quotient_73 : decode cX9_quotient 73 = .ok (.iconst 0, 1) := by decide +kernel
theorem dX9_quotient_74 : decode cX9_quotient 74 = .ok (.istore 6, 2) := by decide +kernel
theorem dX9_quotient_76 : decode cX9_quotient 76 = .ok (.iload 6, 2) := by decide +kernel
theorem dX9_quotient_78 : decode cX9_quotient 78 = .ok (.ifCond .eq 10, 3) := by decide +kernel
theorem dX9_quotient_81 : decode cX9_quotient 81 = .ok (.aload_n 0, 1) := by decide +kernel
theorem dX9_quotient_82 : decode cX9_quotient 82 = .ok (.iload 4, 2) := by decide +kernel
theorem dX9_quotient_84 : decode cX9_quotient 84 = .ok (.iload_n 2, 1) := by decide +kernel
theorem dX9_quotient_85 : decode cX9_quotient 85 = .ok (.invokevirtual 98, 3) := by decide +kernel
theorem dX9_quotient_88 : decode cX9_quotient 88 = .ok (.aload_n 0, 1) := by decide +kernel
theorem dX9_quotient_89 : decode cX9_quotient 89 = .ok (.iload_n 3, 1) := by decide +kernel
theorem dX9_quotient_90 : decode cX9_quotient 90 = .ok (.iload 6, 2) := by decide +kernel
theorem dX9_quotient_92 : decode cX9_quotient 92 = .ok (.ifCond .eq 7, 3) := by decide +kernel
theorem dX9_quotient_95 : decode cX9_quotient 95 = .ok (.iconst 1, 1) := by decide +kernel
theorem dX9_quotient_96 : decode cX9_quotient 96 = .ok (.goto 4, 3) := by decide +kernel
theorem dX9_quotient_99 : decode cX9_quotient 99 = .ok (.iconst 0, 1) := by decide +kernel
theorem dX9_quotient_100 : decode cX9_quotient 100 = .ok (.invokevirtual 91, 3) := by decide +kernel
theorem dX9_quotient_103 : decode cX9_quotient 103 = .ok (.iinc 5 (-1), 3) := by decide +kernel
theorem dX9_quotient_106 : decode cX9_quotient 106 = .ok (.goto (-82), 3) := by decide +kernel
theorem dX9_quotient_109 : decode cX9_quotient 109 = .ok (.return_, 1) := by decide +kernel
theorem dX9_common_0 : decode cX9_common 0 = .ok (.aload_n 0, 1) := by decide +kernel
theorem dX9_common_1 : decode cX9_common 1 = .ok (.bipush 45, 2) := by decide +kernel
theorem dX9_common_3 : decode cX9_common 3 = .ok (.iload_n 1, 1) := by decide +kernel
theorem dX9_common_4 : decode cX9_common 4 = .ok (.invokevirtual 101, 3) := by decide +kernel
theorem dX9_common_7 : decode cX9_common 7 = .ok (.aload_n 0, 1) := by decide +kernel
theorem dX9_common_8 : decode cX9_common 8 = .ok (.bipush 46, 2) := by decide +kernel
theorem dX9_common_10 : decode cX9_common 10 = .ok (.iload_n 2, 1) := by decide +kernel
theorem dX9_common_11 : decode cX9_common 11 = .ok (.invokevirtual 101, 3) := by decide +kernel
theorem dX9_common_14 : decode cX9_common 14 = .ok (.iconst 0, 1) := by decide +kernel
theorem dX9_common_15 : decode cX9_common 15 = .ok (.istore_n 3, 1) := by decide +kernel
theorem dX9_common_16 : decode cX9_common 16 = .ok (.aload_n 0, 1) := by decide +kernel
theorem dX9_common_17 : decode cX9_common 17 = .ok (.bipush 45, 2) := by decide +kernel
theorem dX9_common_19 : decode cX9_common 19 = .ok (.invokevirtual 104, 3) := by decide +kernel
theorem dX9_common_22 : decode cX9_common 22 = .ok (.ifCond .eq 30, 3) := by decide +kernel
theorem dX9_common_25 : decode cX9_common 25 = .ok (.aload_n 0, 1) := by decide +kernel
theorem dX9_common_26 : decode cX9_common 26 = .ok (.bipush 46, 2) := by decide +kernel
theorem dX9_common_28 : decode cX9_common 28 = .ok (.invokevirtual 104, 3) := by decide +kernel
theorem dX9_common_31 : decode cX9_common 31 = .ok (.ifCond .eq 21, 3) := by decide +kernel
theorem dX9_common_34 : decode cX9_common 34 = .ok (.aload_n 0, 1) := by decide +kernel
theorem dX9_common_35 : decode cX9_common 35 = .ok (.bipush 45, 2) := by decide +kernel
theorem dX9_common_37 : decode cX9_common 37 = .ok (.invokevirtual 108, 3) := by decide +kernel
theorem dX9_common_40 : decode cX9_common 40 = .ok (.aload_n 0, 1) := by decide +kernel
theorem dX9_common_41 : decode cX9_common 41 = .ok (.bipush 46, 2) := by decide +kernel
theorem dX9_common_43 : decode cX9_common 43 = .ok (.invokevirtual 108, 3) := by decide +kernel
theorem dX9_common_46 : decode cX9_common 46 = .ok (.iinc 3 1, 3) := by decide +kernel
theorem dX9_common_49 : decode cX9_common 49 = .ok (.goto (-33), 3) := by decide +kernel
theorem dX9_common_52 : decode cX9_common 52 = .ok (.aload_n 0, 1) := by decide +kernel
theorem dX9_common_53 : decode cX9_common 53 = .ok (.getfield 13, 3) := by decide +kernel
theorem dX9_common_56 : decode cX9_common 56 = .ok (.bipush 46, 2) := by decide +kernel
theorem dX9_common_58 : decode cX9_common 58 = .ok (.iaload, 1) := by decide +kernel
theorem dX9_common_59 : decode cX9_common 59 = .ok (.ifCond .le 76, 3) := by decide +kernel
theorem dX9_common_62 : decode cX9_common 62 = .ok (.aload_n 0, 1) := by decide +kernel
theorem dX9_common_63 : decode cX9_common 63 = .ok (.bipush 45, 2) := by decide +kernel
theorem dX9_common_65 : decode cX9_common 65 = .ok (.invokevirtual 104, 3) := by decide +kernel
theorem dX9_common_68 : decode cX9_common 68 = .ok (.ifCond .eq 12, 3) := by decide +kernel
theorem dX9_common_71 : decode cX9_common 71 = .ok (.aload_n 0, 1) := by decide +kernel
theorem dX9_common_72 : decode cX9_common 72 = .ok (.bipush 45, 2) := by decide +kernel
theorem dX9_common_74 : decode cX9_common 74 = .ok (.invokevirtual 108, 3) := by decide +kernel
theorem dX9_common_77 : decode cX9_common 77 = .ok (.goto (-15), 3) := by decide +kernel
theorem dX9_common_80 : decode cX9_common 80 = .ok (.aload_n 0, 1) := by decide +kernel
theorem dX9_common_81 : decode cX9_common 81 = .ok (.bipush 46, 2) := by decide +kernel
theorem dX9_common_83 : decode cX9_common 83 = .ok (.invokevirtual 104, 3) := by decide +kernel
theorem dX9_common_86 : decode cX9_common 86 = .ok (.ifCond .eq 12, 3) := by decide +kernel
theorem dX9_common_89 : decode cX9_common 89 = .ok (.aload_n 0, 1) := by decide +kernel
theorem dX9_common_90 : decode cX9_common 90 = .ok (.bipush 46, 2) := by decide +kernel
theorem dX9_common_92 : decode cX9_common 92 = .ok (.invokevirtual 108, 3) := by decide +kernel
theorem dX9_common_95 : decode cX9_common 95 = .ok (.goto (-15), 3) := by decide +kernel
theorem dX9_common_98 : decode cX9_common 98 = .ok (.aload_n 0, 1) := by decide +kernel
theorem dX9_common_99 : decode cX9_common 99 = .ok (.bipush 45, 2) := by decide +kernel
theorem dX9_common_101 : decode cX9_common 101 = .ok (.bipush 46, 2) := by decide +kernel
theorem dX9_common_103 : decode cX9_common 103 = .ok (.invokevirtual 95, 3) := by decide +kernel
theorem dX9_common_106 : decode cX9_common 106 = .ok (.ifCond .le 18, 3) := by decide +kernel
theorem dX9_common_109 : decode cX9_common 109 = .ok (.aload_n 0, 1) := by decide +kernel
theorem dX9_common_110 : decode cX9_common 110 = .ok (.bipush 45, 2) := by decide +kernel
theorem dX9_common_112 : decode cX9_common 112 = .ok (.bipush 46, 2) := by decide +kernel
theorem dX9_common_114 : decode cX9_common 114 = .ok (.invokevirtual 98, 3) := by decide +kernel
theorem dX9_common_117 : decode cX9_common 117 = .ok (.aload_n 0, 1) := by decide +kernel
theorem dX9_common_118 : decode cX9_common 118 = .ok (.invokevirtual 111, 3) := by decide +kernel
theorem dX9_common_121 : decode cX9_common 121 = .ok (.goto (-69), 3) := by decide +kernel
theorem dX9_common_124 : decode cX9_common 124 = .ok (.aload_n 0, 1) := by decide +kernel
theorem dX9_common_125 : decode cX9_common 125 = .ok (.bipush 46, 2) := by decide +kernel
theorem dX9_common_127 : decode cX9_common 127 = .ok (.bipush 45, 2) := by decide +kernel
theorem dX9_common_129 : decode cX9_common 129 = .ok (.invokevirtual 98, 3) := by decide +kernel
theorem dX9_common_132 : decode cX9_common 132 = .ok (.goto (-80), 3) := by decide +kernel
theorem dX9_common_135 : decode cX9_common 135 = .ok (.iconst 0, 1) := by decide +kernel
theorem dX9_common_136 : decode cX9_common 136 = .ok (.istore 4, 2) := by decide +kernel
theorem dX9_common_138 : decode cX9_common 138 = .ok (.iload 4, 2) := by decide +kernel
theorem dX9_common_140 : decode cX9_common 140 = .ok (.iload_n 3, 1) := by decide +kernel
theorem dX9_common_141 : decode cX9_common 141 = .ok (.if_icmp .ge 16, 3) := by decide +kernel
theorem dX9_common_144 : decode cX9_common 144 = .ok (.aload_n 0, 1) := by decide +kernel
theorem dX9_common_145 : decode cX9_common 145 = .ok (.bipush 45, 2) := by decide +kernel
theorem dX9_common_147 : decode cX9_common 147 = .ok (.iconst 0, 1) := by decide +kernel
theorem dX9_common_148 : decode cX9_common 148 = .ok (.invokevirtual 91, 3) := by decide +kernel
theorem dX9_common_151 : decode cX9_common 151 = .ok (.iinc 4 1, 3) := by decide +kernel
theorem dX9_common_154 : decode cX9_common 154 = .ok (.goto (-16), 3) := by decide +kernel
theorem dX9_common_157 : decode cX9_common 157 = .ok (.return_, 1) := by decide +kernel
theorem dX9_swap_0 : decode cX9_swap 0 = .ok (.aload_n 0, 1) := by decide +kernel
theorem dX9_swap_1 : decode cX9_swap 1 = .ok (.bipush 44, 2) := by decide +kernel
theorem dX9_swap_3 : decode cX9_swap 3 = .ok (.bipush 45, 2) := by decide +kernel
theorem dX9_swap_5 : decode cX9_swap 5 = .ok (.invokevirtual 101, 3) := by decide +kernel
theorem dX9_swap_8 : decode cX9_swap 8 = .ok (.aload_n 0, 1) := by decide +kernel
theorem dX9_swap_9 : decode cX9_swap 9 = .ok (.bipush 45, 2) := by decide +kernel
theorem dX9_swap_11 : decode cX9_swap 11 = .ok (.bipush 46, 2) := by decide +kernel
theorem dX9_swap_13 : decode cX9_swap 13 = .ok (.invokevirtual 101, 3) := by decide +kernel
theorem dX9_swap_16 : decode cX9_swap 16 = .ok (.aload_n 0, 1) := by decide +kernel
theorem dX9_swap_17 : decode cX9_swap 17 = .ok (.bipush 46, 2) := by decide +kernel
theorem dX9_swap_19 : decode cX9_swap 19 = .ok (.bipush 44, 2) := by decide +kernel
theorem dX9_swap_21 : decode cX9_swap 21 = .ok (.invokevirtual 101, 3) := by decide +kernel
theorem dX9_swap_24 : decode cX9_swap 24 = .ok (.return_, 1) := by decide +kernel
theorem dX9_reduce_0 : decode cX9_reduce 0 = .ok (.aload_n 0, 1) := by decide +kernel
theorem dX9_reduce_1 : decode cX9_reduce 1 = .ok (.getfield 13, 3) := by decide +kernel
theorem dX9_reduce_4 : decode cX9_reduce 4 = .ok (.iload_n 1, 1) := by decide +kernel
theorem dX9_reduce_5 : decode cX9_reduce 5 = .ok (.iaload, 1) := by decide +kernel
theorem dX9_reduce_6 : decode cX9_reduce 6 = .ok (.ifCond .ne 10, 3) := by decide +kernel
theorem dX9_reduce_9 : decode cX9_reduce 9 = .ok (.aload_n 0, 1) := by decide +kernel
theorem dX9_reduce_10 : decode cX9_reduce 10 = .ok (.iload_n 2, 1) := by decide +kernel
theorem dX9_reduce_11 : decode cX9_reduce 11 = .ok (.lconst 1, 1) := by decide +kernel
theorem dX9_reduce_12 : decode cX9_reduce 12 = .ok (.invokevirtual 62, 3) := by decide +kernel
theorem dX9_reduce_15 : decode cX9_reduce 15 = .ok (.return_, 1) := by decide +kernel
theorem dX9_reduce_16 : decode cX9_reduce 16 = .ok (.aload_n 0, 1) := by decide +kernel
theorem dX9_reduce_17 : decode cX9_reduce 17 = .ok (.iload_n 1, 1) := by decide +kernel
theorem dX9_reduce_18 : decode cX9_reduce 18 = .ok (.iload_n 2, 1) := by decide +kernel
theorem dX9_reduce_19 : decode cX9_reduce 19 = .ok (.invokevirtual 114, 3) := by decide +kernel
theorem dX9_reduce_22 : decode cX9_reduce 22 = .ok (.aload_n 0, 1) := by decide +kernel
theorem dX9_reduce_23 : decode cX9_reduce 23 = .ok (.bipush 45, 2) := by decide +kernel
theorem dX9_reduce_25 : decode cX9_reduce 25 = .ok (.invokevirtual 117, 3) := by decide +kernel
theorem dX9_reduce_28 : decode cX9_reduce 28 = .ok (.ifCond .ne 47, 3) := by decide +kernel
theorem dX9_reduce_31 : decode cX9_reduce 31 = .ok (.aload_n 0, 1) := by decide +kernel
theorem dX9_reduce_32 : decode cX9_reduce 32 = .ok (.bipush 42, 2) := by decide +kernel
theorem dX9_reduce_34 : decode cX9_reduce 34 = .ok (.bipush 45, 2) := by decide +kernel
theorem dX9_reduce_36 : decode cX9_reduce 36 = .ok (.invokevirtual 101, 3) := by decide +kernel
theorem dX9_reduce_39 : decode cX9_reduce 39 = .ok (.aload_n 0, 1) := by decide +kernel
theorem dX9_reduce_40 : decode cX9_reduce 40 = .ok (.iload_n 1, 1) := by decide +kernel
theorem dX9_reduce_41 : decode cX9_reduce 41 = .ok (.bipush 42, 2) := by decide +kernel
theorem dX9_reduce_43 : decode cX9_reduce 43 = .ok (.bipush 43, 2) := by decide +kernel
theorem dX9_reduce_45 : decode cX9_reduce 45 = .ok (.bipush 46, 2) := by decide +kernel
theorem dX9_reduce_47 : decode cX9_reduce 47 = .ok (.invokevirtual 120, 3) := by decide +kernel
theorem dX9_reduce_50 : decode cX9_reduce 50 = .ok (.aload_n 0, 1) := by decide +kernel
theorem dX9_reduce_51 : decode cX9_reduce 51 = .ok (.iload_n 1, 1) := by decide +kernel
theorem dX9_reduce_52 : decode cX9_reduce 52 = .ok (.bipush 43, 2) := by decide +kernel
theorem dX9_reduce_54 : decode cX9_reduce 54 = .ok (.invokevirtual 101, 3) := by decide +kernel
theorem dX9_reduce_57 : decode cX9_reduce 57 = .ok (.aload_n 0, 1) := by decide +kernel
theorem dX9_reduce_58 : decode cX9_reduce 58 = .ok (.iload_n 2, 1) := by decide +kernel
theorem dX9_reduce_59 : decode cX9_reduce 59 = .ok (.bipush 42, 2) := by decide +kernel
theorem dX9_reduce_61 : decode cX9_reduce 61 = .ok (.bipush 43, 2) := by decide +kernel
theorem dX9_reduce_63 : decode cX9_reduce 63 = .ok (.bipush 46, 2) := by decide +kernel
theorem dX9_reduce_65 : decode cX9_reduce 65 = .ok (.invokevirtual 120, 3) := by decide +kernel
theorem dX9_reduce_68 : decode cX9_reduce 68 = .ok (.aload_n 0, 1) := by decide +kernel
theorem dX9_reduce_69 : decode cX9_reduce 69 = .ok (.iload_n 2, 1) := by decide +kernel
theorem dX9_reduce_70 : decode cX9_reduce 70 = .ok (.bipush 43, 2) := by decide +kernel
theorem dX9_reduce_72 : decode cX9_reduce 72 = .ok (.invokevirtual 101, 3) := by decide +kernel
theorem dX9_reduce_75 : decode cX9_reduce 75 = .ok (.return_, 1) := by decide +kernel
theorem dX9_plain_0 : decode cX9_plain 0 = .ok (.aload_n 0, 1) := by decide +kernel
theorem dX9_plain_1 : decode cX9_plain 1 = .ok (.getfield 16, 3) := by decide +kernel
theorem dX9_plain_4 : decode cX9_plain 4 = .ok (.iload_n 1, 1) := by decide +kernel
theorem dX9_plain_5 : decode cX9_plain 5 = .ok (.iaload, 1) := by decide +kernel
theorem dX9_plain_6 : decode cX9_plain 6 = .ok (.i2l, 1) := by decide +kernel
theorem dX9_plain_7 : decode cX9_plain 7 = .ok (.aload_n 0, 1) := by decide +kernel
theorem dX9_plain_8 : decode cX9_plain 8 = .ok (.getfield 19, 3) := by decide +kernel
theorem dX9_plain_11 : decode cX9_plain 11 = .ok (.iload_n 1, 1) := by decide +kernel
theorem dX9_plain_12 : decode cX9_plain 12 = .ok (.iaload, 1) := by decide +kernel
theorem dX9_plain_13 : decode cX9_plain 13 = .ok (.i2l, 1) := by decide +kernel
theorem dX9_plain_14 : decode cX9_plain 14 = .ok (.lmul, 1) := by decide +kernel
theorem dX9_plain_15 : decode cX9_plain 15 = .ok (.aload_n 0, 1) := by decide +kernel
theorem dX9_plain_16 : decode cX9_plain 16 = .ok (.getfield 22, 3) := by decide +kernel
theorem dX9_plain_19 : decode cX9_plain 19 = .ok (.iload_n 1, 1) := by decide +kernel
theorem dX9_plain_20 : decode cX9_plain 20 = .ok (.iaload, 1) := by decide +kernel
theorem dX9_plain_21 : decode cX9_plain 21 = .ok (.i2l, 1) := by decide +kernel
theorem dX9_plain_22 : decode cX9_plain 22 = .ok (.lmul, 1) := by decide +kernel
theorem dX9_plain_23 : decode cX9_plain 23 = .ok (.lreturn, 1) := by decide +kernel
theorem dX9_sum_0 : decode cX9_sum 0 = .ok (.aload_n 0, 1) := by decide +kernel
theorem dX9_sum_1 : decode cX9_sum 1 = .ok (.getfield 13, 3) := by decide +kernel
theorem dX9_sum_4 : decode cX9_sum 4 = .ok (.bipush 34, 2) := by decide +kernel
theorem dX9_sum_6 : decode cX9_sum 6 = .ok (.iconst 0, 1) := by decide +kernel
theorem dX9_sum_7 : decode cX9_sum 7 = .ok (.iastore, 1) := by decide +kernel
theorem dX9_sum_8 : decode cX9_sum 8 = .ok (.aload_n 0, 1) := by decide +kernel
theorem dX9_sum_9 : decode cX9_sum 9 = .ok (.bipush 35, 2) := by decide +kernel
theorem dX9_sum_11 : decode cX9_sum 11 = .ok (.lconst 1, 1) := by decide +kernel
theorem dX9_sum_12 : decode cX9_sum 12 = .ok (.invokevirtual 62, 3) := by decide +kernel
theorem dX9_sum_15 : decode cX9_sum 15 = .ok (.iconst 0, 1) := by decide +kernel
theorem dX9_sum_16 : decode cX9_sum 16 = .ok (.istore_n 1, 1) := by decide +kernel
theorem dX9_sum_17 : decode cX9_sum 17 = .ok (.iload_n 1, 1) := by decide +kernel
theorem dX9_sum_18 : decode cX9_sum 18 = .ok (.bipush 8, 2) := by decide +kernel
theorem dX9_sum_20 : decode cX9_sum 20 = .ok (.if_icmp .ge 105, 3) := by decide +kernel
theorem dX9_sum_23 : decode cX9_sum 23 = .ok (.aload_n 0, 1) := by decide +kernel
theorem dX9_sum_24 : decode cX9_sum 24 = .ok (.iload_n 1, 1) := by decide +kernel
theorem dX9_sum_25 : decode cX9_sum 25 = .ok (.invokevirtual 124, 3) := by decide +kernel
theorem dX9_sum_28 : decode cX9_sum 28 = .ok (.ifCond .eq 91, 3) := by decide +kernel
theorem dX9_sum_31 : decode cX9_sum 31 = .ok (.aload_n 0, 1) := by decide +kernel
theorem dX9_sum_32 : decode cX9_sum 32 = .ok (.bipush 40, 2) := by decide +kernel
theorem dX9_sum_34 : decode cX9_sum 34 = .ok (.aload_n 0, 1) := by decide +kernel
theorem dX9_sum_35 : decode cX9_sum 35 = .ok (.iload_n 1, 1) := by decide +kernel
theorem dX9_sum_36 : decode cX9_sum 36 = .ok (.invokevirtual 127, 3) := by decide +kernel
theorem dX9_sum_39 : decode cX9_sum 39 = .ok (.invokevirtual 62, 3) := by decide +kernel
theorem dX9_sum_42 : decode cX9_sum 42 = .ok (.aload_n 0, 1) := by decide +kernel
theorem dX9_sum_43 : decode cX9_sum 43 = .ok (.bipush 41, 2) := by decide +kernel
theorem dX9_sum_45 : decode cX9_sum 45 = .ok (.bipush 40, 2) := by decide +kernel
theorem dX9_sum_47 : decode cX9_sum 47 = .ok (.iconst 0, 1) := by decide +kernel
theorem dX9_sum_48 : decode cX9_sum 48 = .ok (.iload_n 1, 1) := by decide +kernel
theorem dX9_sum_49 : decode cX9_sum 49 = .ok (.iadd, 1) := by decide +kernel
theorem dX9_sum_50 : decode cX9_sum 50 = .ok (.invokevirtual 131, 3) := by decide +kernel
theorem dX9_sum_53 : decode cX9_sum 53 = .ok (.aload_n 0, 1) := by decide +kernel
theorem dX9_sum_54 : decode cX9_sum 54 = .ok (.bipush 40, 2) := by decide +kernel
theorem dX9_sum_56 : decode cX9_sum 56 = .ok (.bipush 41, 2) := by decide +kernel
theorem dX9_sum_58 : decode cX9_sum 58 = .ok (.bipush 35, 2) := by decide +kernel
theorem dX9_sum_60 : decode cX9_sum 60 = .ok (.invokevirtual 131, 3) := by decide +kernel
theorem dX9_sum_63 : decode cX9_sum 63 = .ok (.aload_n 0, 1) := by decide +kernel
theorem dX9_sum_64 : decode cX9_sum 64 = .ok (.bipush 41, 2) := by decide +kernel
theorem dX9_sum_66 : decode cX9_sum 66 = .ok (.bipush 34, 2) := by decide +kernel
theorem dX9_sum_68 : decode cX9_sum 68 = .ok (.bipush 8, 2) := by decide +kernel
theorem dX9_sum_70 : decode cX9_sum 70 = .ok (.iload_n 1, 1) := by decide +kernel
theorem dX9_sum_71 : decode cX9_sum 71 = .ok (.iadd, 1) := by decide +kernel
theorem dX9_sum_72 : decode cX9_sum 72 = .ok (.invokevirtual 131, 3) := by decide +kernel
theorem dX9_sum_75 : decode cX9_sum 75 = .ok (.aload_n 0, 1) := by decide +kernel
theorem dX9_sum_76 : decode cX9_sum 76 = .ok (.bipush 41, 2) := by decide +kernel
theorem dX9_sum_78 : decode cX9_sum 78 = .ok (.bipush 40, 2) := by decide +kernel
theorem dX9_sum_80 : decode cX9_sum 80 = .ok (.invokevirtual 135, 3) := by decide +kernel
theorem dX9_sum_83 : decode cX9_sum 83 = .ok (.aload_n 0, 1) := by decide +kernel
theorem dX9_sum_84 : decode cX9_sum 84 = .ok (.bipush 40, 2) := by decide +kernel
theorem dX9_sum_86 : decode cX9_sum 86 = .ok (.bipush 35, 2) := by decide +kernel
theorem dX9_sum_88 : decode cX9_sum 88 = .ok (.bipush 8, 2) := by decide +kernel
theorem dX9_sum_90 : decode cX9_sum 90 = .ok (.iload_n 1, 1) := by decide +kernel
theorem dX9_sum_91 : decode cX9_sum 91 = .ok (.iadd, 1) := by decide +kernel
theorem dX9_sum_92 : decode cX9_sum 92 = .ok (.invokevirtual 131, 3) := by decide +kernel
theorem dX9_sum_95 : decode cX9_sum 95 = .ok (.aload_n 0, 1) := by decide +kernel
theorem dX9_sum_96 : decode cX9_sum 96 = .ok (.bipush 34, 2) := by decide +kernel
theorem dX9_sum_98 : decode cX9_sum 98 = .ok (.bipush 41, 2) := by decide +kernel
theorem dX9_sum_100 : decode cX9_sum 100 = .ok (.invokevirtual 101, 3) := by decide +kernel
theorem dX9_sum_103 : decode cX9_sum 103 = .ok (.aload_n 0, 1) := by decide +kernel
theorem dX9_sum_104 : decode cX9_sum 104 = .ok (.bipush 35, 2) := by decide +kernel
theorem dX9_sum_106 : decode cX9_sum 106 = .ok (.bipush 40, 2) := by decide +kernel
theorem dX9_sum_108 : decode cX9_sum 108 = .ok (.invokevirtual 101, 3) := by decide +kernel
theorem dX9_sum_111 : decode cX9_sum 111 = .ok (.aload_n 0, 1) := by decide +kernel
theorem dX9_sum_112 : decode cX9_sum 112 = .ok (.bipush 34, 2) := by decide +kernel
theorem dX9_sum_114 : decode cX9_sum 114 = .ok (.bipush 35, 2) := by decide +kernel
theorem dX9_sum_116 : decode cX9_sum 116 = .ok (.invokevirtual 138, 3) := by decide +kernel
theorem dX9_sum_119 : decode cX9_sum 119 = .ok (.iinc 1 1, 3) := by decide +kernel
theorem dX9_sum_122 : decode cX9_sum 122 = .ok (.goto (-105), 3) := by decide +kernel
theorem dX9_sum_125 : decode cX9_sum 125 = .ok (.return_, 1) := by decide +kernel
theorem dX9_fits_0 : decode cX9_fits 0 = .ok (.iload_n 1, 1) := by decide +kernel
theorem dX9_fits_1 : decode cX9_fits 1 = .ok (.iconst 1, 1) := by decide +kernel
theorem dX9_fits_2 : decode cX9_fits 2 = .ok (.iload_n 0, 1) := by decide +kernel
theorem dX9_fits_3 : decode cX9_fits 3 = .ok (.iconst 2, 1) := by decide +kernel
theorem dX9_fits_4 : decode cX9_fits 4 = .ok (.if_icmp .ne 8, 3) := by decide +kernel
theorem dX9_fits_7 : decode cX9_fits 7 = .ok (.bipush 100, 2) := by decide +kernel
theorem dX9_fits_9 : decode cX9_fits 9 = .ok (.goto 5, 3) := by decide +kernel
theorem dX9_fits_12 : decode cX9_fits 12 = .ok (.ldc 141, 2) := by decide +kernel
theorem dX9_fits_14 : decode cX9_fits 14 = .ok (.invokestatic 142, 3) := by decide +kernel
theorem dX9_fits_17 : decode cX9_fits 17 = .ok (.ireturn, 1) := by decide +kernel
theorem dX9_set__0 : decode cX9_set_ 0 = .ok (.aload_n 0, 1) := by decide +kernel
theorem dX9_set__1 : decode cX9_set_ 1 = .ok (.iload_n 1, 1) := by decide +kernel
theorem dX9_set__2 : decode cX9_set_ 2 = .ok (.iconst 0, 1) := by decide +kernel
theorem dX9_set__3 : decode cX9_set_ 3 = .ok (.bipush 7, 2) := by decide +kernel
theorem dX9_set__5 : decode cX9_set_ 5 = .ok (.invokestatic 142, 3) := by decide +kernel
theorem dX9_set__8 : decode cX9_set_ 8 = .ok (.ifCond .ne 7, 3) := by decide +kernel
theorem dX9_set__11 : decode cX9_set_ 11 = .ok (.iconst 1, 1) := by decide +kernel
theorem dX9_set__12 : decode cX9_set_ 12 = .ok (.goto 17, 3) := by decide +kernel
theorem dX9_set__15 : decode cX9_set_ 15 = .ok (.iload_n 2, 1) := by decide +kernel
theorem dX9_set__16 : decode cX9_set_ 16 = .ok (.iconst 0, 1) := by decide +kernel
theorem dX9_set__17 : decode cX9_set_ 17 = .ok (.iconst 2, 1) := by decide +kernel
theorem dX9_set__18 : decode cX9_set_ 18 = .ok (.invokestatic 142, 3) := by decide +kernel
theorem dX9_set__21 : decode cX9_set_ 21 = .ok (.ifCond .ne 7, 3) := by decide +kernel
theorem dX9_set__24 : decode cX9_set_ 24 = .ok (.iconst 2, 1) := by decide +kernel
theorem dX9_set__25 : decode cX9_set_ 25 = .ok (.goto 4, 3) := by decide +kernel
theorem dX9_set__28 : decode cX9_set_ 28 = .ok (.iconst 0, 1) := by decide +kernel
theorem dX9_set__29 : decode cX9_set_ 29 = .ok (.putfield 66, 3) := by decide +kernel
theorem dX9_set__32 : decode cX9_set_ 32 = .ok (.aload_n 0, 1) := by decide +kernel
theorem dX9_set__33 : decode cX9_set_ 33 = .ok (.getfield 66, 3) := by decide +kernel
theorem dX9_set__36 : decode cX9_set_ 36 = .ok (.ifCond .le 5, 3) := by decide +kernel
theorem dX9_set__39 : decode cX9_set_ 39 = .ok (.iconst 0, 1) := by decide +kernel
theorem dX9_set__40 : decode cX9_set_ 40 = .ok (.ireturn, 1) := by decide +kernel
theorem dX9_set__41 : decode cX9_set_ 41 = .ok (.iload_n 2, 1) := by decide +kernel
theorem dX9_set__42 : decode cX9_set_ 42 = .ok (.iload_n 3, 1) := by decide +kernel
theorem dX9_set__43 : decode cX9_set_ 43 = .ok (.invokestatic 146, 3) := by decide +kernel
theorem dX9_set__46 : decode cX9_set_ 46 = .ok (.ifCond .eq 22, 3) := by decide +kernel
theorem dX9_set__49 : decode cX9_set_ 49 = .ok (.iload_n 2, 1) := by decide +kernel
theorem dX9_set__50 : decode cX9_set_ 50 = .ok (.ifCond .le 20, 3) := by decide +kernel
theorem dX9_set__53 : decode cX9_set_ 53 = .ok (.aload_n 0, 1) := by decide +kernel
theorem dX9_set__54 : decode cX9_set_ 54 = .ok (.getfield 150, 3) := by decide +kernel
theorem dX9_set__57 : decode cX9_set_ 57 = .ok (.ifCond .eq 13, 3) := by decide +kernel
theorem dX9_set__60 : decode cX9_set_ 60 = .ok (.aload_n 0, 1) := by decide +kernel
theorem dX9_set__61 : decode cX9_set_ 61 = .ok (.iload_n 1, 1) := by decide +kernel
theorem dX9_set__62 : decode cX9_set_ 62 = .ok (.invokevirtual 124, 3) := by decide +kernel
theorem dX9_set__65 : decode cX9_set_ 65 = .ok (.ifCond .eq 5, 3) := by decide +kernel
theorem dX9_set__68 : decode cX9_set_ 68 = .ok (.iconst (-1), 1) := by decide +kernel
theorem dX9_set__69 : decode cX9_set_ 69 = .ok (.ireturn, 1) := by decide +kernel
theorem dX9_set__70 : decode cX9_set_ 70 = .ok (.iload_n 2, 1) := by decide +kernel
theorem dX9_set__71 : decode cX9_set_ 71 = .ok (.ifCond .ne 13, 3) := by decide +kernel
theorem dX9_set__74 : decode cX9_set_ 74 = .ok (.aload_n 0, 1) := by decide +kernel
theorem dX9_set__75 : decode cX9_set_ 75 = .ok (.getfield 16, 3) := by decide +kernel
theorem dX9_set__78 : decode cX9_set_ 78 = .ok (.iload_n 1, 1) := by decide +kernel
theorem dX9_set__79 : decode cX9_set_ 79 = .ok (.iload_n 3, 1) := by decide +kernel
theorem dX9_set__80 : decode cX9_set_ 80 = .ok (.iastore, 1) := by decide +kernel
theorem dX9_set__81 : decode cX9_set_ 81 = .ok (.goto 25, 3) := by decide +kernel
theorem dX9_set__84 : decode cX9_set_ 84 = .ok (.iload_n 2, 1) := by decide +kernel
theorem dX9_set__85 : decode cX9_set_ 85 = .ok (.iconst 1, 1) := by decide +kernel
theorem dX9_set__86 : decode cX9_set_ 86 = .ok (.if_icmp .ne 13, 3) := by decide +kernel
theorem dX9_set__89 : decode cX9_set_ 89 = .ok (.aload_n 0, 1) := by decide +kernel
theorem dX9_set__90 : decode cX9_set_ 90 = .ok (.getfield 19, 3) := by decide +kernel
theorem dX9_set__93 : decode cX9_set_ 93 = .ok (.iload_n 1, 1) := by decide +kernel
theorem dX9_set__94 : decode cX9_set_ 94 = .ok (.iload_n 3, 1) := by decide +kernel
theorem dX9_set__95 : decode cX9_set_ 95 = .ok (.iastore, 1) := by decide +kernel
theorem dX9_set__96 : decode cX9_set_ 96 = .ok (.goto 10, 3) := by decide +kernel
theorem dX9_set__99 : decode cX9_set_ 99 = .ok (.aload_n 0, 1) := by decide +kernel
theorem dX9_set__100 : decode cX9_set_ 100 = .ok (.getfield 22, 3) := by decide +kernel
theorem dX9_set__103 : decode cX9_set_ 103 = .ok (.iload_n 1, 1) := by decide +kernel
theorem dX9_set__104 : decode cX9_set_ 104 = .ok (.iload_n 3, 1) := by decide +kernel
theorem dX9_set__105 : decode cX9_set_ 105 = .ok (.iastore, 1) := by decide +kernel
theorem dX9_set__106 : decode cX9_set_ 106 = .ok (.iconst 0, 1) := by decide +kernel
theorem dX9_set__107 : decode cX9_set_ 107 = .ok (.ireturn, 1) := by decide +kernel
theorem dX9_get_0 : decode cX9_get 0 = .ok (.aload_n 0, 1) := by decide +kernel
theorem dX9_get_1 : decode cX9_get 1 = .ok (.iload_n 1, 1) := by decide +kernel
theorem dX9_get_2 : decode cX9_get 2 = .ok (.iconst 0, 1) := by decide +kernel
theorem dX9_get_3 : decode cX9_get 3 = .ok (.bipush 7, 2) := by decide +kernel
theorem dX9_get_5 : decode cX9_get 5 = .ok (.invokestatic 142, 3) := by decide +kernel
theorem dX9_get_8 : decode cX9_get 8 = .ok (.ifCond .ne 7, 3) := by decide +kernel
theorem dX9_get_11 : decode cX9_get 11 = .ok (.iconst 1, 1) := by decide +kernel
theorem dX9_get_12 : decode cX9_get 12 = .ok (.goto 17, 3) := by decide +kernel
theorem dX9_get_15 : decode cX9_get 15 = .ok (.iload_n 2, 1) := by decide +kernel
theorem dX9_get_16 : decode cX9_get 16 = .ok (.iconst 0, 1) := by decide +kernel
theorem dX9_get_17 : decode cX9_get 17 = .ok (.iconst 2, 1) := by decide +kernel
theorem dX9_get_18 : decode cX9_get 18 = .ok (.invokestatic 142, 3) := by decide +kernel
theorem dX9_get_21 : decode cX9_get 21 = .ok (.ifCond .ne 7, 3) := by decide +kernel
theorem dX9_get_24 : decode cX9_get 24 = .ok (.iconst 2, 1) := by decide +kernel
theorem dX9_get_25 : decode cX9_get 25 = .ok (.goto 4, 3) := by decide +kernel
theorem dX9_get_28 : decode cX9_get 28 = .ok (.iconst 0, 1) := by decide +kernel
theorem dX9_get_29 : decode cX9_get 29 = .ok (.putfield 66, 3) := by decide +kernel
theorem dX9_get_32 : decode cX9_get 32 = .ok (.aload_n 0, 1) := by decide +kernel
theorem dX9_get_33 : decode cX9_get 33 = .ok (.getfield 66, 3) := by decide +kernel
theorem dX9_get_36 : decode cX9_get 36 = .ok (.ifCond .le 7, 3) := by decide +kernel
theorem dX9_get_39 : decode cX9_get 39 = .ok (.iconst 0, 1) := by decide +kernel
theorem dX9_get_40 : decode cX9_get 40 = .ok (.goto 36, 3) := by decide +kernel
theorem dX9_get_43 : decode cX9_get 43 = .ok (.iload_n 2, 1) := by decide +kernel
theorem dX9_get_44 : decode cX9_get 44 = .ok (.ifCond .ne 12, 3) := by decide +kernel
theorem dX9_get_47 : decode cX9_get 47 = .ok (.aload_n 0, 1) := by decide +kernel
theorem dX9_get_48 : decode cX9_get 48 = .ok (.getfield 16, 3) := by decide +kernel
theorem dX9_get_51 : decode cX9_get 51 = .ok (.iload_n 1, 1) := by decide +kernel
theorem dX9_get_52 : decode cX9_get 52 = .ok (.iaload, 1) := by decide +kernel
theorem dX9_get_53 : decode cX9_get 53 = .ok (.goto 23, 3) := by decide +kernel
theorem dX9_get_56 : decode cX9_get 56 = .ok (.iload_n 2, 1) := by decide +kernel
theorem dX9_get_57 : decode cX9_get 57 = .ok (.iconst 1, 1) := by decide +kernel
theorem dX9_get_58 : decode cX9_get 58 = .ok (.if_icmp .ne 12, 3) := by decide +kernel
theorem dX9_get_61 : decode cX9_get 61 = .ok (.aload_n 0, 1) := by decide +kernel
theorem dX9_get_62 : decode cX9_get 62 = .ok (.getfield 19, 3) := by decide +kernel
theorem dX9_get_65 : decode cX9_get 65 = .ok (.iload_n 1, 1) := by decide +kernel
theorem dX9_get_66 : decode cX9_get 66 = .ok (.iaload, 1) := by decide +kernel
theorem dX9_get_67 : decode cX9_get 67 = .ok (.goto 9, 3) := by decide +kernel
theorem dX9_get_70 : decode cX9_get 70 = .ok (.aload_n 0, 1) := by decide +kernel
theorem dX9_get_71 : decode cX9_get 71 = .ok (.getfield 22, 3) := by decide +kernel
theorem dX9_get_74 : decode cX9_get 74 = .ok (.iload_n 1, 1) := by decide +kernel
theorem dX9_get_75 : decode cX9_get 75 = .ok (.iaload, 1) := by decide +kernel
theorem dX9_get_76 : decode cX9_get 76 = .ok (.ireturn, 1) := by decide +kernel
theorem dX9_base_0 : decode cX9_base 0 = .ok (.aload_n 0, 1) := by decide +kernel
theorem dX9_base_1 : decode cX9_base 1 = .ok (.iload_n 1, 1) := by decide +kernel
theorem dX9_base_2 : decode cX9_base 2 = .ok (.iconst 1, 1) := by decide +kernel
theorem dX9_base_3 : decode cX9_base 3 = .ok (.if_icmp .lt 20, 3) := by decide +kernel
theorem dX9_base_6 : decode cX9_base 6 = .ok (.iload_n 1, 1) := by decide +kernel
theorem dX9_base_7 : decode cX9_base 7 = .ok (.sipush 255, 3) := by decide +kernel
theorem dX9_base_10 : decode cX9_base 10 = .ok (.if_icmp .gt 13, 3) := by decide +kernel
theorem dX9_base_13 : decode cX9_base 13 = .ok (.iload_n 2, 1) := by decide +kernel
theorem dX9_base_14 : decode cX9_base 14 = .ok (.iconst 1, 1) := by decide +kernel
theorem dX9_base_15 : decode cX9_base 15 = .ok (.ldc 154, 2) := by decide +kernel
theorem dX9_base_17 : decode cX9_base 17 = .ok (.invokestatic 142, 3) := by decide +kernel
theorem dX9_base_20 : decode cX9_base 20 = .ok (.ifCond .ne 7, 3) := by decide +kernel
theorem dX9_base_23 : decode cX9_base 23 = .ok (.iconst 1, 1) := by decide +kernel
theorem dX9_base_24 : decode cX9_base 24 = .ok (.goto 4, 3) := by decide +kernel
theorem dX9_base_27 : decode cX9_base 27 = .ok (.iconst 0, 1) := by decide +kernel
theorem dX9_base_28 : decode cX9_base 28 = .ok (.putfield 66, 3) := by decide +kernel
theorem dX9_base_31 : decode cX9_base 31 = .ok (.aload_n 0, 1) := by decide +kernel
theorem dX9_base_32 : decode cX9_base 32 = .ok (.getfield 66, 3) := by decide +kernel
theorem dX9_base_35 : decode cX9_base 35 = .ok (.ifCond .le 4, 3) := by decide +kernel
theorem dX9_base_38 : decode cX9_base 38 = .ok (.return_, 1) := by decide +kernel
theorem dX9_base_39 : decode cX9_base 39 = .ok (.aload_n 0, 1) := by decide +kernel
theorem dX9_base_40 : decode cX9_base 40 = .ok (.iload_n 1, 1) := by decide +kernel
theorem dX9_base_41 : decode cX9_base 41 = .ok (.putfield 70, 3) := by decide +kernel
theorem dX9_base_44 : decode cX9_base 44 = .ok (.aload_n 0, 1) := by decide +kernel
theorem dX9_base_45 : decode cX9_base 45 = .ok (.iconst 1, 1) := by decide +kernel
theorem dX9_base_46 : decode cX9_base 46 = .ok (.putfield 150, 3) := by decide +kernel
theorem dX9_base_49 : decode cX9_base 49 = .ok (.iconst 0, 1) := by decide +kernel
theorem dX9_base_50 : decode cX9_base 50 = .ok (.istore_n 3, 1) := by decide +kernel
theorem dX9_base_51 : decode cX9_base 51 = .ok (.iload_n 3, 1) := by decide +kernel
theorem dX9_base_52 : decode cX9_base 52 = .ok (.bipush 8, 2) := by decide +kernel
theorem dX9_base_54 : decode cX9_base 54 = .ok (.if_icmp .ge 26, 3) := by decide +kernel
theorem dX9_base_57 : decode cX9_base 57 = .ok (.aload_n 0, 1) := by decide +kernel
theorem dX9_base_58 : decode cX9_base 58 = .ok (.iconst 0, 1) := by decide +kernel
theorem dX9_base_59 : decode cX9_base 59 = .ok (.iload_n 3, 1) := by decide +kernel
theorem dX9_base_60 : decode cX9_base 60 = .ok (.iadd, 1) := by decide +kernel
theorem dX9_base_61 : decode cX9_base 61 = .ok (.lconst 1, 1) := by decide +kernel
theorem dX9_base_62 : decode cX9_base 62 = .ok (.invokevirtual 62, 3) := by decide +kernel
theorem dX9_base_65 : decode cX9_base 65 = .ok (.aload_n 0, 1) := by decide +kernel
theorem dX9_base_66 : decode cX9_base 66 = .ok (.bipush 8, 2) := by decide +kernel
theorem dX9_base_68 : decode cX9_base 68 = .ok (.iload_n 3, 1) := by decide +kernel
theorem dX9_base_69 : decode cX9_base 69 = .ok (.iadd, 1) := by decide +kernel
theorem dX9_base_70 : decode cX9_base 70 = .ok (.lconst 1, 1) := by decide +kernel
theorem dX9_base_71 : decode cX9_base 71 = .ok (.invokevirtual 62, 3) := by decide +kernel
theorem dX9_base_74 : decode cX9_base 74 = .ok (.iinc 3 1, 3) := by decide +kernel
theorem dX9_base_77 : decode cX9_base 77 = .ok (.goto (-26), 3) := by decide +kernel
theorem dX9_base_80 : decode cX9_base 80 = .ok (.aload_n 0, 1) := by decide +kernel
theorem dX9_base_81 : decode cX9_base 81 = .ok (.invokevirtual 155, 3) := by decide +kernel
theorem dX9_base_84 : decode cX9_base 84 = .ok (.aload_n 0, 1) := by decide +kernel
theorem dX9_base_85 : decode cX9_base 85 = .ok (.bipush 32, 2) := by decide +kernel
theorem dX9_base_87 : decode cX9_base 87 = .ok (.bipush 34, 2) := by decide +kernel
theorem dX9_base_89 : decode cX9_base 89 = .ok (.invokevirtual 101, 3) := by decide +kernel
theorem dX9_base_92 : decode cX9_base 92 = .ok (.aload_n 0, 1) := by decide +kernel
theorem dX9_base_93 : decode cX9_base 93 = .ok (.bipush 33, 2) := by decide +kernel
theorem dX9_base_95 : decode cX9_base 95 = .ok (.bipush 35, 2) := by decide +kernel
theorem dX9_base_97 : decode cX9_base 97 = .ok (.invokevirtual 101, 3) := by decide +kernel
theorem dX9_base_100 : decode cX9_base 100 = .ok (.aload_n 0, 1) := by decide +kernel
theorem dX9_base_101 : decode cX9_base 101 = .ok (.bipush 33, 2) := by decide +kernel
theorem dX9_base_103 : decode cX9_base 103 = .ok (.iload_n 2, 1) := by decide +kernel
theorem dX9_base_104 : decode cX9_base 104 = .ok (.invokevirtual 158, 3) := by decide +kernel
theorem dX9_base_107 : decode cX9_base 107 = .ok (.aload_n 0, 1) := by decide +kernel
theorem dX9_base_108 : decode cX9_base 108 = .ok (.bipush 32, 2) := by decide +kernel
theorem dX9_base_110 : decode cX9_base 110 = .ok (.bipush 33, 2) := by decide +kernel
theorem dX9_base_112 : decode cX9_base 112 = .ok (.invokevirtual 138, 3) := by decide +kernel
theorem dX9_base_115 : decode cX9_base 115 = .ok (.aload_n 0, 1) := by decide +kernel
theorem dX9_base_116 : decode cX9_base 116 = .ok (.iconst 0, 1) := by decide +kernel
theorem dX9_base_117 : decode cX9_base 117 = .ok (.putfield 161, 3) := by decide +kernel
theorem dX9_base_120 : decode cX9_base 120 = .ok (.aload_n 0, 1) := by decide +kernel
theorem dX9_base_121 : decode cX9_base 121 = .ok (.iconst 0, 1) := by decide +kernel
theorem dX9_base_122 : decode cX9_base 122 = .ok (.putfield 164, 3) := by decide +kernel
theorem dX9_base_125 : decode cX9_base 125 = .ok (.aload_n 0, 1) := by decide +kernel
theorem dX9_base_126 : decode cX9_base 126 = .ok (.iconst 0, 1) := by decide +kernel
theorem dX9_base_127 : decode cX9_base 127 = .ok (.putfield 167, 3) := by decide +kernel
theorem dX9_base_130 : decode cX9_base 130 = .ok (.return_, 1) := by decide +kernel
theorem dX9_members_0 : decode cX9_members 0 = .ok (.aload_n 0, 1) := by decide +kernel
theorem dX9_members_1 : decode cX9_members 1 = .ok (.iconst 0, 1) := by decide +kernel
theorem dX9_members_2 : decode cX9_members 2 = .ok (.putfield 66, 3) := by decide +kernel
theorem dX9_members_5 : decode cX9_members 5 = .ok (.aload_n 0, 1) := by decide +kernel
theorem dX9_members_6 : decode cX9_members 6 = .ok (.getfield 150, 3) := by decide +kernel
theorem dX9_members_9 : decode cX9_members 9 = .ok (.ifCond .eq 10, 3) := by decide +kernel
theorem dX9_members_12 : decode cX9_members 12 = .ok (.aload_n 0, 1) := by decide +kernel
theorem dX9_members_13 : decode cX9_members 13 = .ok (.getfield 70, 3) := by decide +kernel
theorem dX9_members_16 : decode cX9_members 16 = .ok (.goto 4, 3) := by decide +kernel
theorem dX9_members_19 : decode cX9_members 19 = .ok (.iconst (-1), 1) := by decide +kernel
theorem dX9_members_20 : decode cX9_members 20 = .ok (.ireturn, 1) := by decide +kernel
theorem dX9_event_0 : decode cX9_event 0 = .ok (.aload_n 0, 1) := by decide +kernel
theorem dX9_event_1 : decode cX9_event 1 = .ok (.iconst 0, 1) := by decide +kernel
theorem dX9_event_2 : decode cX9_event 2 = .ok (.putfield 66, 3) := by decide +kernel
theorem dX9_event_5 : decode cX9_event 5 = .ok (.aload_n 0, 1) := by decide +kernel
theorem dX9_event_6 : decode cX9_event 6 = .ok (.getfield 150, 3) := by decide +kernel
theorem dX9_event_9 : decode cX9_event 9 = .ok (.ifCond .eq 32, 3) := by decide +kernel
theorem dX9_event_12 : decode cX9_event 12 = .ok (.aload_n 0, 1) := by decide +kernel
theorem dX9_event_13 : decode cX9_event 13 = .ok (.getfield 161, 3) := by decide +kernel
theorem dX9_event_16 : decode cX9_event 16 = .ok (.bipush 16, 2) := by decide +kernel
theorem dX9_event_18 : decode cX9_event 18 = .ok (.if_icmp .eq 23, 3) := by decide +kernel
theorem dX9_event_21 : decode cX9_event 21 = .ok (.iload_n 1, 1) := by decide +kernel
theorem dX9_event_22 : decode cX9_event 22 = .ok (.iconst 0, 1) := by decide +kernel
theorem dX9_event_23 : decode cX9_event 23 = .ok (.bipush 8, 2) := by decide +kernel
theorem dX9_event_25 : decode cX9_event 25 = .ok (.invokestatic 142, 3) := by decide +kernel
theorem dX9_event_28 : decode cX9_event 28 = .ok (.ifCond .eq 13, 3) := by decide +kernel
theorem dX9_event_31 : decode cX9_event 31 = .ok (.iload_n 2, 1) := by decide +kernel
theorem dX9_event_32 : decode cX9_event 32 = .ok (.iconst 0, 1) := by decide +kernel
theorem dX9_event_33 : decode cX9_event 33 = .ok (.bipush 7, 2) := by decide +kernel
theorem dX9_event_35 : decode cX9_event 35 = .ok (.invokestatic 142, 3) := by decide +kernel
theorem dX9_event_38 : decode cX9_event 38 = .ok (.ifCond .ne 5, 3) := by decide +kernel
theorem dX9_event_41 : decode cX9_event 41 = .ok (.iconst (-1), 1) := by decide +kernel
theorem dX9_event_42 : decode cX9_event 42 = .ok (.ireturn, 1) := by decide +kernel
theorem dX9_event_43 : decode cX9_event 43 = .ok (.aload_n 0, 1) := by decide +kernel
theorem dX9_event_44 : decode cX9_event 44 = .ok (.getfield 34, 3) := by decide +kernel
theorem dX9_event_47 : decode cX9_event 47 = .ok (.aload_n 0, 1) := by decide +kernel
theorem dX9_event_48 : decode cX9_event 48 = .ok (.getfield 161, 3) := by decide +kernel
theorem dX9_event_51 : decode cX9_event 51 = .ok (.iload_n 1, 1) := by decide +kernel
theorem dX9_event_52 : decode cX9_event 52 = .ok (.iastore, 1) := by decide +kernel
theorem dX9_event_53 : decode cX9_event 53 = .ok (.aload_n 0, 1) := by decide +kernel
theorem dX9_event_54 : decode cX9_event 54 = .ok (.getfield 37, 3) := by decide +kernel
theorem dX9_event_57 : decode cX9_event 57 = .ok (.aload_n 0, 1) := by decide +kernel
theorem dX9_event_58 : decode cX9_event 58 = .ok (.getfield 161, 3) := by decide +kernel
theorem dX9_event_61 : decode cX9_event 61 = .ok (.iload_n 2, 1) := by decide +kernel
theorem dX9_event_62 : decode cX9_event 62 = .ok (.iastore, 1) := by decide +kernel
theorem dX9_event_63 : decode cX9_event 63 = .ok (.aload_n 0, 1) := by decide +kernel
theorem dX9_event_64 : decode cX9_event 64 = .ok (.getfield 40, 3) := by decide +kernel
theorem dX9_event_67 : decode cX9_event 67 = .ok (.aload_n 0, 1) := by decide +kernel
theorem dX9_event_68 : decode cX9_event 68 = .ok (.getfield 161, 3) := by decide +kernel
theorem dX9_event_71 : decode cX9_event 71 = .ok (.iload_n 3, 1) := by decide +kernel
theorem dX9_event_72 : decode cX9_event 72 = .ok (.iastore, 1) := by decide +kernel
theorem dX9_event_73 : decode cX9_event 73 = .ok (.aload_n 0, 1) := by decide +kernel
theorem dX9_event_74 : decode cX9_event 74 = .ok (.getfield 43, 3) := by decide +kernel
theorem dX9_event_77 : decode cX9_event 77 = .ok (.aload_n 0, 1) := by decide +kernel
theorem dX9_event_78 : decode cX9_event 78 = .ok (.getfield 161, 3) := by decide +kernel
theorem dX9_event_81 : decode cX9_event 81 = .ok (.iload 4, 2) := by decide +kernel
theorem dX9_event_83 : decode cX9_event 83 = .ok (.iastore, 1) := by decide +kernel
theorem dX9_event_84 : decode cX9_event 84 = .ok (.aload_n 0, 1) := by decide +kernel
theorem dX9_event_85 : decode cX9_event 85 = .ok (.getfield 46, 3) := by decide +kernel
theorem dX9_event_88 : decode cX9_event 88 = .ok (.aload_n 0, 1) := by decide +kernel
theorem dX9_event_89 : decode cX9_event 89 = .ok (.getfield 161, 3) := by decide +kernel
theorem dX9_event_92 : decode cX9_event 92 = .ok (.iload 5, 2) := by decide +kernel
theorem dX9_event_94 : decode cX9_event 94 = .ok (.iastore, 1) := by decide +kernel
theorem dX9_event_95 : decode cX9_event 95 = .ok (.aload_n 0, 1) := by decide +kernel
theorem dX9_event_96 : decode cX9_event 96 = .ok (.dup, 1) := by decide +kernel
theorem dX9_event_97 : decode cX9_event 97 = .ok (.getfield 161, 3) := by decide +kernel
theorem dX9_event_100 : decode cX9_event 100 = .ok (.iconst 1, 1) := by decide +kernel
theorem dX9_event_101 : decode cX9_event 101 = .ok (.iadd, 1) := by decide +kernel
theorem dX9_event_102 : decode cX9_event 102 = .ok (.putfield 161, 3) := by decide +kernel
theorem dX9_event_105 : decode cX9_event 105 = .ok (.aload_n 0, 1) := by decide +kernel
theorem dX9_event_106 : decode cX9_event 106 = .ok (.getfield 161, 3) := by decide +kernel
theorem dX9_event_109 : decode cX9_event 109 = .ok (.ireturn, 1) := by decide +kernel
theorem dX9_remember_0 : decode cX9_remember 0 = .ok (.aload_n 0, 1) := by decide +kernel
theorem dX9_remember_1 : decode cX9_remember 1 = .ok (.aload_n 0, 1) := by decide +kernel
theorem dX9_remember_2 : decode cX9_remember 2 = .ok (.getfield 70, 3) := by decide +kernel
theorem dX9_remember_5 : decode cX9_remember 5 = .ok (.putfield 170, 3) := by decide +kernel
theorem dX9_remember_8 : decode cX9_remember 8 = .ok (.iconst 0, 1) := by decide +kernel
theorem dX9_remember_9 : decode cX9_remember 9 = .ok (.istore_n 1, 1) := by decide +kernel
theorem dX9_remember_10 : decode cX9_remember 10 = .ok (.iload_n 1, 1) := by decide +kernel
theorem dX9_remember_11 : decode cX9_remember 11 = .ok (.bipush 8, 2) := by decide +kernel
theorem dX9_remember_13 : decode cX9_remember 13 = .ok (.if_icmp .ge 68, 3) := by decide +kernel
theorem dX9_remember_16 : decode cX9_remember 16 = .ok (.aload_n 0, 1) := by decide +kernel
theorem dX9_remember_17 : decode cX9_remember 17 = .ok (.getfield 25, 3) := by decide +kernel
theorem dX9_remember_20 : decode cX9_remember 20 = .ok (.iload_n 1, 1) := by decide +kernel
theorem dX9_remember_21 : decode cX9_remember 21 = .ok (.aload_n 0, 1) := by decide +kernel
theorem dX9_remember_22 : decode cX9_remember 22 = .ok (.getfield 16, 3) := by decide +kernel
theorem dX9_remember_25 : decode cX9_remember 25 = .ok (.iload_n 1, 1) := by decide +kernel
theorem dX9_remember_26 : decode cX9_remember 26 = .ok (.iaload, 1) := by decide +kernel
theorem dX9_remember_27 : decode cX9_remember 27 = .ok (.iastore, 1) := by decide +kernel
theorem dX9_remember_28 : decode cX9_remember 28 = .ok (.aload_n 0, 1) := by decide +kernel
theorem dX9_remember_29 : decode cX9_remember 29 = .ok (.getfield 28, 3) := by decide +kernel
theorem dX9_remember_32 : decode cX9_remember 32 = .ok (.iload_n 1, 1) := by decide +kernel
theorem dX9_remember_33 : decode cX9_remember 33 = .ok (.aload_n 0, 1) := by decide +kernel
theorem dX9_remember_34 : decode cX9_remember 34 = .ok (.getfield 19, 3) := by decide +kernel
theorem dX9_remember_37 : decode cX9_remember 37 = .ok (.iload_n 1, 1) := by decide +kernel
theorem dX9_remember_38 : decode cX9_remember 38 = .ok (.iaload, 1) := by decide +kernel
theorem dX9_remember_39 : decode cX9_remember 39 = .ok (.iastore, 1) := by decide +kernel
theorem dX9_remember_40 : decode cX9_remember 40 = .ok (.aload_n 0, 1) := by decide +kernel
theorem dX9_remember_41 : decode cX9_remember 41 = .ok (.getfield 31, 3) := by decide +kernel
theorem dX9_remember_44 : decode cX9_remember 44 = .ok (.iload_n 1, 1) := by decide +kernel
theorem dX9_remember_45 : decode cX9_remember 45 = .ok (.aload_n 0, 1) := by decide +kernel
theorem dX9_remember_46 : decode cX9_remember 46 = .ok (.getfield 22, 3) := by decide +kernel
theorem dX9_remember_49 : decode cX9_remember 49 = .ok (.iload_n 1, 1) := by decide +kernel
theorem dX9_remember_50 : decode cX9_remember 50 = .ok (.iaload, 1) := by decide +kernel
theorem dX9_remember_51 : decode cX9_remember 51 = .ok (.iastore, 1) := by decide +kernel
theorem dX9_remember_52 : decode cX9_remember 52 = .ok (.aload_n 0, 1) := by decide +kernel
theorem dX9_remember_53 : decode cX9_remember 53 = .ok (.bipush 16, 2) := by decide +kernel
theorem dX9_remember_55 : decode cX9_remember 55 = .ok (.iload_n 1, 1) := by decide +kernel
theorem dX9_remember_56 : decode cX9_remember 56 = .ok (.iadd, 1) := by decide +kernel
theorem dX9_remember_57 : decode cX9_remember 57 = .ok (.iconst 0, 1) := by decide +kernel
theorem dX9_remember_58 : decode cX9_remember 58 = .ok (.iload_n 1, 1) := by decide +kernel
theorem dX9_remember_59 : decode cX9_remember 59 = .ok (.iadd, 1) := by decide +kernel
theorem dX9_remember_60 : decode cX9_remember 60 = .ok (.invokevirtual 101, 3) := by decide +kernel
theorem dX9_remember_63 : decode cX9_remember 63 = .ok (.aload_n 0, 1) := by decide +kernel
theorem dX9_remember_64 : decode cX9_remember 64 = .ok (.bipush 24, 2) := by decide +kernel
theorem dX9_remember_66 : decode cX9_remember 66 = .ok (.iload_n 1, 1) := by decide +kernel
theorem dX9_remember_67 : decode cX9_remember 67 = .ok (.iadd, 1) := by decide +kernel
theorem dX9_remember_68 : decode cX9_remember 68 = .ok (.bipush 8, 2) := by decide +kernel
theorem dX9_remember_70 : decode cX9_remember 70 = .ok (.iload_n 1, 1) := by decide +kernel
theorem dX9_remember_71 : decode cX9_remember 71 = .ok (.iadd, 1) := by decide +kernel
theorem dX9_remember_72 : decode cX9_remember 72 = .ok (.invokevirtual 101, 3) := by decide +kernel
theorem dX9_remember_75 : decode cX9_remember 75 = .ok (.iinc 1 1, 3) := by decide +kernel
theorem dX9_remember_78 : decode cX9_remember 78 = .ok (.goto (-68), 3) := by decide +kernel
theorem dX9_remember_81 : decode cX9_remember 81 = .ok (.return_, 1) := by decide +kernel
theorem dX9_putBack_0 : decode cX9_putBack 0 = .ok (.aload_n 0, 1) := by decide +kernel
theorem dX9_putBack_1 : decode cX9_putBack 1 = .ok (.aload_n 0, 1) := by decide +kernel
theorem dX9_putBack_2 : decode cX9_putBack 2 = .ok (.getfield 170, 3) := by decide +kernel
theorem dX9_putBack_5 : decode cX9_putBack 5 = .ok (.putfield 70, 3) := by decide +kernel
theorem dX9_putBack_8 : decode cX9_putBack 8 = .ok (.iconst 0, 1) := by decide +kernel
theorem dX9_putBack_9 : decode cX9_putBack 9 = .ok (.istore_n 1, 1) := by decide +kernel
theorem dX9_putBack_10 : decode cX9_putBack 10 = .ok (.iload_n 1, 1) := by decide +kernel
theorem dX9_putBack_11 : decode cX9_putBack 11 = .ok (.bipush 8, 2) := by decide +kernel
theorem dX9_putBack_13 : decode cX9_putBack 13 = .ok (.if_icmp .ge 68, 3) := by decide +kernel
theorem dX9_putBack_16 : decode cX9_putBack 16 = .ok (.aload_n 0, 1) := by decide +kernel
theorem dX9_putBack_17 : decode cX9_putBack 17 = .ok (.getfield 16, 3) := by decide +kernel
theorem dX9_putBack_20 : decode cX9_putBack 20 = .ok (.iload_n 1, 1) := by decide +kernel
theorem dX9_putBack_21 : decode cX9_putBack 21 = .ok (.aload_n 0, 1) := by decide +kernel
theorem dX9_putBack_22 : decode cX9_putBack 22 = .ok (.getfield 25, 3) := by decide +kernel
theorem dX9_putBack_25 : decode cX9_putBack 25 = .ok (.iload_n 1, 1) := by decide +kernel
theorem dX9_putBack_26 : decode cX9_putBack 26 = .ok (.iaload, 1) := by decide +kernel
theorem dX9_putBack_27 : decode cX9_putBack 27 = .ok (.iastore, 1) := by decide +kernel
theorem dX9_putBack_28 : decode cX9_putBack 28 = .ok (.aload_n 0, 1) := by decide +kernel
theorem dX9_putBack_29 : decode cX9_putBack 29 = .ok (.getfield 19, 3) := by decide +kernel
theorem dX9_putBack_32 : decode cX9_putBack 32 = .ok (.iload_n 1, 1) := by decide +kernel
theorem dX9_putBack_33 : decode cX9_putBack 33 = .ok (.aload_n 0, 1) := by decide +kernel
theorem dX9_putBack_34 : decode cX9_putBack 34 = .ok (.getfield 28, 3) := by decide +kernel
theorem dX9_putBack_37 : decode cX9_putBack 37 = .ok (.iload_n 1, 1) := by decide +kernel
theorem dX9_putBack_38 : decode cX9_putBack 38 = .ok (.iaload, 1) := by decide +kernel
theorem dX9_putBack_39 : decode cX9_putBack 39 = .ok (.iastore, 1) := by decide +kernel
theorem dX9_putBack_40 : decode cX9_putBack 40 = .ok (.aload_n 0, 1) := by decide +kernel
theorem dX9_putBack_41 : decode cX9_putBack 41 = .ok (.getfield 22, 3) := by decide +kernel
theorem dX9_putBack_44 : decode cX9_putBack 44 = .ok (.iload_n 1, 1) := by decide +kernel
theorem dX9_putBack_45 : decode cX9_putBack 45 = .ok (.aload_n 0, 1) := by decide +kernel
theorem dX9_putBack_46 : decode cX9_putBack 46 = .ok (.getfield 31, 3) := by decide +kernel
theorem dX9_putBack_49 : decode cX9_putBack 49 = .ok (.iload_n 1, 1) := by decide +kernel
theorem dX9_putBack_50 : decode cX9_putBack 50 = .ok (.iaload, 1) := by decide +kernel
theorem dX9_putBack_51 : decode cX9_putBack 51 = .ok (.iastore, 1) := by decide +kernel
theorem dX9_putBack_52 : decode cX9_putBack 52 = .ok (.aload_n 0, 1) := by decide +kernel
theorem dX9_putBack_53 : decode cX9_putBack 53 = .ok (.iconst 0, 1) := by decide +kernel
theorem dX9_putBack_54 : decode cX9_putBack 54 = .ok (.iload_n 1, 1) := by decide +kernel
theorem dX9_putBack_55 : decode cX9_putBack 55 = .ok (.iadd, 1) := by decide +kernel
theorem dX9_putBack_56 : decode cX9_putBack 56 = .ok (.bipush 16, 2) := by decide +kernel
theorem dX9_putBack_58 : decode cX9_putBack 58 = .ok (.iload_n 1, 1) := by decide +kernel
theorem dX9_putBack_59 : decode cX9_putBack 59 = .ok (.iadd, 1) := by decide +kernel
theorem dX9_putBack_60 : decode cX9_putBack 60 = .ok (.invokevirtual 101, 3) := by decide +kernel
theorem dX9_putBack_63 : decode cX9_putBack 63 = .ok (.aload_n 0, 1) := by decide +kernel
theorem dX9_putBack_64 : decode cX9_putBack 64 = .ok (.bipush 8, 2) := by decide +kernel
theorem dX9_putBack_66 : decode cX9_putBack 66 = .ok (.iload_n 1, 1) := by decide +kernel
theorem dX9_putBack_67 : decode cX9_putBack 67 = .ok (.iadd, 1) := by decide +kernel
theorem dX9_putBack_68 : decode cX9_putBack 68 = .ok (.bipush 24, 2) := by decide +kernel
theorem dX9_putBack_70 : decode cX9_putBack 70 = .ok (.iload_n 1, 1) := by decide +kernel
theorem dX9_putBack_71 : decode cX9_putBack 71 = .ok (.iadd, 1) := by decide +kernel
theorem dX9_putBack_72 : decode cX9_putBack 72 = .ok (.invokevirtual 101, 3) := by decide +kernel
theorem dX9_putBack_75 : decode cX9_putBack 75 = .ok (.iinc 1 1, 3) := by decide +kernel
theorem dX9_putBack_78 : decode cX9_putBack 78 = .ok (.goto (-68), 3) := by decide +kernel
theorem dX9_putBack_81 : decode cX9_putBack 81 = .ok (.return_, 1) := by decide +kernel
theorem dX9_become_0 : decode cX9_become 0 = .ok (.lload 4, 2) := by decide +kernel
theorem dX9_become_2 : decode cX9_become 2 = .ok (.iload 6, 2) := by decide +kernel
theorem dX9_become_4 : decode cX9_become 4 = .ok (.i2l, 1) := by decide +kernel
theorem dX9_become_5 : decode cX9_become 5 = .ok (.lrem, 1) := by decide +kernel
theorem dX9_become_6 : decode cX9_become 6 = .ok (.lconst 0, 1) := by decide +kernel
theorem dX9_become_7 : decode cX9_become 7 = .ok (.lcmp, 1) := by decide +kernel
theorem dX9_become_8 : decode cX9_become 8 = .ok (.ifCond .ne 41, 3) := by decide +kernel
theorem dX9_become_11 : decode cX9_become 11 = .ok (.lload_n 2, 1) := by decide +kernel
theorem dX9_become_12 : decode cX9_become 12 = .ok (.lconst 1, 1) := by decide +kernel
theorem dX9_become_13 : decode cX9_become 13 = .ok (.lcmp, 1) := by decide +kernel
theorem dX9_become_14 : decode cX9_become 14 = .ok (.ifCond .lt 35, 3) := by decide +kernel
theorem dX9_become_17 : decode cX9_become 17 = .ok (.lload_n 2, 1) := by decide +kernel
theorem dX9_become_18 : decode cX9_become 18 = .ok (.ldc2_w 173, 3) := by decide +kernel
theorem dX9_become_21 : decode cX9_become 21 = .ok (.lcmp, 1) := by decide +kernel
theorem dX9_become_22 : decode cX9_become 22 = .ok (.ifCond .gt 27, 3) := by decide +kernel
theorem dX9_become_25 : decode cX9_become 25 = .ok (.lload 4, 2) := by decide +kernel
theorem dX9_become_27 : decode cX9_become 27 = .ok (.iload 6, 2) := by decide +kernel
theorem dX9_become_29 : decode cX9_become 29 = .ok (.i2l, 1) := by decide +kernel
theorem dX9_become_30 : decode cX9_become 30 = .ok (.ldiv, 1) := by decide +kernel
theorem dX9_become_31 : decode cX9_become 31 = .ok (.lconst 1, 1) := by decide +kernel
theorem dX9_become_32 : decode cX9_become 32 = .ok (.lcmp, 1) := by decide +kernel
theorem dX9_become_33 : decode cX9_become 33 = .ok (.ifCond .lt 16, 3) := by decide +kernel
theorem dX9_become_36 : decode cX9_become 36 = .ok (.lload 4, 2) := by decide +kernel
theorem dX9_become_38 : decode cX9_become 38 = .ok (.iload 6, 2) := by decide +kernel
theorem dX9_become_40 : decode cX9_become 40 = .ok (.i2l, 1) := by decide +kernel
theorem dX9_become_41 : decode cX9_become 41 = .ok (.ldiv, 1) := by decide +kernel
theorem dX9_become_42 : decode cX9_become 42 = .ok (.ldc2_w 173, 3) := by decide +kernel
theorem dX9_become_45 : decode cX9_become 45 = .ok (.lcmp, 1) := by decide +kernel
theorem dX9_become_46 : decode cX9_become 46 = .ok (.ifCond .le 5, 3) := by decide +kernel
theorem dX9_become_49 : decode cX9_become 49 = .ok (.iconst 1, 1) := by decide +kernel
theorem dX9_become_50 : decode cX9_become 50 = .ok (.ireturn, 1) := by decide +kernel
theorem dX9_become_51 : decode cX9_become 51 = .ok (.aload_n 0, 1) := by decide +kernel
theorem dX9_become_52 : decode cX9_become 52 = .ok (.getfield 16, 3) := by decide +kernel
theorem dX9_become_55 : decode cX9_become 55 = .ok (.iload_n 1, 1) := by decide +kernel
theorem dX9_become_56 : decode cX9_become 56 = .ok (.lload_n 2, 1) := by decide +kernel
theorem dX9_become_57 : decode cX9_become 57 = .ok (.l2i, 1) := by decide +kernel
theorem dX9_become_58 : decode cX9_become 58 = .ok (.iastore, 1) := by decide +kernel
theorem dX9_become_59 : decode cX9_become 59 = .ok (.aload_n 0, 1) := by decide +kernel
theorem dX9_become_60 : decode cX9_become 60 = .ok (.getfield 19, 3) := by decide +kernel
theorem dX9_become_63 : decode cX9_become 63 = .ok (.iload_n 1, 1) := by decide +kernel
theorem dX9_become_64 : decode cX9_become 64 = .ok (.lload 4, 2) := by decide +kernel
theorem dX9_become_66 : decode cX9_become 66 = .ok (.iload 6, 2) := by decide +kernel
theorem dX9_become_68 : decode cX9_become 68 = .ok (.i2l, 1) := by decide +kernel
theorem dX9_become_69 : decode cX9_become 69 = .ok (.ldiv, 1) := by decide +kernel
theorem dX9_become_70 : decode cX9_become 70 = .ok (.l2i, 1) := by decide +kernel
theorem dX9_become_71 : decode cX9_become 71 = .ok (.iastore, 1) := by decide +kernel
theorem dX9_become_72 : decode cX9_become 72 = .ok (.iconst 0, 1) := by decide +kernel
theorem dX9_become_73 : decode cX9_become 73 = .ok (.ireturn, 1) := by decide +kernel
theorem dX9_rounded_0 : decode cX9_rounded 0 = .ok (.ldc2_w 175, 3) := by decide +kernel
theorem dX9_rounded_3 : decode cX9_rounded 3 = .ok (.lload_n 0, 1) := by decide +kernel
theorem dX9_rounded_4 : decode cX9_rounded 4 = .ok (.lmul, 1) := by decide +kernel
theorem dX9_rounded_5 : decode cX9_rounded 5 = .ok (.lload_n 2, 1) := by decide +kernel
theorem dX9_rounded_6 : decode cX9_rounded 6 = .ok (.ladd, 1) := by decide +kernel
theorem dX9_rounded_7 : decode cX9_rounded 7 = .ok (.ldc2_w 175, 3) := by decide +kernel
theorem dX9_rounded_10 : decode cX9_rounded 10 = .ok (.lload_n 2, 1) := by decide +kernel
theorem dX9_rounded_11 : decode cX9_rounded 11 = .ok (.lmul, 1) := by decide +kernel
theorem dX9_rounded_12 : decode cX9_rounded 12 = .ok (.ldiv, 1) := by decide +kernel
theorem dX9_rounded_13 : decode cX9_rounded 13 = .ok (.lreturn, 1) := by decide +kernel
theorem dX9_split_0 : decode cX9_split 0 = .ok (.iload_n 2, 1) := by decide +kernel
theorem dX9_split_1 : decode cX9_split 1 = .ok (.iconst 1, 1) := by decide +kernel
theorem dX9_split_2 : decode cX9_split 2 = .ok (.sipush 1000, 3) := by decide +kernel
theorem dX9_split_5 : decode cX9_split 5 = .ok (.invokestatic 142, 3) := by decide +kernel
theorem dX9_split_8 : decode cX9_split 8 = .ok (.ifCond .eq 14, 3) := by decide +kernel
theorem dX9_split_11 : decode cX9_split 11 = .ok (.iload_n 3, 1) := by decide +kernel
theorem dX9_split_12 : decode cX9_split 12 = .ok (.iconst 1, 1) := by decide +kernel
theorem dX9_split_13 : decode cX9_split 13 = .ok (.sipush 1000, 3) := by decide +kernel
theorem dX9_split_16 : decode cX9_split 16 = .ok (.invokestatic 142, 3) := by decide +kernel
theorem dX9_split_19 : decode cX9_split 19 = .ok (.ifCond .ne 5, 3) := by decide +kernel
theorem dX9_split_22 : decode cX9_split 22 = .ok (.iconst 1, 1) := by decide +kernel
theorem dX9_split_23 : decode cX9_split 23 = .ok (.ireturn, 1) := by decide +kernel
theorem dX9_split_24 : decode cX9_split 24 = .ok (.aload_n 0, 1) := by decide +kernel
theorem dX9_split_25 : decode cX9_split 25 = .ok (.iload_n 1, 1) := by decide +kernel
theorem dX9_split_26 : decode cX9_split 26 = .ok (.aload_n 0, 1) := by decide +kernel
theorem dX9_split_27 : decode cX9_split 27 = .ok (.getfield 16, 3) := by decide +kernel
theorem dX9_split_30 : decode cX9_split 30 = .ok (.iload_n 1, 1) := by decide +kernel
theorem dX9_split_31 : decode cX9_split 31 = .ok (.iaload, 1) := by decide +kernel
theorem dX9_split_32 : decode cX9_split 32 = .ok (.i2l, 1) := by decide +kernel
theorem dX9_split_33 : decode cX9_split 33 = .ok (.iload_n 3, 1) := by decide +kernel
theorem dX9_split_34 : decode cX9_split 34 = .ok (.i2l, 1) := by decide +kernel
theorem dX9_split_35 : decode cX9_split 35 = .ok (.lmul, 1) := by decide +kernel
theorem dX9_split_36 : decode cX9_split 36 = .ok (.iload_n 2, 1) := by decide +kernel
theorem dX9_split_37 : decode cX9_split 37 = .ok (.i2l, 1) := by decide +kernel
theorem dX9_split_38 : decode cX9_split 38 = .ok (.invokestatic 177, 3) := by decide +kernel
theorem dX9_split_41 : decode cX9_split 41 = .ok (.aload_n 0, 1) := by decide +kernel
theorem dX9_split_42 : decode cX9_split 42 = .ok (.getfield 19, 3) := by decide +kernel
theorem dX9_split_45 : decode cX9_split 45 = .ok (.iload_n 1, 1) := by decide +kernel
theorem dX9_split_46 : decode cX9_split 46 = .ok (.iaload, 1) := by decide +kernel
theorem dX9_split_47 : decode cX9_split 47 = .ok (.i2l, 1) := by decide +kernel
theorem dX9_split_48 : decode cX9_split 48 = .ok (.iload_n 2, 1) := by decide +kernel
theorem dX9_split_49 : decode cX9_split 49 = .ok (.i2l, 1) := by decide +kernel
theorem dX9_split_50 : decode cX9_split 50 = .ok (.lmul, 1) := by decide +kernel
theorem dX9_split_51 : decode cX9_split 51 = .ok (.iload_n 3, 1) := by decide +kernel
theorem dX9_split_52 : decode cX9_split 52 = .ok (.invokevirtual 181, 3) := by decide +kernel
theorem dX9_split_55 : decode cX9_split 55 = .ok (.ireturn, 1) := by decide +kernel
theorem dX9_rights_0 : decode cX9_rights 0 = .ok (.iload_n 2, 1) := by decide +kernel
theorem dX9_rights_1 : decode cX9_rights 1 = .ok (.iconst 1, 1) := by decide +kernel
theorem dX9_rights_2 : decode cX9_rights 2 = .ok (.sipush 1000, 3) := by decide +kernel
theorem dX9_rights_5 : decode cX9_rights 5 = .ok (.invokestatic 142, 3) := by decide +kernel
theorem dX9_rights_8 : decode cX9_rights 8 = .ok (.ifCond .eq 25, 3) := by decide +kernel
theorem dX9_rights_11 : decode cX9_rights 11 = .ok (.iload_n 3, 1) := by decide +kernel
theorem dX9_rights_12 : decode cX9_rights 12 = .ok (.iconst 1, 1) := by decide +kernel
theorem dX9_rights_13 : decode cX9_rights 13 = .ok (.sipush 1000, 3) := by decide +kernel
theorem dX9_rights_16 : decode cX9_rights 16 = .ok (.invokestatic 142, 3) := by decide +kernel
theorem dX9_rights_19 : decode cX9_rights 19 = .ok (.ifCond .eq 14, 3) := by decide +kernel
theorem dX9_rights_22 : decode cX9_rights 22 = .ok (.iload 4, 2) := by decide +kernel
theorem dX9_rights_24 : decode cX9_rights 24 = .ok (.iconst 1, 1) := by decide +kernel
theorem dX9_rights_25 : decode cX9_rights 25 = .ok (.ldc 141, 2) := by decide +kernel
theorem dX9_rights_27 : decode cX9_rights 27 = .ok (.invokestatic 142, 3) := by decide +kernel
theorem dX9_rights_30 : decode cX9_rights 30 = .ok (.ifCond .ne 5, 3) := by decide +kernel
theorem dX9_rights_33 : decode cX9_rights 33 = .ok (.iconst 1, 1) := by decide +kernel
theorem dX9_rights_34 : decode cX9_rights 34 = .ok (.ireturn, 1) := by decide +kernel
theorem dX9_rights_35 : decode cX9_rights 35 = .ok (.iload 4, 2) := by decide +kernel
theorem dX9_rights_37 : decode cX9_rights 37 = .ok (.aload_n 0, 1) := by decide +kernel
theorem dX9_rights_38 : decode cX9_rights 38 = .ok (.getfield 16, 3) := by decide +kernel
theorem dX9_rights_41 : decode cX9_rights 41 = .ok (.iload_n 1, 1) := by decide +kernel
theorem dX9_rights_42 : decode cX9_rights 42 = .ok (.iaload, 1) := by decide +kernel
theorem dX9_rights_43 : decode cX9_rights 43 = .ok (.if_icmp .lt 5, 3) := by decide +kernel
theorem dX9_rights_46 : decode cX9_rights 46 = .ok (.iconst 0, 1) := by decide +kernel
theorem dX9_rights_47 : decode cX9_rights 47 = .ok (.ireturn, 1) := by decide +kernel
theorem dX9_rights_48 : decode cX9_rights 48 = .ok (.aload_n 0, 1) := by decide +kernel
theorem dX9_rights_49 : decode cX9_rights 49 = .ok (.iload_n 1, 1) := by decide +kernel
theorem dX9_rights_50 : decode cX9_rights 50 = .ok (.aload_n 0, 1) := by decide +kernel
theorem dX9_rights_51 : decode cX9_rights 51 = .ok (.getfield 16, 3) := by decide +kernel
theorem dX9_rights_54 : decode cX9_rights 54 = .ok (.iload_n 1, 1) := by decide +kernel
theorem dX9_rights_55 : decode cX9_rights 55 = .ok (.iaload, 1) := by decide +kernel
theorem dX9_rights_56 : decode cX9_rights 56 = .ok (.i2l, 1) := by decide +kernel
theorem dX9_rights_57 : decode cX9_rights 57 = .ok (.iload_n 3, 1) := by decide +kernel
theorem dX9_rights_58 : decode cX9_rights 58 = .ok (.i2l, 1) := by decide +kernel
theorem dX9_rights_59 : decode cX9_rights 59 = .ok (.lmul, 1) := by decide +kernel
theorem dX9_rights_60 : decode cX9_rights 60 = .ok (.iload 4, 2) := by decide +kernel
theorem dX9_rights_62 : decode cX9_rights 62 = .ok (.i2l, 1) := by decide +kernel
theorem dX9_rights_63 : decode cX9_rights 63 = .ok (.iload_n 2, 1) := by decide +kernel
theorem dX9_rights_64 : decode cX9_rights 64 = .ok (.i2l, 1) := by decide +kernel
theorem dX9_rights_65 : decode cX9_rights 65 = .ok (.lmul, 1) := by decide +kernel
theorem dX9_rights_66 : decode cX9_rights 66 = .ok (.ladd, 1) := by decide +kernel
theorem dX9_rights_67 : decode cX9_rights 67 = .ok (.iload_n 2, 1) := by decide +kernel
theorem dX9_rights_68 : decode cX9_rights 68 = .ok (.iload_n 3, 1) := by decide +kernel
theorem dX9_rights_69 : decode cX9_rights 69 = .ok (.iadd, 1) := by decide +kernel
theorem dX9_rights_70 : decode cX9_rights 70 = .ok (.i2l, 1) := by decide +kernel
theorem dX9_rights_71 : decode cX9_rights 71 = .ok (.invokestatic 177, 3) := by decide +kernel
theorem dX9_rights_74 : decode cX9_rights 74 = .ok (.aload_n 0, 1) := by decide +kernel
theorem dX9_rights_75 : decode cX9_rights 75 = .ok (.getfield 19, 3) := by decide +kernel
theorem dX9_rights_78 : decode cX9_rights 78 = .ok (.iload_n 1, 1) := by decide +kernel
theorem dX9_rights_79 : decode cX9_rights 79 = .ok (.iaload, 1) := by decide +kernel
theorem dX9_rights_80 : decode cX9_rights 80 = .ok (.i2l, 1) := by decide +kernel
theorem dX9_rights_81 : decode cX9_rights 81 = .ok (.iload_n 2, 1) := by decide +kernel
theorem dX9_rights_82 : decode cX9_rights 82 = .ok (.iload_n 3, 1) := by decide +kernel
theorem dX9_rights_83 : decode cX9_rights 83 = .ok (.iadd, 1) := by decide +kernel
theorem dX9_rights_84 : decode cX9_rights 84 = .ok (.i2l, 1) := by decide +kernel
theorem dX9_rights_85 : decode cX9_rights 85 = .ok (.lmul, 1) := by decide +kernel
theorem dX9_rights_86 : decode cX9_rights 86 = .ok (.iload_n 3, 1) := by decide +kernel
theorem dX9_rights_87 : decode cX9_rights 87 = .ok (.invokevirtual 181, 3) := by decide +kernel
theorem dX9_rights_90 : decode cX9_rights 90 = .ok (.ireturn, 1) := by decide +kernel
theorem dX9_dividend_0 : decode cX9_dividend 0 = .ok (.iload_n 2, 1) := by decide +kernel
theorem dX9_dividend_1 : decode cX9_dividend 1 = .ok (.iconst 1, 1) := by decide +kernel
theorem dX9_dividend_2 : decode cX9_dividend 2 = .ok (.if_icmp .lt 13, 3) := by decide +kernel
theorem dX9_dividend_5 : decode cX9_dividend 5 = .ok (.iload_n 2, 1) := by decide +kernel
theorem dX9_dividend_6 : decode cX9_dividend 6 = .ok (.aload_n 0, 1) := by decide +kernel
theorem dX9_dividend_7 : decode cX9_dividend 7 = .ok (.getfield 16, 3) := by decide +kernel
theorem dX9_dividend_10 : decode cX9_dividend 10 = .ok (.iload_n 1, 1) := by decide +kernel
theorem dX9_dividend_11 : decode cX9_dividend 11 = .ok (.iaload, 1) := by decide +kernel
theorem dX9_dividend_12 : decode cX9_dividend 12 = .ok (.if_icmp .lt 5, 3) := by decide +kernel
theorem dX9_dividend_15 : decode cX9_dividend 15 = .ok (.iconst 1, 1) := by decide +kernel
theorem dX9_dividend_16 : decode cX9_dividend 16 = .ok (.ireturn, 1) := by decide +kernel
theorem dX9_dividend_17 : decode cX9_dividend 17 = .ok (.aload_n 0, 1) := by decide +kernel
theorem dX9_dividend_18 : decode cX9_dividend 18 = .ok (.getfield 16, 3) := by decide +kernel
theorem dX9_dividend_21 : decode cX9_dividend 21 = .ok (.iload_n 1, 1) := by decide +kernel
theorem dX9_dividend_22 : decode cX9_dividend 22 = .ok (.dup2, 1) := by decide +kernel
theorem dX9_dividend_23 : decode cX9_dividend 23 = .ok (.iaload, 1) := by decide +kernel
theorem dX9_dividend_24 : decode cX9_dividend 24 = .ok (.iload_n 2, 1) := by decide +kernel
theorem dX9_dividend_25 : decode cX9_dividend 25 = .ok (.isub, 1) := by decide +kernel
theorem dX9_dividend_26 : decode cX9_dividend 26 = .ok (.iastore, 1) := by decide +kernel
theorem dX9_dividend_27 : decode cX9_dividend 27 = .ok (.iconst 0, 1) := by decide +kernel
theorem dX9_dividend_28 : decode cX9_dividend 28 = .ok (.ireturn, 1) := by decide +kernel
theorem dX9_count_0 : decode cX9_count 0 = .ok (.iconst 0, 1) := by decide +kernel
theorem dX9_count_1 : decode cX9_count 1 = .ok (.istore_n 2, 1) := by decide +kernel
theorem dX9_count_2 : decode cX9_count 2 = .ok (.iconst 0, 1) := by decide +kernel
theorem dX9_count_3 : decode cX9_count 3 = .ok (.istore_n 3, 1) := by decide +kernel
theorem dX9_count_4 : decode cX9_count 4 = .ok (.iload_n 3, 1) := by decide +kernel
theorem dX9_count_5 : decode cX9_count 5 = .ok (.bipush 8, 2) := by decide +kernel
theorem dX9_count_7 : decode cX9_count 7 = .ok (.if_icmp .ge 17, 3) := by decide +kernel
theorem dX9_count_10 : decode cX9_count 10 = .ok (.iload_n 2, 1) := by decide +kernel
theorem dX9_count_11 : decode cX9_count 11 = .ok (.iload_n 1, 1) := by decide +kernel
theorem dX9_count_12 : decode cX9_count 12 = .ok (.iload_n 3, 1) := by decide +kernel
theorem dX9_count_13 : decode cX9_count 13 = .ok (.ishr, 1) := by decide +kernel
theorem dX9_count_14 : decode cX9_count 14 = .ok (.iconst 1, 1) := by decide +kernel
theorem dX9_count_15 : decode cX9_count 15 = .ok (.iand, 1) := by decide +kernel
theorem dX9_count_16 : decode cX9_count 16 = .ok (.iadd, 1) := by decide +kernel
theorem dX9_count_17 : decode cX9_count 17 = .ok (.istore_n 2, 1) := by decide +kernel
theorem dX9_count_18 : decode cX9_count 18 = .ok (.iinc 3 1, 3) := by decide +kernel
theorem dX9_count_21 : decode cX9_count 21 = .ok (.goto (-17), 3) := by decide +kernel
theorem dX9_count_24 : decode cX9_count 24 = .ok (.iload_n 2, 1) := by decide +kernel
theorem dX9_count_25 : decode cX9_count 25 = .ok (.ireturn, 1) := by decide +kernel
theorem dX9_cap_0 : decode cX9_cap 0 = .ok (.iload_n 1, 1) := by decide +kernel
theorem dX9_cap_1 : decode cX9_cap 1 = .ok (.iconst 1, 1) := by decide +kernel
theorem dX9_cap_2 : decode cX9_cap 2 = .ok (.bipush 100, 2) := by decide +kernel
theorem dX9_cap_4 : decode cX9_cap 4 = .ok (.invokestatic 142, 3) := by decide +kernel
theorem dX9_cap_7 : decode cX9_cap 7 = .ok (.ifCond .eq 22, 3) := by decide +kernel
theorem dX9_cap_10 : decode cX9_cap 10 = .ok (.iload_n 1, 1) := by decide +kernel
theorem dX9_cap_11 : decode cX9_cap 11 = .ok (.i2l, 1) := by decide +kernel
theorem dX9_cap_12 : decode cX9_cap 12 = .ok (.aload_n 0, 1) := by decide +kernel
theorem dX9_cap_13 : decode cX9_cap 13 = .ok (.aload_n 0, 1) := by decide +kernel
theorem dX9_cap_14 : decode cX9_cap 14 = .ok (.getfield 70, 3) := by decide +kernel
theorem dX9_cap_17 : decode cX9_cap 17 = .ok (.invokevirtual 185, 3) := by decide +kernel
theorem dX9_cap_20 : decode cX9_cap 20 = .ok (.i2l, 1) := by decide +kernel
theorem dX9_cap_21 : decode cX9_cap 21 = .ok (.lmul, 1) := by decide +kernel
theorem dX9_cap_22 : decode cX9_cap 22 = .ok (.ldc2_w 188, 3) := by decide +kernel
theorem dX9_cap_25 : decode cX9_cap 25 = .ok (.lcmp, 1) := by decide +kernel
theorem dX9_cap_26 : decode cX9_cap 26 = .ok (.ifCond .ge 5, 3) := by decide +kernel
theorem dX9_cap_29 : decode cX9_cap 29 = .ok (.iconst 2, 1) := by decide +kernel
theorem dX9_cap_30 : decode cX9_cap 30 = .ok (.ireturn, 1) := by decide +kernel
theorem dX9_cap_31 : decode cX9_cap 31 = .ok (.iconst 0, 1) := by decide +kernel
theorem dX9_cap_32 : decode cX9_cap 32 = .ok (.istore_n 2, 1) := by decide +kernel
theorem dX9_cap_33 : decode cX9_cap 33 = .ok (.iconst 1, 1) := by decide +kernel
theorem dX9_cap_34 : decode cX9_cap 34 = .ok (.istore_n 3, 1) := by decide +kernel
theorem dX9_cap_35 : decode cX9_cap 35 = .ok (.lconst 0, 1) := by decide +kernel
theorem dX9_cap_36 : decode cX9_cap 36 = .ok (.lstore 4, 2) := by decide +kernel
theorem dX9_cap_38 : decode cX9_cap 38 = .ok (.iload_n 3, 1) := by decide +kernel
theorem dX9_cap_39 : decode cX9_cap 39 = .ok (.ifCond .eq 182, 3) := by decide +kernel
theorem dX9_cap_42 : decode cX9_cap 42 = .ok (.lconst 0, 1) := by decide +kernel
theorem dX9_cap_43 : decode cX9_cap 43 = .ok (.lstore 4, 2) := by decide +kernel
theorem dX9_cap_45 : decode cX9_cap 45 = .ok (.iconst 0, 1) := by decide +kernel
theorem dX9_cap_46 : decode cX9_cap 46 = .ok (.istore 6, 2) := by decide +kernel
theorem dX9_cap_48 : decode cX9_cap 48 = .ok (.iload 6, 2) := by decide +kernel
theorem dX9_cap_50 : decode cX9_cap 50 = .ok (.bipush 8, 2) := by decide +kernel
theorem dX9_cap_52 : decode cX9_cap 52 = .ok (.if_icmp .ge 42, 3) := by decide +kernel
theorem dX9_cap_55 : decode cX9_cap 55 = .ok (.lload 4, 2) := by decide +kernel
theorem dX9_cap_57 : decode cX9_cap 57 = .ok (.aload_n 0, 1) := by decide +kernel
theorem dX9_cap_58 : decode cX9_cap 58 = .ok (.iload 6, 2) := by decide +kernel
theorem dX9_cap_60 : decode cX9_cap 60 = .ok (.invokevirtual 124, 3) := by decide +kernel
theorem dX9_cap_63 : decode cX9_cap 63 = .ok (.ifCond .eq 21, 3) := by decide +kernel
theorem dX9_cap_66 : decode cX9_cap 66 = .ok (.iload_n 2, 1) := by decide +kernel
theorem dX9_cap_67 : decode cX9_cap 67 = .ok (.iload 6, 2) := by decide +kernel
theorem dX9_cap_69 : decode cX9_cap 69 = .ok (.ishr, 1) := by decide +kernel
theorem dX9_cap_70 : decode cX9_cap 70 = .ok (.iconst 1, 1) := by decide +kernel
theorem dX9_cap_71 : decode cX9_cap 71 = .ok (.iand, 1) := by decide +kernel
theorem dX9_cap_72 : decode cX9_cap 72 = .ok (.ifCond .ne 12, 3) := by decide +kernel
theorem dX9_cap_75 : decode cX9_cap 75 = .ok (.aload_n 0, 1) := by decide +kernel
theorem dX9_cap_76 : decode cX9_cap 76 = .ok (.iload 6, 2) := by decide +kernel
theorem dX9_cap_78 : decode cX9_cap 78 = .ok (.invokevirtual 127, 3) := by decide +kernel
theorem dX9_cap_81 : decode cX9_cap 81 = .ok (.goto 4, 3) := by decide +kernel
theorem dX9_cap_84 : decode cX9_cap 84 = .ok (.lconst 0, 1) := by decide +kernel
theorem dX9_cap_85 : decode cX9_cap 85 = .ok (.ladd, 1) := by decide +kernel
theorem dX9_cap_86 : decode cX9_cap 86 = .ok (.lstore 4, 2) := by decide +kernel
theorem dX9_cap_88 : decode cX9_cap 88 = .ok (.iinc 6 1, 3) := by decide +kernel
theorem dX9_cap_91 : decode cX9_cap 91 = .ok (.goto (-43), 3) := by decide +kernel
theorem dX9_cap_94 : decode cX9_cap 94 = .ok (.bipush 100, 2) := by decide +kernel
theorem dX9_cap_96 : decode cX9_cap 96 = .ok (.iload_n 1, 1) := by decide +kernel
theorem dX9_cap_97 : decode cX9_cap 97 = .ok (.aload_n 0, 1) := by decide +kernel
theorem dX9_cap_98 : decode cX9_cap 98 = .ok (.iload_n 2, 1) := by decide +kernel
theorem dX9_cap_99 : decode cX9_cap 99 = .ok (.invokevirtual 185, 3) := by decide +kernel
theorem dX9_cap_102 : decode cX9_cap 102 = .ok (.imul, 1) := by decide +kernel
theorem dX9_cap_103 : decode cX9_cap 103 = .ok (.isub, 1) := by decide +kernel
theorem dX9_cap_104 : decode cX9_cap 104 = .ok (.istore 6, 2) := by decide +kernel
theorem dX9_cap_106 : decode cX9_cap 106 = .ok (.iconst 0, 1) := by decide +kernel
theorem dX9_cap_107 : decode cX9_cap 107 = .ok (.istore 7, 2) := by decide +kernel
theorem dX9_cap_109 : decode cX9_cap 109 = .ok (.iconst 0, 1) := by decide +kernel
theorem dX9_cap_110 : decode cX9_cap 110 = .ok (.istore 8, 2) := by decide +kernel
theorem dX9_cap_112 : decode cX9_cap 112 = .ok (.iload 8, 2) := by decide +kernel
theorem dX9_cap_114 : decode cX9_cap 114 = .ok (.bipush 8, 2) := by decide +kernel
theorem dX9_cap_116 : decode cX9_cap 116 = .ok (.if_icmp .ge 86, 3) := by decide +kernel
theorem dX9_cap_119 : decode cX9_cap 119 = .ok (.aload_n 0, 1) := by decide +kernel
theorem dX9_cap_120 : decode cX9_cap 120 = .ok (.iload 8, 2) := by decide +kernel
theorem dX9_cap_122 : decode cX9_cap 122 = .ok (.invokevirtual 124, 3) := by decide +kernel
theorem dX9_cap_125 : decode cX9_cap 125 = .ok (.ifCond .eq 71, 3) := by decide +kernel
theorem dX9_cap_128 : decode cX9_cap 128 = .ok (.iload_n 2, 1) := by decide +kernel
theorem dX9_cap_129 : decode cX9_cap 129 = .ok (.iload 8, 2) := by decide +kernel
theorem dX9_cap_131 : decode cX9_cap 131 = .ok (.ishr, 1) := by decide +kernel
theorem dX9_cap_132 : decode cX9_cap 132 = .ok (.iconst 1, 1) := by decide +kernel
theorem dX9_cap_133 : decode cX9_cap 133 = .ok (.iand, 1) := by decide +kernel
theorem dX9_cap_134 : decode cX9_cap 134 = .ok (.ifCond .ne 62, 3) := by decide +kernel
theorem dX9_cap_137 : decode cX9_cap 137 = .ok (.aload_n 0, 1) := by decide +kernel
theorem dX9_cap_138 : decode cX9_cap 138 = .ok (.bipush 40, 2) := by decide +kernel
theorem dX9_cap_140 : decode cX9_cap 140 = .ok (.aload_n 0, 1) := by decide +kernel
theorem dX9_cap_141 : decode cX9_cap 141 = .ok (.iload 8, 2) := by decide +kernel
theorem dX9_cap_143 : decode cX9_cap 143 = .ok (.invokevirtual 127, 3) := by decide +kernel
theorem dX9_cap_146 : decode cX9_cap 146 = .ok (.invokevirtual 62, 3) := by decide +kernel
theorem dX9_cap_149 : decode cX9_cap 149 = .ok (.aload_n 0, 1) := by decide +kernel
theorem dX9_cap_150 : decode cX9_cap 150 = .ok (.bipush 40, 2) := by decide +kernel
theorem dX9_cap_152 : decode cX9_cap 152 = .ok (.iload 6, 2) := by decide +kernel
theorem dX9_cap_154 : decode cX9_cap 154 = .ok (.invokevirtual 158, 3) := by decide +kernel
theorem dX9_cap_157 : decode cX9_cap 157 = .ok (.aload_n 0, 1) := by decide +kernel
theorem dX9_cap_158 : decode cX9_cap 158 = .ok (.bipush 41, 2) := by decide +kernel
theorem dX9_cap_160 : decode cX9_cap 160 = .ok (.lload 4, 2) := by decide +kernel
theorem dX9_cap_162 : decode cX9_cap 162 = .ok (.invokevirtual 62, 3) := by decide +kernel
theorem dX9_cap_165 : decode cX9_cap 165 = .ok (.aload_n 0, 1) := by decide +kernel
theorem dX9_cap_166 : decode cX9_cap 166 = .ok (.bipush 41, 2) := by decide +kernel
theorem dX9_cap_168 : decode cX9_cap 168 = .ok (.iload_n 1, 1) := by decide +kernel
theorem dX9_cap_169 : decode cX9_cap 169 = .ok (.invokevirtual 158, 3) := by decide +kernel
theorem dX9_cap_172 : decode cX9_cap 172 = .ok (.iload 7, 2) := by decide +kernel
theorem dX9_cap_174 : decode cX9_cap 174 = .ok (.aload_n 0, 1) := by decide +kernel
theorem dX9_cap_175 : decode cX9_cap 175 = .ok (.bipush 40, 2) := by decide +kernel
theorem dX9_cap_177 : decode cX9_cap 177 = .ok (.bipush 41, 2) := by decide +kernel
theorem dX9_cap_179 : decode cX9_cap 179 = .ok (.invokevirtual 95, 3) := by decide +kernel
theorem dX9_cap_182 : decode cX9_cap 182 = .ok (.ifCond .le 10, 3) := by decide +kernel
theorem dX9_cap_185 : decode cX9_cap 185 = .ok (.iconst 1, 1) := by decide +kernel
theorem dX9_cap_186 : decode cX9_cap 186 = .ok (.iload 8, 2) := by decide +kernel
theorem dX9_cap_188 : decode cX9_cap 188 = .ok (.ishl, 1) := by decide +kernel
theorem dX9_cap_189 : decode cX9_cap 189 = .ok (.goto 4, 3) := by decide +kernel
theorem dX9_cap_192 : decode cX9_cap 192 = .ok (.iconst 0, 1) := by decide +kernel
theorem dX9_cap_193 : decode cX9_cap 193 = .ok (.ior, 1) := by decide +kernel
theorem dX9_cap_194 : decode cX9_cap 194 = .ok (.istore 7, 2) := by decide +kernel
theorem dX9_cap_196 : decode cX9_cap 196 = .ok (.iinc 8 1, 3) := by decide +kernel
theorem dX9_cap_199 : decode cX9_cap 199 = .ok (.goto (-87), 3) := by decide +kernel
theorem dX9_cap_202 : decode cX9_cap 202 = .ok (.iload_n 2, 1) := by decide +kernel
theorem dX9_cap_203 : decode cX9_cap 203 = .ok (.iload 7, 2) := by decide +kernel
theorem dX9_cap_205 : decode cX9_cap 205 = .ok (.ior, 1) := by decide +kernel
theorem dX9_cap_206 : decode cX9_cap 206 = .ok (.istore_n 2, 1) := by decide +kernel
theorem dX9_cap_207 : decode cX9_cap 207 = .ok (.iload 7, 2) := by decide +kernel
theorem dX9_cap_209 : decode cX9_cap 209 = .ok (.ifCond .eq 7, 3) := by decide +kernel
theorem dX9_cap_212 : decode cX9_cap 212 = .ok (.iconst 1, 1) := by decide +kernel
theorem dX9_cap_213 : decode cX9_cap 213 = .ok (.goto 4, 3) := by decide +kernel
theorem dX9_cap_216 : decode cX9_cap 216 = .ok (.iconst 0, 1) := by decide +kernel
theorem dX9_cap_217 : decode cX9_cap 217 = .ok (.istore_n 3, 1) := by decide +kernel
theorem dX9_cap_218 : decode cX9_cap 218 = .ok (.goto (-180), 3) := by decide +kernel
theorem dX9_cap_221 : decode cX9_cap 221 = .ok (.bipush 100, 2) := by decide +kernel
theorem dX9_cap_223 : decode cX9_cap 223 = .ok (.iload_n 1, 1) := by decide +kernel
theorem dX9_cap_224 : decode cX9_cap 224 = .ok (.aload_n 0, 1) := by decide +kernel
theorem dX9_cap_225 : decode cX9_cap 225 = .ok (.iload_n 2, 1) := by decide +kernel
theorem dX9_cap_226 : decode cX9_cap 226 = .ok (.invokevirtual 185, 3) := by decide +kernel
theorem dX9_cap_229 : decode cX9_cap 229 = .ok (.imul, 1) := by decide +kernel
theorem dX9_cap_230 : decode cX9_cap 230 = .ok (.isub, 1) := by decide +kernel
theorem dX9_cap_231 : decode cX9_cap 231 = .ok (.istore 6, 2) := by decide +kernel
theorem dX9_cap_233 : decode cX9_cap 233 = .ok (.iconst 0, 1) := by decide +kernel
theorem dX9_cap_234 : decode cX9_cap 234 = .ok (.istore 7, 2) := by decide +kernel
theorem dX9_cap_236 : decode cX9_cap 236 = .ok (.iload 7, 2) := by decide +kernel
theorem dX9_cap_238 : decode cX9_cap 238 = .ok (.bipush 8, 2) := by decide +kernel
theorem dX9_cap_240 : decode cX9_cap 240 = .ok (.if_icmp .ge 96, 3) := by decide +kernel
theorem dX9_cap_243 : decode cX9_cap 243 = .ok (.aload_n 0, 1) := by decide +kernel
theorem dX9_cap_244 : decode cX9_cap 244 = .ok (.iconst 0, 1) := by decide +kernel
theorem dX9_cap_245 : decode cX9_cap 245 = .ok (.iload 7, 2) := by decide +kernel
theorem dX9_cap_247 : decode cX9_cap 247 = .ok (.iadd, 1) := by decide +kernel
theorem dX9_cap_248 : decode cX9_cap 248 = .ok (.lconst 1, 1) := by decide +kernel
theorem dX9_cap_249 : decode cX9_cap 249 = .ok (.invokevirtual 62, 3) := by decide +kernel
theorem dX9_cap_252 : decode cX9_cap 252 = .ok (.aload_n 0, 1) := by decide +kernel
theorem dX9_cap_253 : decode cX9_cap 253 = .ok (.bipush 8, 2) := by decide +kernel
theorem dX9_cap_255 : decode cX9_cap 255 = .ok (.iload 7, 2) := by decide +kernel
theorem dX9_cap_257 : decode cX9_cap 257 = .ok (.iadd, 1) := by decide +kernel
theorem dX9_cap_258 : decode cX9_cap 258 = .ok (.lconst 1, 1) := by decide +kernel
theorem dX9_cap_259 : decode cX9_cap 259 = .ok (.invokevirtual 62, 3) := by decide +kernel
theorem dX9_cap_262 : decode cX9_cap 262 = .ok (.iload_n 2, 1) := by decide +kernel
theorem dX9_cap_263 : decode cX9_cap 263 = .ok (.iload 7, 2) := by decide +kernel
theorem dX9_cap_265 : decode cX9_cap 265 = .ok (.ishr, 1) := by decide +kernel
theorem dX9_cap_266 : decode cX9_cap 266 = .ok (.iconst 1, 1) := by decide +kernel
theorem dX9_cap_267 : decode cX9_cap 267 = .ok (.iand, 1) := by decide +kernel
theorem dX9_cap_268 : decode cX9_cap 268 = .ok (.iconst 1, 1) := by decide +kernel
theorem dX9_cap_269 : decode cX9_cap 269 = .ok (.if_icmp .ne 61, 3) := by decide +kernel
theorem dX9_cap_272 : decode cX9_cap 272 = .ok (.aload_n 0, 1) := by decide +kernel
theorem dX9_cap_273 : decode cX9_cap 273 = .ok (.iconst 0, 1) := by decide +kernel
theorem dX9_cap_274 : decode cX9_cap 274 = .ok (.iload 7, 2) := by decide +kernel
theorem dX9_cap_276 : decode cX9_cap 276 = .ok (.iadd, 1) := by decide +kernel
theorem dX9_cap_277 : decode cX9_cap 277 = .ok (.lload 4, 2) := by decide +kernel
theorem dX9_cap_279 : decode cX9_cap 279 = .ok (.invokevirtual 62, 3) := by decide +kernel
theorem dX9_cap_282 : decode cX9_cap 282 = .ok (.aload_n 0, 1) := by decide +kernel
theorem dX9_cap_283 : decode cX9_cap 283 = .ok (.iconst 0, 1) := by decide +kernel
theorem dX9_cap_284 : decode cX9_cap 284 = .ok (.iload 7, 2) := by decide +kernel
theorem dX9_cap_286 : decode cX9_cap 286 = .ok (.iadd, 1) := by decide +kernel
theorem dX9_cap_287 : decode cX9_cap 287 = .ok (.iload_n 1, 1) := by decide +kernel
theorem dX9_cap_288 : decode cX9_cap 288 = .ok (.invokevirtual 158, 3) := by decide +kernel
theorem dX9_cap_291 : decode cX9_cap 291 = .ok (.aload_n 0, 1) := by decide +kernel
theorem dX9_cap_292 : decode cX9_cap 292 = .ok (.bipush 8, 2) := by decide +kernel
theorem dX9_cap_294 : decode cX9_cap 294 = .ok (.iload 7, 2) := by decide +kernel
theorem dX9_cap_296 : decode cX9_cap 296 = .ok (.iadd, 1) := by decide +kernel
theorem dX9_cap_297 : decode cX9_cap 297 = .ok (.aload_n 0, 1) := by decide +kernel
theorem dX9_cap_298 : decode cX9_cap 298 = .ok (.iload 7, 2) := by decide +kernel
theorem dX9_cap_300 : decode cX9_cap 300 = .ok (.invokevirtual 127, 3) := by decide +kernel
theorem dX9_cap_303 : decode cX9_cap 303 = .ok (.invokevirtual 62, 3) := by decide +kernel
theorem dX9_cap_306 : decode cX9_cap 306 = .ok (.aload_n 0, 1) := by decide +kernel
theorem dX9_cap_307 : decode cX9_cap 307 = .ok (.bipush 8, 2) := by decide +kernel
theorem dX9_cap_309 : decode cX9_cap 309 = .ok (.iload 7, 2) := by decide +kernel
theorem dX9_cap_311 : decode cX9_cap 311 = .ok (.iadd, 1) := by decide +kernel
theorem dX9_cap_312 : decode cX9_cap 312 = .ok (.iload 6, 2) := by decide +kernel
theorem dX9_cap_314 : decode cX9_cap 314 = .ok (.invokevirtual 158, 3) := by decide +kernel
theorem dX9_cap_317 : decode cX9_cap 317 = .ok (.aload_n 0, 1) := by decide +kernel
theorem dX9_cap_318 : decode cX9_cap 318 = .ok (.iconst 0, 1) := by decide +kernel
theorem dX9_cap_319 : decode cX9_cap 319 = .ok (.iload 7, 2) := by decide +kernel
theorem dX9_cap_321 : decode cX9_cap 321 = .ok (.iadd, 1) := by decide +kernel
theorem dX9_cap_322 : decode cX9_cap 322 = .ok (.bipush 8, 2) := by decide +kernel
theorem dX9_cap_324 : decode cX9_cap 324 = .ok (.iload 7, 2) := by decide +kernel
theorem dX9_cap_326 : decode cX9_cap 326 = .ok (.iadd, 1) := by decide +kernel
theorem dX9_cap_327 : decode cX9_cap 327 = .ok (.invokevirtual 138, 3) := by decide +kernel
theorem dX9_cap_330 : decode cX9_cap 330 = .ok (.iinc 7 1, 3) := by decide +kernel
theorem dX9_cap_333 : decode cX9_cap 333 = .ok (.goto (-97), 3) := by decide +kernel
theorem dX9_cap_336 : decode cX9_cap 336 = .ok (.iconst 0, 1) := by decide +kernel
theorem dX9_cap_337 : decode cX9_cap 337 = .ok (.ireturn, 1) := by decide +kernel
theorem dX9_change_0 : decode cX9_change 0 = .ok (.iload_n 1, 1) := by decide +kernel
theorem dX9_change_1 : decode cX9_change 1 = .ok (.tableswitch 189 0 7 #[47, 56, 67, 67, 74, 110, 151, 170], 47) := by decide +kernel
theorem dX9_change_48 : decode cX9_change 48 = .ok (.aload_n 0, 1) := by decide +kernel
theorem dX9_change_49 : decode cX9_change 49 = .ok (.iload_n 2, 1) := by decide +kernel
theorem dX9_change_50 : decode cX9_change 50 = .ok (.iload_n 3, 1) := by decide +kernel
theorem dX9_change_51 : decode cX9_change 51 = .ok (.iload 4, 2) := by decide +kernel
theorem dX9_change_53 : decode cX9_change 53 = .ok (.invokevirtual 190, 3) := by decide +kernel
theorem dX9_change_56 : decode cX9_change 56 = .ok (.ireturn, 1) := by decide +kernel
theorem dX9_change_57 : decode cX9_change 57 = .ok (.aload_n 0, 1) := by decide +kernel
theorem dX9_change_58 : decode cX9_change 58 = .ok (.iload_n 2, 1) := by decide +kernel
theorem dX9_change_59 : decode cX9_change 59 = .ok (.iload_n 3, 1) := by decide +kernel
theorem dX9_change_60 : decode cX9_change 60 = .ok (.iload 4, 2) := by decide +kernel
theorem dX9_change_62 : decode cX9_change 62 = .ok (.iload 5, 2) := by decide +kernel
theorem dX9_change_64 : decode cX9_change 64 = .ok (.invokevirtual 194, 3) := by decide +kernel
theorem dX9_change_67 : decode cX9_change 67 = .ok (.ireturn, 1) := by decide +kernel
theorem dX9_change_68 : decode cX9_change 68 = .ok (.aload_n 0, 1) := by decide +kernel
theorem dX9_change_69 : decode cX9_change 69 = .ok (.iload_n 2, 1) := by decide +kernel
theorem dX9_change_70 : decode cX9_change 70 = .ok (.iload_n 3, 1) := by decide +kernel
theorem dX9_change_71 : decode cX9_change 71 = .ok (.invokevirtual 198, 3) := by decide +kernel
theorem dX9_change_74 : decode cX9_change 74 = .ok (.ireturn, 1) := by decide +kernel
theorem dX9_change_75 : decode cX9_change 75 = .ok (.aload_n 0, 1) := by decide +kernel
theorem dX9_change_76 : decode cX9_change 76 = .ok (.iload_n 2, 1) := by decide +kernel
theorem dX9_change_77 : decode cX9_change 77 = .ok (.invokevirtual 124, 3) := by decide +kernel
theorem dX9_change_80 : decode cX9_change 80 = .ok (.ifCond .eq 15, 3) := by decide +kernel
theorem dX9_change_83 : decode cX9_change 83 = .ok (.aload_n 0, 1) := by decide +kernel
theorem dX9_change_84 : decode cX9_change 84 = .ok (.aload_n 0, 1) := by decide +kernel
theorem dX9_change_85 : decode cX9_change 85 = .ok (.getfield 70, 3) := by decide +kernel
theorem dX9_change_88 : decode cX9_change 88 = .ok (.invokevirtual 185, 3) := by decide +kernel
theorem dX9_change_91 : decode cX9_change 91 = .ok (.iconst 1, 1) := by decide +kernel
theorem dX9_change_92 : decode cX9_change 92 = .ok (.if_icmp .ne 5, 3) := by decide +kernel
theorem dX9_change_95 : decode cX9_change 95 = .ok (.iconst 2, 1) := by decide +kernel
theorem dX9_change_96 : decode cX9_change 96 = .ok (.ireturn, 1) := by decide +kernel
theorem dX9_change_97 : decode cX9_change 97 = .ok (.aload_n 0, 1) := by decide +kernel
theorem dX9_change_98 : decode cX9_change 98 = .ok (.dup, 1) := by decide +kernel
theorem dX9_change_99 : decode cX9_change 99 = .ok (.getfield 70, 3) := by decide +kernel
theorem dX9_change_102 : decode cX9_change 102 = .ok (.iconst 1, 1) := by decide +kernel
theorem dX9_change_103 : decode cX9_change 103 = .ok (.iload_n 2, 1) := by decide +kernel
theorem dX9_change_104 : decode cX9_change 104 = .ok (.ishl, 1) := by decide +kernel
theorem dX9_change_105 : decode cX9_change 105 = .ok (.isub, 1) := by decide +kernel
theorem dX9_change_106 : decode cX9_change 106 = .ok (.putfield 70, 3) := by decide +kernel
theorem dX9_change_109 : decode cX9_change 109 = .ok (.iconst 0, 1) := by decide +kernel
theorem dX9_change_110 : decode cX9_change 110 = .ok (.ireturn, 1) := by decide +kernel
theorem dX9_change_111 : decode cX9_change 111 = .ok (.aload_n 0, 1) := by decide +kernel
theorem dX9_change_112 : decode cX9_change 112 = .ok (.iload_n 2, 1) := by decide +kernel
theorem dX9_change_113 : decode cX9_change 113 = .ok (.invokevirtual 124, 3) := by decide +kernel
theorem dX9_change_116 : decode cX9_change 116 = .ok (.ifCond .eq 5, 3) := by decide +kernel
theorem dX9_change_119 : decode cX9_change 119 = .ok (.iconst 2, 1) := by decide +kernel
theorem dX9_change_120 : decode cX9_change 120 = .ok (.ireturn, 1) := by decide +kernel
theorem dX9_change_121 : decode cX9_change 121 = .ok (.aload_n 0, 1) := by decide +kernel
theorem dX9_change_122 : decode cX9_change 122 = .ok (.dup, 1) := by decide +kernel
theorem dX9_change_123 : decode cX9_change 123 = .ok (.getfield 70, 3) := by decide +kernel
theorem dX9_change_126 : decode cX9_change 126 = .ok (.iconst 1, 1) := by decide +kernel
theorem dX9_change_127 : decode cX9_change 127 = .ok (.iload_n 2, 1) := by decide +kernel
theorem dX9_change_128 : decode cX9_change 128 = .ok (.ishl, 1) := by decide +kernel
theorem dX9_change_129 : decode cX9_change 129 = .ok (.iadd, 1) := by decide +kernel
theorem dX9_change_130 : decode cX9_change 130 = .ok (.putfield 70, 3) := by decide +kernel
theorem dX9_change_133 : decode cX9_change 133 = .ok (.aload_n 0, 1) := by decide +kernel
theorem dX9_change_134 : decode cX9_change 134 = .ok (.iconst 0, 1) := by decide +kernel
theorem dX9_change_135 : decode cX9_change 135 = .ok (.iload_n 2, 1) := by decide +kernel
theorem dX9_change_136 : decode cX9_change 136 = .ok (.iadd, 1) := by decide +kernel
theorem dX9_change_137 : decode cX9_change 137 = .ok (.lconst 1, 1) := by decide +kernel
theorem dX9_change_138 : decode cX9_change 138 = .ok (.invokevirtual 62, 3) := by decide +kernel
theorem dX9_change_141 : decode cX9_change 141 = .ok (.aload_n 0, 1) := by decide +kernel
theorem dX9_change_142 : decode cX9_change 142 = .ok (.bipush 8, 2) := by decide +kernel
theorem dX9_change_144 : decode cX9_change 144 = .ok (.iload_n 2, 1) := by decide +kernel
theorem dX9_change_145 : decode cX9_change 145 = .ok (.iadd, 1) := by decide +kernel
theorem dX9_change_146 : decode cX9_change 146 = .ok (.lconst 1, 1) := by decide +kernel
theorem dX9_change_147 : decode cX9_change 147 = .ok (.invokevirtual 62, 3) := by decide +kernel
theorem dX9_change_150 : decode cX9_change 150 = .ok (.iconst 0, 1) := by decide +kernel
theorem dX9_change_151 : decode cX9_change 151 = .ok (.ireturn, 1) := by decide +kernel
theorem dX9_change_152 : decode cX9_change 152 = .ok (.iconst 1, 1) := by decide +kernel
theorem dX9_change_153 : decode cX9_change 153 = .ok (.iload_n 3, 1) := by decide +kernel
theorem dX9_change_154 : decode cX9_change 154 = .ok (.invokestatic 146, 3) := by decide +kernel
theorem dX9_change_157 : decode cX9_change 157 = .ok (.ifCond .ne 5, 3) := by decide +kernel
theorem dX9_change_160 : decode cX9_change 160 = .ok (.iconst 1, 1) := by decide +kernel
theorem dX9_change_161 : decode cX9_change 161 = .ok (.ireturn, 1) := by decide +kernel
theorem dX9_change_162 : decode cX9_change 162 = .ok (.aload_n 0, 1) := by decide +kernel
theorem dX9_change_163 : decode cX9_change 163 = .ok (.getfield 19, 3) := by decide +kernel
theorem dX9_change_166 : decode cX9_change 166 = .ok (.iload_n 2, 1) := by decide +kernel
theorem dX9_change_167 : decode cX9_change 167 = .ok (.iload_n 3, 1) := by decide +kernel
theorem dX9_change_168 : decode cX9_change 168 = .ok (.iastore, 1) := by decide +kernel
theorem dX9_change_169 : decode cX9_change 169 = .ok (.iconst 0, 1) := by decide +kernel
theorem dX9_change_170 : decode cX9_change 170 = .ok (.ireturn, 1) := by decide +kernel
theorem dX9_change_171 : decode cX9_change 171 = .ok (.iconst 2, 1) := by decide +kernel
theorem dX9_change_172 : decode cX9_change 172 = .ok (.iload_n 3, 1) := by decide +kernel
theorem dX9_change_173 : decode cX9_change 173 = .ok (.invokestatic 146, 3) := by decide +kernel
theorem dX9_change_176 : decode cX9_change 176 = .ok (.ifCond .ne 5, 3) := by decide +kernel
theorem dX9_change_179 : decode cX9_change 179 = .ok (.iconst 1, 1) := by decide +kernel
theorem dX9_change_180 : decode cX9_change 180 = .ok (.ireturn, 1) := by decide +kernel
theorem dX9_change_181 : decode cX9_change 181 = .ok (.aload_n 0, 1) := by decide +kernel
theorem dX9_change_182 : decode cX9_change 182 = .ok (.getfield 22, 3) := by decide +kernel
theorem dX9_change_185 : decode cX9_change 185 = .ok (.iload_n 2, 1) := by decide +kernel
theorem dX9_change_186 : decode cX9_change 186 = .ok (.iload_n 3, 1) := by decide +kernel
theorem dX9_change_187 : decode cX9_change 187 = .ok (.iastore, 1) := by decide +kernel
theorem dX9_change_188 : decode cX9_change 188 = .ok (.iconst 0, 1) := by decide +kernel
theorem dX9_change_189 : decode cX9_change 189 = .ok (.ireturn, 1) := by decide +kernel
theorem dX9_change_190 : decode cX9_change 190 = .ok (.aload_n 0, 1) := by decide +kernel
theorem dX9_change_191 : decode cX9_change 191 = .ok (.iload_n 3, 1) := by decide +kernel
theorem dX9_change_192 : decode cX9_change 192 = .ok (.invokevirtual 201, 3) := by decide +kernel
theorem dX9_change_195 : decode cX9_change 195 = .ok (.ireturn, 1) := by decide +kernel
theorem dX9_perform_0 : decode cX9_perform 0 = .ok (.aload_n 0, 1) := by decide +kernel
theorem dX9_perform_1 : decode cX9_perform 1 = .ok (.getfield 34, 3) := by decide +kernel
theorem dX9_perform_4 : decode cX9_perform 4 = .ok (.iload_n 1, 1) := by decide +kernel
theorem dX9_perform_5 : decode cX9_perform 5 = .ok (.iaload, 1) := by decide +kernel
theorem dX9_perform_6 : decode cX9_perform 6 = .ok (.istore_n 2, 1) := by decide +kernel
theorem dX9_perform_7 : decode cX9_perform 7 = .ok (.aload_n 0, 1) := by decide +kernel
theorem dX9_perform_8 : decode cX9_perform 8 = .ok (.getfield 37, 3) := by decide +kernel
theorem dX9_perform_11 : decode cX9_perform 11 = .ok (.iload_n 1, 1) := by decide +kernel
theorem dX9_perform_12 : decode cX9_perform 12 = .ok (.iaload, 1) := by decide +kernel
theorem dX9_perform_13 : decode cX9_perform 13 = .ok (.istore_n 3, 1) := by decide +kernel
theorem dX9_perform_14 : decode cX9_perform 14 = .ok (.iload_n 2, 1) := by decide +kernel
theorem dX9_perform_15 : decode cX9_perform 15 = .ok (.iconst 4, 1) := by decide +kernel
theorem dX9_perform_16 : decode cX9_perform 16 = .ok (.if_icmp .eq 22, 3) := by decide +kernel
theorem dX9_perform_19 : decode cX9_perform 19 = .ok (.iload_n 2, 1) := by decide +kernel
theorem dX9_perform_20 : decode cX9_perform 20 = .ok (.iconst 5, 1) := by decide +kernel
theorem dX9_perform_21 : decode cX9_perform 21 = .ok (.if_icmp .eq 17, 3) := by decide +kernel
theorem dX9_perform_24 : decode cX9_perform 24 = .ok (.iload_n 2, 1) := by decide +kernel
theorem dX9_perform_25 : decode cX9_perform 25 = .ok (.bipush 8, 2) := by decide +kernel
theorem dX9_perform_27 : decode cX9_perform 27 = .ok (.if_icmp .eq 11, 3) := by decide +kernel
theorem dX9_perform_30 : decode cX9_perform 30 = .ok (.aload_n 0, 1) := by decide +kernel
theorem dX9_perform_31 : decode cX9_perform 31 = .ok (.iload_n 3, 1) := by decide +kernel
theorem dX9_perform_32 : decode cX9_perform 32 = .ok (.invokevirtual 124, 3) := by decide +kernel
theorem dX9_perform_35 : decode cX9_perform 35 = .ok (.ifCond .eq 7, 3) := by decide +kernel
theorem dX9_perform_38 : decode cX9_perform 38 = .ok (.iconst 1, 1) := by decide +kernel
theorem dX9_perform_39 : decode cX9_perform 39 = .ok (.goto 4, 3) := by decide +kernel
theorem dX9_perform_42 : decode cX9_perform 42 = .ok (.iconst 0, 1) := by decide +kernel
theorem dX9_perform_43 : decode cX9_perform 43 = .ok (.istore 4, 2) := by decide +kernel
theorem dX9_perform_45 : decode cX9_perform 45 = .ok (.aload_n 0, 1) := by decide +kernel
theorem dX9_perform_46 : decode cX9_perform 46 = .ok (.invokevirtual 155, 3) := by decide +kernel
theorem dX9_perform_49 : decode cX9_perform 49 = .ok (.aload_n 0, 1) := by decide +kernel
theorem dX9_perform_50 : decode cX9_perform 50 = .ok (.bipush 36, 2) := by decide +kernel
theorem dX9_perform_52 : decode cX9_perform 52 = .ok (.bipush 34, 2) := by decide +kernel
theorem dX9_perform_54 : decode cX9_perform 54 = .ok (.invokevirtual 101, 3) := by decide +kernel
theorem dX9_perform_57 : decode cX9_perform 57 = .ok (.aload_n 0, 1) := by decide +kernel
theorem dX9_perform_58 : decode cX9_perform 58 = .ok (.bipush 37, 2) := by decide +kernel
theorem dX9_perform_60 : decode cX9_perform 60 = .ok (.bipush 35, 2) := by decide +kernel
theorem dX9_perform_62 : decode cX9_perform 62 = .ok (.invokevirtual 101, 3) := by decide +kernel
theorem dX9_perform_65 : decode cX9_perform 65 = .ok (.aload_n 0, 1) := by decide +kernel
theorem dX9_perform_66 : decode cX9_perform 66 = .ok (.invokevirtual 204, 3) := by decide +kernel
theorem dX9_perform_69 : decode cX9_perform 69 = .ok (.aload_n 0, 1) := by decide +kernel
theorem dX9_perform_70 : decode cX9_perform 70 = .ok (.iload_n 2, 1) := by decide +kernel
theorem dX9_perform_71 : decode cX9_perform 71 = .ok (.iload_n 3, 1) := by decide +kernel
theorem dX9_perform_72 : decode cX9_perform 72 = .ok (.aload_n 0, 1) := by decide +kernel
theorem dX9_perform_73 : decode cX9_perform 73 = .ok (.getfield 40, 3) := by decide +kernel
theorem dX9_perform_76 : decode cX9_perform 76 = .ok (.iload_n 1, 1) := by decide +kernel
theorem dX9_perform_77 : decode cX9_perform 77 = .ok (.iaload, 1) := by decide +kernel
theorem dX9_perform_78 : decode cX9_perform 78 = .ok (.aload_n 0, 1) := by decide +kernel
theorem dX9_perform_79 : decode cX9_perform 79 = .ok (.getfield 43, 3) := by decide +kernel
theorem dX9_perform_82 : decode cX9_perform 82 = .ok (.iload_n 1, 1) := by decide +kernel
theorem dX9_perform_83 : decode cX9_perform 83 = .ok (.iaload, 1) := by decide +kernel
theorem dX9_perform_84 : decode cX9_perform 84 = .ok (.aload_n 0, 1) := by decide +kernel
theorem dX9_perform_85 : decode cX9_perform 85 = .ok (.getfield 46, 3) := by decide +kernel
theorem dX9_perform_88 : decode cX9_perform 88 = .ok (.iload_n 1, 1) := by decide +kernel
theorem dX9_perform_89 : decode cX9_perform 89 = .ok (.iaload, 1) := by decide +kernel
theorem dX9_perform_90 : decode cX9_perform 90 = .ok (.invokevirtual 207, 3) := by decide +kernel
theorem dX9_perform_93 : decode cX9_perform 93 = .ok (.istore 5, 2) := by decide +kernel
theorem dX9_perform_95 : decode cX9_perform 95 = .ok (.iload 5, 2) := by decide +kernel
theorem dX9_perform_97 : decode cX9_perform 97 = .ok (.ifCond .ne 117, 3) := by decide +kernel
theorem dX9_perform_100 : decode cX9_perform 100 = .ok (.iload 4, 2) := by decide +kernel
theorem dX9_perform_102 : decode cX9_perform 102 = .ok (.ifCond .eq 112, 3) := by decide +kernel
theorem dX9_perform_105 : decode cX9_perform 105 = .ok (.iload_n 2, 1) := by decide +kernel
theorem dX9_perform_106 : decode cX9_perform 106 = .ok (.iconst 3, 1) := by decide +kernel
theorem dX9_perform_107 : decode cX9_perform 107 = .ok (.if_icmp .eq 107, 3) := by decide +kernel
theorem dX9_perform_110 : decode cX9_perform 110 = .ok (.aload_n 0, 1) := by decide +kernel
theorem dX9_perform_111 : decode cX9_perform 111 = .ok (.invokevirtual 155, 3) := by decide +kernel
theorem dX9_perform_114 : decode cX9_perform 114 = .ok (.aload_n 0, 1) := by decide +kernel
theorem dX9_perform_115 : decode cX9_perform 115 = .ok (.bipush 40, 2) := by decide +kernel
theorem dX9_perform_117 : decode cX9_perform 117 = .ok (.bipush 32, 2) := by decide +kernel
theorem dX9_perform_119 : decode cX9_perform 119 = .ok (.bipush 34, 2) := by decide +kernel
theorem dX9_perform_121 : decode cX9_perform 121 = .ok (.invokevirtual 131, 3) := by decide +kernel
theorem dX9_perform_124 : decode cX9_perform 124 = .ok (.aload_n 0, 1) := by decide +kernel
theorem dX9_perform_125 : decode cX9_perform 125 = .ok (.bipush 38, 2) := by decide +kernel
theorem dX9_perform_127 : decode cX9_perform 127 = .ok (.bipush 40, 2) := by decide +kernel
theorem dX9_perform_129 : decode cX9_perform 129 = .ok (.bipush 37, 2) := by decide +kernel
theorem dX9_perform_131 : decode cX9_perform 131 = .ok (.invokevirtual 131, 3) := by decide +kernel
theorem dX9_perform_134 : decode cX9_perform 134 = .ok (.aload_n 0, 1) := by decide +kernel
theorem dX9_perform_135 : decode cX9_perform 135 = .ok (.bipush 40, 2) := by decide +kernel
theorem dX9_perform_137 : decode cX9_perform 137 = .ok (.bipush 33, 2) := by decide +kernel
theorem dX9_perform_139 : decode cX9_perform 139 = .ok (.bipush 35, 2) := by decide +kernel
theorem dX9_perform_141 : decode cX9_perform 141 = .ok (.invokevirtual 131, 3) := by decide +kernel
theorem dX9_perform_144 : decode cX9_perform 144 = .ok (.aload_n 0, 1) := by decide +kernel
theorem dX9_perform_145 : decode cX9_perform 145 = .ok (.bipush 39, 2) := by decide +kernel
theorem dX9_perform_147 : decode cX9_perform 147 = .ok (.bipush 40, 2) := by decide +kernel
theorem dX9_perform_149 : decode cX9_perform 149 = .ok (.bipush 36, 2) := by decide +kernel
theorem dX9_perform_151 : decode cX9_perform 151 = .ok (.invokevirtual 131, 3) := by decide +kernel
theorem dX9_perform_154 : decode cX9_perform 154 = .ok (.aload_n 0, 1) := by decide +kernel
theorem dX9_perform_155 : decode cX9_perform 155 = .ok (.bipush 38, 2) := by decide +kernel
theorem dX9_perform_157 : decode cX9_perform 157 = .ok (.bipush 39, 2) := by decide +kernel
theorem dX9_perform_159 : decode cX9_perform 159 = .ok (.invokevirtual 138, 3) := by decide +kernel
theorem dX9_perform_162 : decode cX9_perform 162 = .ok (.aload_n 0, 1) := by decide +kernel
theorem dX9_perform_163 : decode cX9_perform 163 = .ok (.bipush 38, 2) := by decide +kernel
theorem dX9_perform_165 : decode cX9_perform 165 = .ok (.invokevirtual 87, 3) := by decide +kernel
theorem dX9_perform_168 : decode cX9_perform 168 = .ok (.sipush 512, 3) := by decide +kernel
theorem dX9_perform_171 : decode cX9_perform 171 = .ok (.if_icmp .gt 15, 3) := by decide +kernel
theorem dX9_perform_174 : decode cX9_perform 174 = .ok (.aload_n 0, 1) := by decide +kernel
theorem dX9_perform_175 : decode cX9_perform 175 = .ok (.bipush 39, 2) := by decide +kernel
theorem dX9_perform_177 : decode cX9_perform 177 = .ok (.invokevirtual 87, 3) := by decide +kernel
theorem dX9_perform_180 : decode cX9_perform 180 = .ok (.sipush 512, 3) := by decide +kernel
theorem dX9_perform_183 : decode cX9_perform 183 = .ok (.if_icmp .le 7, 3) := by decide +kernel
theorem dX9_perform_186 : decode cX9_perform 186 = .ok (.iconst 3, 1) := by decide +kernel
theorem dX9_perform_187 : decode cX9_perform 187 = .ok (.goto 4, 3) := by decide +kernel
theorem dX9_perform_190 : decode cX9_perform 190 = .ok (.iconst 0, 1) := by decide +kernel
theorem dX9_perform_191 : decode cX9_perform 191 = .ok (.istore 5, 2) := by decide +kernel
theorem dX9_perform_193 : decode cX9_perform 193 = .ok (.iload 5, 2) := by decide +kernel
theorem dX9_perform_195 : decode cX9_perform 195 = .ok (.ifCond .ne 19, 3) := by decide +kernel
theorem dX9_perform_198 : decode cX9_perform 198 = .ok (.aload_n 0, 1) := by decide +kernel
theorem dX9_perform_199 : decode cX9_perform 199 = .ok (.bipush 32, 2) := by decide +kernel
theorem dX9_perform_201 : decode cX9_perform 201 = .ok (.bipush 38, 2) := by decide +kernel
theorem dX9_perform_203 : decode cX9_perform 203 = .ok (.invokevirtual 101, 3) := by decide +kernel
theorem dX9_perform_206 : decode cX9_perform 206 = .ok (.aload_n 0, 1) := by decide +kernel
theorem dX9_perform_207 : decode cX9_perform 207 = .ok (.bipush 33, 2) := by decide +kernel
theorem dX9_perform_209 : decode cX9_perform 209 = .ok (.bipush 39, 2) := by decide +kernel
theorem dX9_perform_211 : decode cX9_perform 211 = .ok (.invokevirtual 101, 3) := by decide +kernel
theorem dX9_perform_214 : decode cX9_perform 214 = .ok (.iload 5, 2) := by decide +kernel
theorem dX9_perform_216 : decode cX9_perform 216 = .ok (.ifCond .eq 7, 3) := by decide +kernel
theorem dX9_perform_219 : decode cX9_perform 219 = .ok (.aload_n 0, 1) := by decide +kernel
theorem dX9_perform_220 : decode cX9_perform 220 = .ok (.invokevirtual 211, 3) := by decide +kernel
theorem dX9_perform_223 : decode cX9_perform 223 = .ok (.iload 5, 2) := by decide +kernel
theorem dX9_perform_225 : decode cX9_perform 225 = .ok (.ireturn, 1) := by decide +kernel
theorem dX9_close_0 : decode cX9_close 0 = .ok (.aload_n 0, 1) := by decide +kernel
theorem dX9_close_1 : decode cX9_close 1 = .ok (.aload_n 0, 1) := by decide +kernel
theorem dX9_close_2 : decode cX9_close 2 = .ok (.getfield 150, 3) := by decide +kernel
theorem dX9_close_5 : decode cX9_close 5 = .ok (.ifCond .eq 13, 3) := by decide +kernel
theorem dX9_close_8 : decode cX9_close 8 = .ok (.aload_n 0, 1) := by decide +kernel
theorem dX9_close_9 : decode cX9_close 9 = .ok (.getfield 167, 3) := by decide +kernel
theorem dX9_close_12 : decode cX9_close 12 = .ok (.sipush 250, 3) := by decide +kernel
theorem dX9_close_15 : decode cX9_close 15 = .ok (.if_icmp .ne 7, 3) := by decide +kernel
theorem dX9_close_18 : decode cX9_close 18 = .ok (.iconst 1, 1) := by decide +kernel
theorem dX9_close_19 : decode cX9_close 19 = .ok (.goto 4, 3) := by decide +kernel
theorem dX9_close_22 : decode cX9_close 22 = .ok (.iconst 0, 1) := by decide +kernel
theorem dX9_close_23 : decode cX9_close 23 = .ok (.putfield 66, 3) := by decide +kernel
theorem dX9_close_26 : decode cX9_close 26 = .ok (.aload_n 0, 1) := by decide +kernel
theorem dX9_close_27 : decode cX9_close 27 = .ok (.getfield 66, 3) := by decide +kernel
theorem dX9_close_30 : decode cX9_close 30 = .ok (.ifCond .le 5, 3) := by decide +kernel
theorem dX9_close_33 : decode cX9_close 33 = .ok (.iconst 0, 1) := by decide +kernel
theorem dX9_close_34 : decode cX9_close 34 = .ok (.ireturn, 1) := by decide +kernel
theorem dX9_close_35 : decode cX9_close 35 = .ok (.iconst 0, 1) := by decide +kernel
theorem dX9_close_36 : decode cX9_close 36 = .ok (.istore_n 1, 1) := by decide +kernel
theorem dX9_close_37 : decode cX9_close 37 = .ok (.aload_n 0, 1) := by decide +kernel
theorem dX9_close_38 : decode cX9_close 38 = .ok (.iconst 0, 1) := by decide +kernel
theorem dX9_close_39 : decode cX9_close 39 = .ok (.putfield 164, 3) := by decide +kernel
theorem dX9_close_42 : decode cX9_close 42 = .ok (.iconst 0, 1) := by decide +kernel
theorem dX9_close_43 : decode cX9_close 43 = .ok (.istore_n 2, 1) := by decide +kernel
theorem dX9_close_44 : decode cX9_close 44 = .ok (.iload_n 2, 1) := by decide +kernel
theorem dX9_close_45 : decode cX9_close 45 = .ok (.bipush 9, 2) := by decide +kernel
theorem dX9_close_47 : decode cX9_close 47 = .ok (.if_icmp .ge 119, 3) := by decide +kernel
theorem dX9_close_50 : decode cX9_close 50 = .ok (.iconst 0, 1) := by decide +kernel
theorem dX9_close_51 : decode cX9_close 51 = .ok (.istore_n 3, 1) := by decide +kernel
theorem dX9_close_52 : decode cX9_close 52 = .ok (.iload_n 3, 1) := by decide +kernel
theorem dX9_close_53 : decode cX9_close 53 = .ok (.bipush 8, 2) := by decide +kernel
theorem dX9_close_55 : decode cX9_close 55 = .ok (.if_icmp .ge 105, 3) := by decide +kernel
theorem dX9_close_58 : decode cX9_close 58 = .ok (.iconst 0, 1) := by decide +kernel
theorem dX9_close_59 : decode cX9_close 59 = .ok (.istore 4, 2) := by decide +kernel
theorem dX9_close_61 : decode cX9_close 61 = .ok (.iload 4, 2) := by decide +kernel
theorem dX9_close_63 : decode cX9_close 63 = .ok (.aload_n 0, 1) := by decide +kernel
theorem dX9_close_64 : decode cX9_close 64 = .ok (.getfield 161, 3) := by decide +kernel
theorem dX9_close_67 : decode cX9_close 67 = .ok (.if_icmp .ge 87, 3) := by decide +kernel
theorem dX9_close_70 : decode cX9_close 70 = .ok (.aload_n 0, 1) := by decide +kernel
theorem dX9_close_71 : decode cX9_close 71 = .ok (.getfield 34, 3) := by decide +kernel
theorem dX9_close_74 : decode cX9_close 74 = .ok (.iload 4, 2) := by decide +kernel
theorem dX9_close_76 : decode cX9_close 76 = .ok (.iaload, 1) := by decide +kernel
theorem dX9_close_77 : decode cX9_close 77 = .ok (.iload_n 2, 1) := by decide +kernel
theorem dX9_close_78 : decode cX9_close 78 = .ok (.if_icmp .ne 70, 3) := by decide +kernel
theorem dX9_close_81 : decode cX9_close 81 = .ok (.aload_n 0, 1) := by decide +kernel
theorem dX9_close_82 : decode cX9_close 82 = .ok (.getfield 37, 3) := by decide +kernel
theorem dX9_close_85 : decode cX9_close 85 = .ok (.iload 4, 2) := by decide +kernel
theorem dX9_close_87 : decode cX9_close 87 = .ok (.iaload, 1) := by decide +kernel
theorem dX9_close_88 : decode cX9_close 88 = .ok (.iload_n 3, 1) := by decide +kernel
theorem dX9_close_89 : decode cX9_close 89 = .ok (.if_icmp .ne 59, 3) := by decide +kernel
theorem dX9_close_92 : decode cX9_close 92 = .ok (.aload_n 0, 1) := by decide +kernel
theorem dX9_close_93 : decode cX9_close 93 = .ok (.getfield 52, 3) := by decide +kernel
theorem dX9_close_96 : decode cX9_close 96 = .ok (.aload_n 0, 1) := by decide +kernel
theorem dX9_close_97 : decode cX9_close 97 = .ok (.getfield 164, 3) := by decide +kernel
theorem dX9_close_100 : decode cX9_close 100 = .ok (.iload 4, 2) := by decide +kernel
theorem dX9_close_102 : decode cX9_close 102 = .ok (.iastore, 1) := by decide +kernel
theorem dX9_close_103 : decode cX9_close 103 = .ok (.aload_n 0, 1) := by decide +kernel
theorem dX9_close_104 : decode cX9_close 104 = .ok (.getfield 49, 3) := by decide +kernel
theorem dX9_close_107 : decode cX9_close 107 = .ok (.aload_n 0, 1) := by decide +kernel
theorem dX9_close_108 : decode cX9_close 108 = .ok (.getfield 164, 3) := by decide +kernel
theorem dX9_close_111 : decode cX9_close 111 = .ok (.aload_n 0, 1) := by decide +kernel
theorem dX9_close_112 : decode cX9_close 112 = .ok (.iload 4, 2) := by decide +kernel
theorem dX9_close_114 : decode cX9_close 114 = .ok (.invokevirtual 214, 3) := by decide +kernel
theorem dX9_close_117 : decode cX9_close 117 = .ok (.iastore, 1) := by decide +kernel
theorem dX9_close_118 : decode cX9_close 118 = .ok (.iload_n 1, 1) := by decide +kernel
theorem dX9_close_119 : decode cX9_close 119 = .ok (.aload_n 0, 1) := by decide +kernel
theorem dX9_close_120 : decode cX9_close 120 = .ok (.getfield 49, 3) := by decide +kernel
theorem dX9_close_123 : decode cX9_close 123 = .ok (.aload_n 0, 1) := by decide +kernel
theorem dX9_close_124 : decode cX9_close 124 = .ok (.getfield 164, 3) := by decide +kernel
theorem dX9_close_127 : decode cX9_close 127 = .ok (.iaload, 1) := by decide +kernel
theorem dX9_close_128 : decode cX9_close 128 = .ok (.ifCond .ne 7, 3) := by decide +kernel
theorem dX9_close_131 : decode cX9_close 131 = .ok (.iconst 1, 1) := by decide +kernel
theorem dX9_close_132 : decode cX9_close 132 = .ok (.goto 4, 3) := by decide +kernel
theorem dX9_close_135 : decode cX9_close 135 = .ok (.iconst 0, 1) := by decide +kernel
theorem dX9_close_136 : decode cX9_close 136 = .ok (.iadd, 1) := by decide +kernel
theorem dX9_close_137 : decode cX9_close 137 = .ok (.istore_n 1, 1) := by decide +kernel
theorem dX9_close_138 : decode cX9_close 138 = .ok (.aload_n 0, 1) := by decide +kernel
theorem dX9_close_139 : decode cX9_close 139 = .ok (.dup, 1) := by decide +kernel
theorem dX9_close_140 : decode cX9_close 140 = .ok (.getfield 164, 3) := by decide +kernel
theorem dX9_close_143 : decode cX9_close 143 = .ok (.iconst 1, 1) := by decide +kernel
theorem dX9_close_144 : decode cX9_close 144 = .ok (.iadd, 1) := by decide +kernel
theorem dX9_close_145 : decode cX9_close 145 = .ok (.putfield 164, 3) := by decide +kernel
theorem dX9_close_148 : decode cX9_close 148 = .ok (.iinc 4 1, 3) := by decide +kernel
theorem dX9_close_151 : decode cX9_close 151 = .ok (.goto (-90), 3) := by decide +kernel
theorem dX9_close_154 : decode cX9_close 154 = .ok (.iinc 3 1, 3) := by decide +kernel
theorem dX9_close_157 : decode cX9_close 157 = .ok (.goto (-105), 3) := by decide +kernel
theorem dX9_close_160 : decode cX9_close 160 = .ok (.iinc 2 1, 3) := by decide +kernel
theorem dX9_close_163 : decode cX9_close 163 = .ok (.goto (-119), 3) := by decide +kernel
theorem dX9_close_166 : decode cX9_close 166 = .ok (.aload_n 0, 1) := by decide +kernel
theorem dX9_close_167 : decode cX9_close 167 = .ok (.iconst 0, 1) := by decide +kernel
theorem dX9_close_168 : decode cX9_close 168 = .ok (.putfield 161, 3) := by decide +kernel
theorem dX9_close_171 : decode cX9_close 171 = .ok (.aload_n 0, 1) := by decide +kernel
theorem dX9_close_172 : decode cX9_close 172 = .ok (.getfield 55, 3) := by decide +kernel
theorem dX9_close_175 : decode cX9_close 175 = .ok (.aload_n 0, 1) := by decide +kernel
theorem dX9_close_176 : decode cX9_close 176 = .ok (.getfield 167, 3) := by decide +kernel
theorem dX9_close_179 : decode cX9_close 179 = .ok (.aload_n 0, 1) := by decide +kernel
theorem dX9_close_180 : decode cX9_close 180 = .ok (.invokevirtual 217, 3) := by decide +kernel
theorem dX9_close_183 : decode cX9_close 183 = .ok (.lastore, 1) := by decide +kernel
theorem dX9_close_184 : decode cX9_close 184 = .ok (.aload_n 0, 1) := by decide +kernel
theorem dX9_close_185 : decode cX9_close 185 = .ok (.dup, 1) := by decide +kernel
theorem dX9_close_186 : decode cX9_close 186 = .ok (.getfield 167, 3) := by decide +kernel
theorem dX9_close_189 : decode cX9_close 189 = .ok (.iconst 1, 1) := by decide +kernel
theorem dX9_close_190 : decode cX9_close 190 = .ok (.iadd, 1) := by decide +kernel
theorem dX9_close_191 : decode cX9_close 191 = .ok (.putfield 167, 3) := by decide +kernel
theorem dX9_close_194 : decode cX9_close 194 = .ok (.iload_n 1, 1) := by decide +kernel
theorem dX9_close_195 : decode cX9_close 195 = .ok (.ireturn, 1) := by decide +kernel
theorem dX9_outcome_0 : decode cX9_outcome 0 = .ok (.aload_n 0, 1) := by decide +kernel
theorem dX9_outcome_1 : decode cX9_outcome 1 = .ok (.iconst 0, 1) := by decide +kernel
theorem dX9_outcome_2 : decode cX9_outcome 2 = .ok (.putfield 66, 3) := by decide +kernel
theorem dX9_outcome_5 : decode cX9_outcome 5 = .ok (.iload_n 1, 1) := by decide +kernel
theorem dX9_outcome_6 : decode cX9_outcome 6 = .ok (.iconst 0, 1) := by decide +kernel
theorem dX9_outcome_7 : decode cX9_outcome 7 = .ok (.aload_n 0, 1) := by decide +kernel
theorem dX9_outcome_8 : decode cX9_outcome 8 = .ok (.getfield 164, 3) := by decide +kernel
theorem dX9_outcome_11 : decode cX9_outcome 11 = .ok (.iconst 1, 1) := by decide +kernel
theorem dX9_outcome_12 : decode cX9_outcome 12 = .ok (.isub, 1) := by decide +kernel
theorem dX9_outcome_13 : decode cX9_outcome 13 = .ok (.invokestatic 142, 3) := by decide +kernel
theorem dX9_outcome_16 : decode cX9_outcome 16 = .ok (.ifCond .eq 12, 3) := by decide +kernel
theorem dX9_outcome_19 : decode cX9_outcome 19 = .ok (.aload_n 0, 1) := by decide +kernel
theorem dX9_outcome_20 : decode cX9_outcome 20 = .ok (.getfield 49, 3) := by decide +kernel
theorem dX9_outcome_23 : decode cX9_outcome 23 = .ok (.iload_n 1, 1) := by decide +kernel
theorem dX9_outcome_24 : decode cX9_outcome 24 = .ok (.iaload, 1) := by decide +kernel
theorem dX9_outcome_25 : decode cX9_outcome 25 = .ok (.goto 4, 3) := by decide +kernel
theorem dX9_outcome_28 : decode cX9_outcome 28 = .ok (.iconst (-1), 1) := by decide +kernel
theorem dX9_outcome_29 : decode cX9_outcome 29 = .ok (.ireturn, 1) := by decide +kernel
theorem dX9_noted_0 : decode cX9_noted 0 = .ok (.aload_n 0, 1) := by decide +kernel
theorem dX9_noted_1 : decode cX9_noted 1 = .ok (.iconst 0, 1) := by decide +kernel
theorem dX9_noted_2 : decode cX9_noted 2 = .ok (.putfield 66, 3) := by decide +kernel
theorem dX9_noted_5 : decode cX9_noted 5 = .ok (.iload_n 1, 1) := by decide +kernel
theorem dX9_noted_6 : decode cX9_noted 6 = .ok (.iconst 0, 1) := by decide +kernel
theorem dX9_noted_7 : decode cX9_noted 7 = .ok (.aload_n 0, 1) := by decide +kernel
theorem dX9_noted_8 : decode cX9_noted 8 = .ok (.getfield 164, 3) := by decide +kernel
theorem dX9_noted_11 : decode cX9_noted 11 = .ok (.iconst 1, 1) := by decide +kernel
theorem dX9_noted_12 : decode cX9_noted 12 = .ok (.isub, 1) := by decide +kernel
theorem dX9_noted_13 : decode cX9_noted 13 = .ok (.invokestatic 142, 3) := by decide +kernel
theorem dX9_noted_16 : decode cX9_noted 16 = .ok (.ifCond .eq 12, 3) := by decide +kernel
theorem dX9_noted_19 : decode cX9_noted 19 = .ok (.aload_n 0, 1) := by decide +kernel
theorem dX9_noted_20 : decode cX9_noted 20 = .ok (.getfield 52, 3) := by decide +kernel
theorem dX9_noted_23 : decode cX9_noted 23 = .ok (.iload_n 1, 1) := by decide +kernel
theorem dX9_noted_24 : decode cX9_noted 24 = .ok (.iaload, 1) := by decide +kernel
theorem dX9_noted_25 : decode cX9_noted 25 = .ok (.goto 4, 3) := by decide +kernel
theorem dX9_noted_28 : decode cX9_noted 28 = .ok (.iconst (-1), 1) := by decide +kernel
theorem dX9_noted_29 : decode cX9_noted 29 = .ok (.ireturn, 1) := by decide +kernel
theorem dX9_days_0 : decode cX9_days 0 = .ok (.aload_n 0, 1) := by decide +kernel
theorem dX9_days_1 : decode cX9_days 1 = .ok (.iconst 0, 1) := by decide +kernel
theorem dX9_days_2 : decode cX9_days 2 = .ok (.putfield 66, 3) := by decide +kernel
theorem dX9_days_5 : decode cX9_days 5 = .ok (.aload_n 0, 1) := by decide +kernel
theorem dX9_days_6 : decode cX9_days 6 = .ok (.getfield 150, 3) := by decide +kernel
theorem dX9_days_9 : decode cX9_days 9 = .ok (.ifCond .eq 10, 3) := by decide +kernel
theorem dX9_days_12 : decode cX9_days 12 = .ok (.aload_n 0, 1) := by decide +kernel
theorem dX9_days_13 : decode cX9_days 13 = .ok (.getfield 167, 3) := by decide +kernel
theorem dX9_days_16 : decode cX9_days 16 = .ok (.goto 4, 3) := by decide +kernel
theorem dX9_days_19 : decode cX9_days 19 = .ok (.iconst (-1), 1) := by decide +kernel
theorem dX9_days_20 : decode cX9_days 20 = .ok (.ireturn, 1) := by decide +kernel
theorem dX9_published_0 : decode cX9_published 0 = .ok (.aload_n 0, 1) := by decide +kernel
theorem dX9_published_1 : decode cX9_published 1 = .ok (.iconst 0, 1) := by decide +kernel
theorem dX9_published_2 : decode cX9_published 2 = .ok (.putfield 66, 3) := by decide +kernel
theorem dX9_published_5 : decode cX9_published 5 = .ok (.aload_n 0, 1) := by decide +kernel
theorem dX9_published_6 : decode cX9_published 6 = .ok (.getfield 150, 3) := by decide +kernel
theorem dX9_published_9 : decode cX9_published 9 = .ok (.ifCond .eq 26, 3) := by decide +kernel
theorem dX9_published_12 : decode cX9_published 12 = .ok (.iload_n 1, 1) := by decide +kernel
theorem dX9_published_13 : decode cX9_published 13 = .ok (.iconst 0, 1) := by decide +kernel
theorem dX9_published_14 : decode cX9_published 14 = .ok (.aload_n 0, 1) := by decide +kernel
theorem dX9_published_15 : decode cX9_published 15 = .ok (.getfield 167, 3) := by decide +kernel
theorem dX9_published_18 : decode cX9_published 18 = .ok (.iconst 1, 1) := by decide +kernel
theorem dX9_published_19 : decode cX9_published 19 = .ok (.isub, 1) := by decide +kernel
theorem dX9_published_20 : decode cX9_published 20 = .ok (.invokestatic 142, 3) := by decide +kernel
theorem dX9_published_23 : decode cX9_published 23 = .ok (.ifCond .eq 12, 3) := by decide +kernel
theorem dX9_published_26 : decode cX9_published 26 = .ok (.aload_n 0, 1) := by decide +kernel
theorem dX9_published_27 : decode cX9_published 27 = .ok (.getfield 55, 3) := by decide +kernel
theorem dX9_published_30 : decode cX9_published 30 = .ok (.iload_n 1, 1) := by decide +kernel
theorem dX9_published_31 : decode cX9_published 31 = .ok (.laload, 1) := by decide +kernel
theorem dX9_published_32 : decode cX9_published 32 = .ok (.goto 6, 3) := by decide +kernel
theorem dX9_published_35 : decode cX9_published 35 = .ok (.ldc2_w 221, 3) := by decide +kernel
theorem dX9_published_38 : decode cX9_published 38 = .ok (.lreturn, 1) := by decide +kernel
theorem dX9_level_0 : decode cX9_level 0 = .ok (.aload_n 0, 1) := by decide +kernel
theorem dX9_level_1 : decode cX9_level 1 = .ok (.iconst 0, 1) := by decide +kernel
theorem dX9_level_2 : decode cX9_level 2 = .ok (.putfield 66, 3) := by decide +kernel
theorem dX9_level_5 : decode cX9_level 5 = .ok (.aload_n 0, 1) := by decide +kernel
theorem dX9_level_6 : decode cX9_level 6 = .ok (.getfield 150, 3) := by decide +kernel
theorem dX9_level_9 : decode cX9_level 9 = .ok (.ifCond .ne 7, 3) := by decide +kernel
theorem dX9_level_12 : decode cX9_level 12 = .ok (.ldc2_w 221, 3) := by decide +kernel
theorem dX9_level_15 : decode cX9_level 15 = .ok (.lreturn, 1) := by decide +kernel
theorem dX9_level_16 : decode cX9_level 16 = .ok (.aload_n 0, 1) := by decide +kernel
theorem dX9_level_17 : decode cX9_level 17 = .ok (.invokevirtual 155, 3) := by decide +kernel
theorem dX9_level_20 : decode cX9_level 20 = .ok (.aload_n 0, 1) := by decide +kernel
theorem dX9_level_21 : decode cX9_level 21 = .ok (.bipush 38, 2) := by decide +kernel
theorem dX9_level_23 : decode cX9_level 23 = .ok (.bipush 34, 2) := by decide +kernel
theorem dX9_level_25 : decode cX9_level 25 = .ok (.bipush 33, 2) := by decide +kernel
theorem dX9_level_27 : decode cX9_level 27 = .ok (.invokevirtual 131, 3) := by decide +kernel
theorem dX9_level_30 : decode cX9_level 30 = .ok (.aload_n 0, 1) := by decide +kernel
theorem dX9_level_31 : decode cX9_level 31 = .ok (.bipush 39, 2) := by decide +kernel
theorem dX9_level_33 : decode cX9_level 33 = .ok (.bipush 35, 2) := by decide +kernel
theorem dX9_level_35 : decode cX9_level 35 = .ok (.bipush 32, 2) := by decide +kernel
theorem dX9_level_37 : decode cX9_level 37 = .ok (.invokevirtual 131, 3) := by decide +kernel
theorem dX9_level_40 : decode cX9_level 40 = .ok (.aload_n 0, 1) := by decide +kernel
theorem dX9_level_41 : decode cX9_level 41 = .ok (.bipush 38, 2) := by decide +kernel
theorem dX9_level_43 : decode cX9_level 43 = .ok (.sipush 200, 3) := by decide +kernel
theorem dX9_level_46 : decode cX9_level 46 = .ok (.invokevirtual 158, 3) := by decide +kernel
theorem dX9_level_49 : decode cX9_level 49 = .ok (.aload_n 0, 1) := by decide +kernel
theorem dX9_level_50 : decode cX9_level 50 = .ok (.bipush 38, 2) := by decide +kernel
theorem dX9_level_52 : decode cX9_level 52 = .ok (.bipush 39, 2) := by decide +kernel
theorem dX9_level_54 : decode cX9_level 54 = .ok (.invokevirtual 135, 3) := by decide +kernel
theorem dX9_level_57 : decode cX9_level 57 = .ok (.aload_n 0, 1) := by decide +kernel
theorem dX9_level_58 : decode cX9_level 58 = .ok (.bipush 39, 2) := by decide +kernel
theorem dX9_level_60 : decode cX9_level 60 = .ok (.iconst 2, 1) := by decide +kernel
theorem dX9_level_61 : decode cX9_level 61 = .ok (.invokevirtual 158, 3) := by decide +kernel
theorem dX9_level_64 : decode cX9_level 64 = .ok (.aload_n 0, 1) := by decide +kernel
theorem dX9_level_65 : decode cX9_level 65 = .ok (.bipush 38, 2) := by decide +kernel
theorem dX9_level_67 : decode cX9_level 67 = .ok (.bipush 39, 2) := by decide +kernel
theorem dX9_level_69 : decode cX9_level 69 = .ok (.bipush 43, 2) := by decide +kernel
theorem dX9_level_71 : decode cX9_level 71 = .ok (.bipush 46, 2) := by decide +kernel
theorem dX9_level_73 : decode cX9_level 73 = .ok (.invokevirtual 120, 3) := by decide +kernel
theorem dX9_level_76 : decode cX9_level 76 = .ok (.aload_n 0, 1) := by decide +kernel
theorem dX9_level_77 : decode cX9_level 77 = .ok (.bipush 43, 2) := by decide +kernel
theorem dX9_level_79 : decode cX9_level 79 = .ok (.invokevirtual 87, 3) := by decide +kernel
theorem dX9_level_82 : decode cX9_level 82 = .ok (.bipush 61, 2) := by decide +kernel
theorem dX9_level_84 : decode cX9_level 84 = .ok (.if_icmp .le 7, 3) := by decide +kernel
theorem dX9_level_87 : decode cX9_level 87 = .ok (.ldc2_w 223, 3) := by decide +kernel
theorem dX9_level_90 : decode cX9_level 90 = .ok (.lreturn, 1) := by decide +kernel
theorem dX9_level_91 : decode cX9_level 91 = .ok (.lconst 0, 1) := by decide +kernel
theorem dX9_level_92 : decode cX9_level 92 = .ok (.lstore_n 1, 1) := by decide +kernel
theorem dX9_level_93 : decode cX9_level 93 = .ok (.aload_n 0, 1) := by decide +kernel
theorem dX9_level_94 : decode cX9_level 94 = .ok (.getfield 13, 3) := by decide +kernel
theorem dX9_level_97 : decode cX9_level 97 = .ok (.bipush 43, 2) := by decide +kernel
theorem dX9_level_99 : decode cX9_level 99 = .ok (.iaload, 1) := by decide +kernel
theorem dX9_level_100 : decode cX9_level 100 = .ok (.iconst 1, 1) := by decide +kernel
theorem dX9_level_101 : decode cX9_level 101 = .ok (.isub, 1) := by decide +kernel
theorem dX9_level_102 : decode cX9_level 102 = .ok (.istore_n 3, 1) := by decide +kernel
theorem dX9_level_103 : decode cX9_level 103 = .ok (.iload_n 3, 1) := by decide +kernel
theorem dX9_level_104 : decode cX9_level 104 = .ok (.ifCond .lt 27, 3) := by decide +kernel
theorem dX9_level_107 : decode cX9_level 107 = .ok (.lload_n 1, 1) := by decide +kernel
theorem dX9_level_108 : decode cX9_level 108 = .ok (.ldc2_w 73, 3) := by decide +kernel
theorem dX9_level_111 : decode cX9_level 111 = .ok (.lmul, 1) := by decide +kernel
theorem dX9_level_112 : decode cX9_level 112 = .ok (.aload_n 0, 1) := by decide +kernel
theorem dX9_level_113 : decode cX9_level 113 = .ok (.getfield 7, 3) := by decide +kernel
theorem dX9_level_116 : decode cX9_level 116 = .ok (.sipush 6020, 3) := by decide +kernel
theorem dX9_level_119 : decode cX9_level 119 = .ok (.iload_n 3, 1) := by decide +kernel
theorem dX9_level_120 : decode cX9_level 120 = .ok (.iadd, 1) := by decide +kernel
theorem dX9_level_121 : decode cX9_level 121 = .ok (.iaload, 1) := by decide +kernel
theorem dX9_level_122 : decode cX9_level 122 = .ok (.i2l, 1) := by decide +kernel
theorem dX9_level_123 : decode cX9_level 123 = .ok (.ladd, 1) := by decide +kernel
theorem dX9_level_124 : decode cX9_level 124 = .ok (.lstore_n 1, 1) := by decide +kernel
theorem dX9_level_125 : decode cX9_level 125 = .ok (.iinc 3 (-1), 3) := by decide +kernel
theorem dX9_level_128 : decode cX9_level 128 = .ok (.goto (-25), 3) := by decide +kernel
theorem dX9_level_131 : decode cX9_level 131 = .ok (.lload_n 1, 1) := by decide +kernel
theorem dX9_level_132 : decode cX9_level 132 = .ok (.ldc2_w 223, 3) := by decide +kernel
theorem dX9_level_135 : decode cX9_level 135 = .ok (.lcmp, 1) := by decide +kernel
theorem dX9_level_136 : decode cX9_level 136 = .ok (.ifCond .le 9, 3) := by decide +kernel
theorem dX9_level_139 : decode cX9_level 139 = .ok (.ldc2_w 223, 3) := by decide +kernel
theorem dX9_level_142 : decode cX9_level 142 = .ok (.goto 4, 3) := by decide +kernel
theorem dX9_level_145 : decode cX9_level 145 = .ok (.lload_n 1, 1) := by decide +kernel
theorem dX9_level_146 : decode cX9_level 146 = .ok (.lreturn, 1) := by decide +kernel
theorem dX9_weight_0 : decode cX9_weight 0 = .ok (.aload_n 0, 1) := by decide +kernel
theorem dX9_weight_1 : decode cX9_weight 1 = .ok (.iconst 0, 1) := by decide +kernel
theorem dX9_weight_2 : decode cX9_weight 2 = .ok (.putfield 66, 3) := by decide +kernel
theorem dX9_weight_5 : decode cX9_weight 5 = .ok (.aload_n 0, 1) := by decide +kernel
theorem dX9_weight_6 : decode cX9_weight 6 = .ok (.getfield 150, 3) := by decide +kernel
theorem dX9_weight_9 : decode cX9_weight 9 = .ok (.ifCond .eq 21, 3) := by decide +kernel
theorem dX9_weight_12 : decode cX9_weight 12 = .ok (.iload_n 1, 1) := by decide +kernel
theorem dX9_weight_13 : decode cX9_weight 13 = .ok (.iconst 0, 1) := by decide +kernel
theorem dX9_weight_14 : decode cX9_weight 14 = .ok (.bipush 7, 2) := by decide +kernel
theorem dX9_weight_16 : decode cX9_weight 16 = .ok (.invokestatic 142, 3) := by decide +kernel
theorem dX9_weight_19 : decode cX9_weight 19 = .ok (.ifCond .eq 11, 3) := by decide +kernel
theorem dX9_weight_22 : decode cX9_weight 22 = .ok (.aload_n 0, 1) := by decide +kernel
theorem dX9_weight_23 : decode cX9_weight 23 = .ok (.iload_n 1, 1) := by decide +kernel
theorem dX9_weight_24 : decode cX9_weight 24 = .ok (.invokevirtual 124, 3) := by decide +kernel
theorem dX9_weight_27 : decode cX9_weight 27 = .ok (.ifCond .ne 5, 3) := by decide +kernel
theorem dX9_weight_30 : decode cX9_weight 30 = .ok (.iconst (-1), 1) := by decide +kernel
theorem dX9_weight_31 : decode cX9_weight 31 = .ok (.ireturn, 1) := by decide +kernel
theorem dX9_weight_32 : decode cX9_weight 32 = .ok (.aload_n 0, 1) := by decide +kernel
theorem dX9_weight_33 : decode cX9_weight 33 = .ok (.invokevirtual 155, 3) := by decide +kernel
theorem dX9_weight_36 : decode cX9_weight 36 = .ok (.aload_n 0, 1) := by decide +kernel
theorem dX9_weight_37 : decode cX9_weight 37 = .ok (.bipush 40, 2) := by decide +kernel
theorem dX9_weight_39 : decode cX9_weight 39 = .ok (.aload_n 0, 1) := by decide +kernel
theorem dX9_weight_40 : decode cX9_weight 40 = .ok (.iload_n 1, 1) := by decide +kernel
theorem dX9_weight_41 : decode cX9_weight 41 = .ok (.invokevirtual 127, 3) := by decide +kernel
theorem dX9_weight_44 : decode cX9_weight 44 = .ok (.invokevirtual 62, 3) := by decide +kernel
theorem dX9_weight_47 : decode cX9_weight 47 = .ok (.aload_n 0, 1) := by decide +kernel
theorem dX9_weight_48 : decode cX9_weight 48 = .ok (.bipush 40, 2) := by decide +kernel
theorem dX9_weight_50 : decode cX9_weight 50 = .ok (.ldc 225, 2) := by decide +kernel
theorem dX9_weight_52 : decode cX9_weight 52 = .ok (.invokevirtual 158, 3) := by decide +kernel
theorem dX9_weight_55 : decode cX9_weight 55 = .ok (.aload_n 0, 1) := by decide +kernel
theorem dX9_weight_56 : decode cX9_weight 56 = .ok (.bipush 41, 2) := by decide +kernel
theorem dX9_weight_58 : decode cX9_weight 58 = .ok (.bipush 40, 2) := by decide +kernel
theorem dX9_weight_60 : decode cX9_weight 60 = .ok (.iconst 0, 1) := by decide +kernel
theorem dX9_weight_61 : decode cX9_weight 61 = .ok (.iload_n 1, 1) := by decide +kernel
theorem dX9_weight_62 : decode cX9_weight 62 = .ok (.iadd, 1) := by decide +kernel
theorem dX9_weight_63 : decode cX9_weight 63 = .ok (.invokevirtual 131, 3) := by decide +kernel
theorem dX9_weight_66 : decode cX9_weight 66 = .ok (.aload_n 0, 1) := by decide +kernel
theorem dX9_weight_67 : decode cX9_weight 67 = .ok (.bipush 38, 2) := by decide +kernel
theorem dX9_weight_69 : decode cX9_weight 69 = .ok (.bipush 41, 2) := by decide +kernel
theorem dX9_weight_71 : decode cX9_weight 71 = .ok (.bipush 35, 2) := by decide +kernel
theorem dX9_weight_73 : decode cX9_weight 73 = .ok (.invokevirtual 131, 3) := by decide +kernel
theorem dX9_weight_76 : decode cX9_weight 76 = .ok (.aload_n 0, 1) := by decide +kernel
theorem dX9_weight_77 : decode cX9_weight 77 = .ok (.bipush 39, 2) := by decide +kernel
theorem dX9_weight_79 : decode cX9_weight 79 = .ok (.bipush 8, 2) := by decide +kernel
theorem dX9_weight_81 : decode cX9_weight 81 = .ok (.iload_n 1, 1) := by decide +kernel
theorem dX9_weight_82 : decode cX9_weight 82 = .ok (.iadd, 1) := by decide +kernel
theorem dX9_weight_83 : decode cX9_weight 83 = .ok (.bipush 34, 2) := by decide +kernel
theorem dX9_weight_85 : decode cX9_weight 85 = .ok (.invokevirtual 131, 3) := by decide +kernel
theorem dX9_weight_88 : decode cX9_weight 88 = .ok (.aload_n 0, 1) := by decide +kernel
theorem dX9_weight_89 : decode cX9_weight 89 = .ok (.bipush 38, 2) := by decide +kernel
theorem dX9_weight_91 : decode cX9_weight 91 = .ok (.bipush 39, 2) := by decide +kernel
theorem dX9_weight_93 : decode cX9_weight 93 = .ok (.bipush 43, 2) := by decide +kernel
theorem dX9_weight_95 : decode cX9_weight 95 = .ok (.bipush 46, 2) := by decide +kernel
theorem dX9_weight_97 : decode cX9_weight 97 = .ok (.invokevirtual 120, 3) := by decide +kernel
theorem dX9_weight_100 : decode cX9_weight 100 = .ok (.iconst 0, 1) := by decide +kernel
theorem dX9_weight_101 : decode cX9_weight 101 = .ok (.istore_n 2, 1) := by decide +kernel
theorem dX9_weight_102 : decode cX9_weight 102 = .ok (.aload_n 0, 1) := by decide +kernel
theorem dX9_weight_103 : decode cX9_weight 103 = .ok (.getfield 13, 3) := by decide +kernel
theorem dX9_weight_106 : decode cX9_weight 106 = .ok (.bipush 43, 2) := by decide +kernel
theorem dX9_weight_108 : decode cX9_weight 108 = .ok (.iaload, 1) := by decide +kernel
theorem dX9_weight_109 : decode cX9_weight 109 = .ok (.iconst 1, 1) := by decide +kernel
theorem dX9_weight_110 : decode cX9_weight 110 = .ok (.isub, 1) := by decide +kernel
theorem dX9_weight_111 : decode cX9_weight 111 = .ok (.istore_n 3, 1) := by decide +kernel
theorem dX9_weight_112 : decode cX9_weight 112 = .ok (.iload_n 3, 1) := by decide +kernel
theorem dX9_weight_113 : decode cX9_weight 113 = .ok (.ifCond .lt 25, 3) := by decide +kernel
theorem dX9_weight_116 : decode cX9_weight 116 = .ok (.iload_n 2, 1) := by decide +kernel
theorem dX9_weight_117 : decode cX9_weight 117 = .ok (.ldc 86, 2) := by decide +kernel
theorem dX9_weight_119 : decode cX9_weight 119 = .ok (.imul, 1) := by decide +kernel
theorem dX9_weight_120 : decode cX9_weight 120 = .ok (.aload_n 0, 1) := by decide +kernel
theorem dX9_weight_121 : decode cX9_weight 121 = .ok (.getfield 7, 3) := by decide +kernel
theorem dX9_weight_124 : decode cX9_weight 124 = .ok (.sipush 6020, 3) := by decide +kernel
theorem dX9_weight_127 : decode cX9_weight 127 = .ok (.iload_n 3, 1) := by decide +kernel
theorem dX9_weight_128 : decode cX9_weight 128 = .ok (.iadd, 1) := by decide +kernel
theorem dX9_weight_129 : decode cX9_weight 129 = .ok (.iaload, 1) := by decide +kernel
theorem dX9_weight_130 : decode cX9_weight 130 = .ok (.iadd, 1) := by decide +kernel
theorem dX9_weight_131 : decode cX9_weight 131 = .ok (.istore_n 2, 1) := by decide +kernel
theorem dX9_weight_132 : decode cX9_weight 132 = .ok (.iinc 3 (-1), 3) := by decide +kernel
theorem dX9_weight_135 : decode cX9_weight 135 = .ok (.goto (-23), 3) := by decide +kernel
theorem dX9_weight_138 : decode cX9_weight 138 = .ok (.iload_n 2, 1) := by decide +kernel
theorem dX9_weight_139 : decode cX9_weight 139 = .ok (.ireturn, 1) := by decide +kernel
theorem dX9_printWhole_0 : decode cX9_printWhole 0 = .ok (.aload_n 0, 1) := by decide +kernel
theorem dX9_printWhole_1 : decode cX9_printWhole 1 = .ok (.bipush 40, 2) := by decide +kernel
theorem dX9_printWhole_3 : decode cX9_printWhole 3 = .ok (.iload_n 1, 1) := by decide +kernel
theorem dX9_printWhole_4 : decode cX9_printWhole 4 = .ok (.invokevirtual 101, 3) := by decide +kernel
theorem dX9_printWhole_7 : decode cX9_printWhole 7 = .ok (.aload_n 0, 1) := by decide +kernel
theorem dX9_printWhole_8 : decode cX9_printWhole 8 = .ok (.getfield 226, 3) := by decide +kernel
theorem dX9_printWhole_11 : decode cX9_printWhole 11 = .ok (.istore_n 2, 1) := by decide +kernel
theorem dX9_printWhole_12 : decode cX9_printWhole 12 = .ok (.aload_n 0, 1) := by decide +kernel
theorem dX9_printWhole_13 : decode cX9_printWhole 13 = .ok (.getfield 13, 3) := by decide +kernel
theorem dX9_printWhole_16 : decode cX9_printWhole 16 = .ok (.bipush 40, 2) := by decide +kernel
theorem dX9_printWhole_18 : decode cX9_printWhole 18 = .ok (.iaload, 1) := by decide +kernel
theorem dX9_printWhole_19 : decode cX9_printWhole 19 = .ok (.ifCond .gt 11, 3) := by decide +kernel
theorem dX9_printWhole_22 : decode cX9_printWhole 22 = .ok (.aload_n 0, 1) := by decide +kernel
theorem dX9_printWhole_23 : decode cX9_printWhole 23 = .ok (.getfield 226, 3) := by decide +kernel
theorem dX9_printWhole_26 : decode cX9_printWhole 26 = .ok (.iload_n 2, 1) := by decide +kernel
theorem dX9_printWhole_27 : decode cX9_printWhole 27 = .ok (.if_icmp .ne 36, 3) := by decide +kernel
theorem dX9_printWhole_30 : decode cX9_printWhole 30 = .ok (.aload_n 0, 1) := by decide +kernel
theorem dX9_printWhole_31 : decode cX9_printWhole 31 = .ok (.getfield 59, 3) := by decide +kernel
theorem dX9_printWhole_34 : decode cX9_printWhole 34 = .ok (.aload_n 0, 1) := by decide +kernel
theorem dX9_printWhole_35 : decode cX9_printWhole 35 = .ok (.getfield 226, 3) := by decide +kernel
theorem dX9_printWhole_38 : decode cX9_printWhole 38 = .ok (.bipush 48, 2) := by decide +kernel
theorem dX9_printWhole_40 : decode cX9_printWhole 40 = .ok (.aload_n 0, 1) := by decide +kernel
theorem dX9_printWhole_41 : decode cX9_printWhole 41 = .ok (.bipush 40, 2) := by decide +kernel
theorem dX9_printWhole_43 : decode cX9_printWhole 43 = .ok (.bipush 10, 2) := by decide +kernel
theorem dX9_printWhole_45 : decode cX9_printWhole 45 = .ok (.invokevirtual 229, 3) := by decide +kernel
theorem dX9_printWhole_48 : decode cX9_printWhole 48 = .ok (.iadd, 1) := by decide +kernel
theorem dX9_printWhole_49 : decode cX9_printWhole 49 = .ok (.iastore, 1) := by decide +kernel
theorem dX9_printWhole_50 : decode cX9_printWhole 50 = .ok (.aload_n 0, 1) := by decide +kernel
theorem dX9_printWhole_51 : decode cX9_printWhole 51 = .ok (.dup, 1) := by decide +kernel
theorem dX9_printWhole_52 : decode cX9_printWhole 52 = .ok (.getfield 226, 3) := by decide +kernel
theorem dX9_printWhole_55 : decode cX9_printWhole 55 = .ok (.iconst 1, 1) := by decide +kernel
theorem dX9_printWhole_56 : decode cX9_printWhole 56 = .ok (.iadd, 1) := by decide +kernel
theorem dX9_printWhole_57 : decode cX9_printWhole 57 = .ok (.putfield 226, 3) := by decide +kernel
theorem dX9_printWhole_60 : decode cX9_printWhole 60 = .ok (.goto (-48), 3) := by decide +kernel
theorem dX9_printWhole_63 : decode cX9_printWhole 63 = .ok (.iload_n 2, 1) := by decide +kernel
theorem dX9_printWhole_64 : decode cX9_printWhole 64 = .ok (.istore_n 3, 1) := by decide +kernel
theorem dX9_printWhole_65 : decode cX9_printWhole 65 = .ok (.aload_n 0, 1) := by decide +kernel
theorem dX9_printWhole_66 : decode cX9_printWhole 66 = .ok (.getfield 226, 3) := by decide +kernel
theorem dX9_printWhole_69 : decode cX9_printWhole 69 = .ok (.iconst 1, 1) := by decide +kernel
theorem dX9_printWhole_70 : decode cX9_printWhole 70 = .ok (.isub, 1) := by decide +kernel
theorem dX9_printWhole_71 : decode cX9_printWhole 71 = .ok (.istore 4, 2) := by decide +kernel
theorem dX9_printWhole_73 : decode cX9_printWhole 73 = .ok (.iload_n 3, 1) := by decide +kernel
theorem dX9_printWhole_74 : decode cX9_printWhole 74 = .ok (.iload 4, 2) := by decide +kernel
theorem dX9_printWhole_76 : decode cX9_printWhole 76 = .ok (.if_icmp .ge 42, 3) := by decide +kernel
theorem dX9_printWhole_79 : decode cX9_printWhole 79 = .ok (.aload_n 0, 1) := by decide +kernel
theorem dX9_printWhole_80 : decode cX9_printWhole 80 = .ok (.getfield 59, 3) := by decide +kernel
theorem dX9_printWhole_83 : decode cX9_printWhole 83 = .ok (.iload_n 3, 1) := by decide +kernel
theorem dX9_printWhole_84 : decode cX9_printWhole 84 = .ok (.iaload, 1) := by decide +kernel
theorem dX9_printWhole_85 : decode cX9_printWhole 85 = .ok (.istore 5, 2) := by decide +kernel
theorem dX9_printWhole_87 : decode cX9_printWhole 87 = .ok (.aload_n 0, 1) := by decide +kernel
theorem dX9_printWhole_88 : decode cX9_printWhole 88 = .ok (.getfield 59, 3) := by decide +kernel
theorem dX9_printWhole_91 : decode cX9_printWhole 91 = .ok (.iload_n 3, 1) := by decide +kernel
theorem dX9_printWhole_92 : decode cX9_printWhole 92 = .ok (.aload_n 0, 1) := by decide +kernel
theorem dX9_printWhole_93 : decode cX9_printWhole 93 = .ok (.getfield 59, 3) := by decide +kernel
theorem dX9_printWhole_96 : decode cX9_printWhole 96 = .ok (.iload 4, 2) := by decide +kernel
theorem dX9_printWhole_98 : decode cX9_printWhole 98 = .ok (.iaload, 1) := by decide +kernel
theorem dX9_printWhole_99 : decode cX9_printWhole 99 = .ok (.iastore, 1) := by decide +kernel
theorem dX9_printWhole_100 : decode cX9_printWhole 100 = .ok (.aload_n 0, 1) := by decide +kernel
theorem dX9_printWhole_101 : decode cX9_printWhole 101 = .ok (.getfield 59, 3) := by decide +kernel
theorem dX9_printWhole_104 : decode cX9_printWhole 104 = .ok (.iload 4, 2) := by decide +kernel
theorem dX9_printWhole_106 : decode cX9_printWhole 106 = .ok (.iload 5, 2) := by decide +kernel
theorem dX9_printWhole_108 : decode cX9_printWhole 108 = .ok (.iastore, 1) := by decide +kernel
theorem dX9_printWhole_109 : decode cX9_printWhole 109 = .ok (.iinc 4 (-1), 3) := by decide +kernel
theorem dX9_printWhole_112 : decode cX9_printWhole 112 = .ok (.iinc 3 1, 3) := by decide +kernel
theorem dX9_printWhole_115 : decode cX9_printWhole 115 = .ok (.goto (-42), 3) := by decide +kernel
theorem dX9_printWhole_118 : decode cX9_printWhole 118 = .ok (.return_, 1) := by decide +kernel
theorem dX9_print_0 : decode cX9_print 0 = .ok (.aload_n 0, 1) := by decide +kernel
theorem dX9_print_1 : decode cX9_print 1 = .ok (.iconst 0, 1) := by decide +kernel
theorem dX9_print_2 : decode cX9_print 2 = .ok (.putfield 66, 3) := by decide +kernel
theorem dX9_print_5 : decode cX9_print 5 = .ok (.aload_n 0, 1) := by decide +kernel
theorem dX9_print_6 : decode cX9_print 6 = .ok (.getfield 150, 3) := by decide +kernel
theorem dX9_print_9 : decode cX9_print 9 = .ok (.ifCond .eq 27, 3) := by decide +kernel
theorem dX9_print_12 : decode cX9_print 12 = .ok (.iload_n 1, 1) := by decide +kernel
theorem dX9_print_13 : decode cX9_print 13 = .ok (.iconst 0, 1) := by decide +kernel
theorem dX9_print_14 : decode cX9_print 14 = .ok (.iconst 2, 1) := by decide +kernel
theorem dX9_print_15 : decode cX9_print 15 = .ok (.invokestatic 142, 3) := by decide +kernel
theorem dX9_print_18 : decode cX9_print 18 = .ok (.ifCond .eq 18, 3) := by decide +kernel
theorem dX9_print_21 : decode cX9_print 21 = .ok (.iload_n 1, 1) := by decide +kernel
theorem dX9_print_22 : decode cX9_print 22 = .ok (.iconst 2, 1) := by decide +kernel
theorem dX9_print_23 : decode cX9_print 23 = .ok (.if_icmp .ne 15, 3) := by decide +kernel
theorem dX9_print_26 : decode cX9_print 26 = .ok (.iload_n 2, 1) := by decide +kernel
theorem dX9_print_27 : decode cX9_print 27 = .ok (.iconst 0, 1) := by decide +kernel
theorem dX9_print_28 : decode cX9_print 28 = .ok (.bipush 7, 2) := by decide +kernel
theorem dX9_print_30 : decode cX9_print 30 = .ok (.invokestatic 142, 3) := by decide +kernel
theorem dX9_print_33 : decode cX9_print 33 = .ok (.ifCond .ne 5, 3) := by decide +kernel
theorem dX9_print_36 : decode cX9_print 36 = .ok (.iconst (-1), 1) := by decide +kernel
theorem dX9_print_37 : decode cX9_print 37 = .ok (.ireturn, 1) := by decide +kernel
theorem dX9_print_38 : decode cX9_print 38 = .ok (.iload_n 1, 1) := by decide +kernel
theorem dX9_print_39 : decode cX9_print 39 = .ok (.ifCond .ne 38, 3) := by decide +kernel
theorem dX9_print_42 : decode cX9_print 42 = .ok (.aload_n 0, 1) := by decide +kernel
theorem dX9_print_43 : decode cX9_print 43 = .ok (.invokevirtual 155, 3) := by decide +kernel
theorem dX9_print_46 : decode cX9_print 46 = .ok (.aload_n 0, 1) := by decide +kernel
theorem dX9_print_47 : decode cX9_print 47 = .ok (.bipush 38, 2) := by decide +kernel
theorem dX9_print_49 : decode cX9_print 49 = .ok (.bipush 34, 2) := by decide +kernel
theorem dX9_print_51 : decode cX9_print 51 = .ok (.bipush 33, 2) := by decide +kernel
theorem dX9_print_53 : decode cX9_print 53 = .ok (.invokevirtual 131, 3) := by decide +kernel
theorem dX9_print_56 : decode cX9_print 56 = .ok (.aload_n 0, 1) := by decide +kernel
theorem dX9_print_57 : decode cX9_print 57 = .ok (.bipush 39, 2) := by decide +kernel
theorem dX9_print_59 : decode cX9_print 59 = .ok (.bipush 35, 2) := by decide +kernel
theorem dX9_print_61 : decode cX9_print 61 = .ok (.bipush 32, 2) := by decide +kernel
theorem dX9_print_63 : decode cX9_print 63 = .ok (.invokevirtual 131, 3) := by decide +kernel
theorem dX9_print_66 : decode cX9_print 66 = .ok (.aload_n 0, 1) := by decide +kernel
theorem dX9_print_67 : decode cX9_print 67 = .ok (.bipush 38, 2) := by decide +kernel
theorem dX9_print_69 : decode cX9_print 69 = .ok (.bipush 39, 2) := by decide +kernel
theorem dX9_print_71 : decode cX9_print 71 = .ok (.invokevirtual 138, 3) := by decide +kernel
theorem dX9_print_74 : decode cX9_print 74 = .ok (.goto 42, 3) := by decide +kernel
theorem dX9_print_77 : decode cX9_print 77 = .ok (.aload_n 0, 1) := by decide +kernel
theorem dX9_print_78 : decode cX9_print 78 = .ok (.bipush 38, 2) := by decide +kernel
theorem dX9_print_80 : decode cX9_print 80 = .ok (.iload_n 1, 1) := by decide +kernel
theorem dX9_print_81 : decode cX9_print 81 = .ok (.iconst 1, 1) := by decide +kernel
theorem dX9_print_82 : decode cX9_print 82 = .ok (.if_icmp .ne 8, 3) := by decide +kernel
theorem dX9_print_85 : decode cX9_print 85 = .ok (.bipush 32, 2) := by decide +kernel
theorem dX9_print_87 : decode cX9_print 87 = .ok (.goto 6, 3) := by decide +kernel
theorem dX9_print_90 : decode cX9_print 90 = .ok (.iconst 0, 1) := by decide +kernel
theorem dX9_print_91 : decode cX9_print 91 = .ok (.iload_n 2, 1) := by decide +kernel
theorem dX9_print_92 : decode cX9_print 92 = .ok (.iadd, 1) := by decide +kernel
theorem dX9_print_93 : decode cX9_print 93 = .ok (.invokevirtual 101, 3) := by decide +kernel
theorem dX9_print_96 : decode cX9_print 96 = .ok (.aload_n 0, 1) := by decide +kernel
theorem dX9_print_97 : decode cX9_print 97 = .ok (.bipush 39, 2) := by decide +kernel
theorem dX9_print_99 : decode cX9_print 99 = .ok (.iload_n 1, 1) := by decide +kernel
theorem dX9_print_100 : decode cX9_print 100 = .ok (.iconst 1, 1) := by decide +kernel
theorem dX9_print_101 : decode cX9_print 101 = .ok (.if_icmp .ne 8, 3) := by decide +kernel
theorem dX9_print_104 : decode cX9_print 104 = .ok (.bipush 33, 2) := by decide +kernel
theorem dX9_print_106 : decode cX9_print 106 = .ok (.goto 7, 3) := by decide +kernel
theorem dX9_print_109 : decode cX9_print 109 = .ok (.bipush 8, 2) := by decide +kernel
theorem dX9_print_111 : decode cX9_print 111 = .ok (.iload_n 2, 1) := by decide +kernel
theorem dX9_print_112 : decode cX9_print 112 = .ok (.iadd, 1) := by decide +kernel
theorem dX9_print_113 : decode cX9_print 113 = .ok (.invokevirtual 101, 3) := by decide +kernel
theorem dX9_print_116 : decode cX9_print 116 = .ok (.aload_n 0, 1) := by decide +kernel
theorem dX9_print_117 : decode cX9_print 117 = .ok (.iconst 0, 1) := by decide +kernel
theorem dX9_print_118 : decode cX9_print 118 = .ok (.putfield 226, 3) := by decide +kernel
theorem dX9_print_121 : decode cX9_print 121 = .ok (.aload_n 0, 1) := by decide +kernel
theorem dX9_print_122 : decode cX9_print 122 = .ok (.bipush 38, 2) := by decide +kernel
theorem dX9_print_124 : decode cX9_print 124 = .ok (.invokevirtual 232, 3) := by decide +kernel
theorem dX9_print_127 : decode cX9_print 127 = .ok (.aload_n 0, 1) := by decide +kernel
theorem dX9_print_128 : decode cX9_print 128 = .ok (.bipush 39, 2) := by decide +kernel
theorem dX9_print_130 : decode cX9_print 130 = .ok (.invokevirtual 117, 3) := by decide +kernel
theorem dX9_print_133 : decode cX9_print 133 = .ok (.ifCond .ne 30, 3) := by decide +kernel
theorem dX9_print_136 : decode cX9_print 136 = .ok (.aload_n 0, 1) := by decide +kernel
theorem dX9_print_137 : decode cX9_print 137 = .ok (.getfield 59, 3) := by decide +kernel
theorem dX9_print_140 : decode cX9_print 140 = .ok (.aload_n 0, 1) := by decide +kernel
theorem dX9_print_141 : decode cX9_print 141 = .ok (.getfield 226, 3) := by decide +kernel
theorem dX9_print_144 : decode cX9_print 144 = .ok (.bipush 47, 2) := by decide +kernel
theorem dX9_print_146 : decode cX9_print 146 = .ok (.iastore, 1) := by decide +kernel
theorem dX9_print_147 : decode cX9_print 147 = .ok (.aload_n 0, 1) := by decide +kernel
theorem dX9_print_148 : decode cX9_print 148 = .ok (.dup, 1) := by decide +kernel
theorem dX9_print_149 : decode cX9_print 149 = .ok (.getfield 226, 3) := by decide +kernel
theorem dX9_print_152 : decode cX9_print 152 = .ok (.iconst 1, 1) := by decide +kernel
theorem dX9_print_153 : decode cX9_print 153 = .ok (.iadd, 1) := by decide +kernel
theorem dX9_print_154 : decode cX9_print 154 = .ok (.putfield 226, 3) := by decide +kernel
theorem dX9_print_157 : decode cX9_print 157 = .ok (.aload_n 0, 1) := by decide +kernel
theorem dX9_print_158 : decode cX9_print 158 = .ok (.bipush 39, 2) := by decide +kernel
theorem dX9_print_160 : decode cX9_print 160 = .ok (.invokevirtual 232, 3) := by decide +kernel
theorem dX9_print_163 : decode cX9_print 163 = .ok (.aload_n 0, 1) := by decide +kernel
theorem dX9_print_164 : decode cX9_print 164 = .ok (.getfield 226, 3) := by decide +kernel
theorem dX9_print_167 : decode cX9_print 167 = .ok (.ireturn, 1) := by decide +kernel
theorem dX9_character_0 : decode cX9_character 0 = .ok (.aload_n 0, 1) := by decide +kernel
theorem dX9_character_1 : decode cX9_character 1 = .ok (.iconst 0, 1) := by decide +kernel
theorem dX9_character_2 : decode cX9_character 2 = .ok (.putfield 66, 3) := by decide +kernel
theorem dX9_character_5 : decode cX9_character 5 = .ok (.iload_n 1, 1) := by decide +kernel
theorem dX9_character_6 : decode cX9_character 6 = .ok (.iconst 0, 1) := by decide +kernel
theorem dX9_character_7 : decode cX9_character 7 = .ok (.aload_n 0, 1) := by decide +kernel
theorem dX9_character_8 : decode cX9_character 8 = .ok (.getfield 226, 3) := by decide +kernel
theorem dX9_character_11 : decode cX9_character 11 = .ok (.iconst 1, 1) := by decide +kernel
theorem dX9_character_12 : decode cX9_character 12 = .ok (.isub, 1) := by decide +kernel
theorem dX9_character_13 : decode cX9_character 13 = .ok (.invokestatic 142, 3) := by decide +kernel
theorem dX9_character_16 : decode cX9_character 16 = .ok (.ifCond .eq 12, 3) := by decide +kernel
theorem dX9_character_19 : decode cX9_character 19 = .ok (.aload_n 0, 1) := by decide +kernel
theorem dX9_character_20 : decode cX9_character 20 = .ok (.getfield 59, 3) := by decide +kernel
theorem dX9_character_23 : decode cX9_character 23 = .ok (.iload_n 1, 1) := by decide +kernel
theorem dX9_character_24 : decode cX9_character 24 = .ok (.iaload, 1) := by decide +kernel
theorem dX9_character_25 : decode cX9_character 25 = .ok (.goto 4, 3) := by decide +kernel
theorem dX9_character_28 : decode cX9_character 28 = .ok (.iconst (-1), 1) := by decide +kernel
theorem dX9_character_29 : decode cX9_character 29 = .ok (.ireturn, 1) := by decide +kernel
theorem dX9_places_0 : decode cX9_places 0 = .ok (.aload_n 0, 1) := by decide +kernel
theorem dX9_places_1 : decode cX9_places 1 = .ok (.iconst 0, 1) := by decide +kernel
theorem dX9_places_2 : decode cX9_places 2 = .ok (.putfield 66, 3) := by decide +kernel
theorem dX9_places_5 : decode cX9_places 5 = .ok (.aload_n 0, 1) := by decide +kernel
theorem dX9_places_6 : decode cX9_places 6 = .ok (.getfield 150, 3) := by decide +kernel
theorem dX9_places_9 : decode cX9_places 9 = .ok (.ifCond .eq 12, 3) := by decide +kernel
theorem dX9_places_12 : decode cX9_places 12 = .ok (.iload_n 1, 1) := by decide +kernel
theorem dX9_places_13 : decode cX9_places 13 = .ok (.iconst 0, 1) := by decide +kernel
theorem dX9_places_14 : decode cX9_places 14 = .ok (.iconst 1, 1) := by decide +kernel
theorem dX9_places_15 : decode cX9_places 15 = .ok (.invokestatic 142, 3) := by decide +kernel
theorem dX9_places_18 : decode cX9_places 18 = .ok (.ifCond .ne 7, 3) := by decide +kernel
theorem dX9_places_21 : decode cX9_places 21 = .ok (.iconst (-1), 1) := by decide +kernel
theorem dX9_places_22 : decode cX9_places 22 = .ok (.goto 22, 3) := by decide +kernel
theorem dX9_places_25 : decode cX9_places 25 = .ok (.iload_n 1, 1) := by decide +kernel
theorem dX9_places_26 : decode cX9_places 26 = .ok (.ifCond .ne 12, 3) := by decide +kernel
theorem dX9_places_29 : decode cX9_places 29 = .ok (.aload_n 0, 1) := by decide +kernel
theorem dX9_places_30 : decode cX9_places 30 = .ok (.bipush 32, 2) := by decide +kernel
theorem dX9_places_32 : decode cX9_places 32 = .ok (.invokevirtual 87, 3) := by decide +kernel
theorem dX9_places_35 : decode cX9_places 35 = .ok (.goto 9, 3) := by decide +kernel
theorem dX9_places_38 : decode cX9_places 38 = .ok (.aload_n 0, 1) := by decide +kernel
theorem dX9_places_39 : decode cX9_places 39 = .ok (.bipush 33, 2) := by decide +kernel
theorem dX9_places_41 : decode cX9_places 41 = .ok (.invokevirtual 87, 3) := by decide +kernel
theorem dX9_places_44 : decode cX9_places 44 = .ok (.ireturn, 1) := by decide +kernel
theorem dX9_check_0 : decode cX9_check 0 = .ok (.aload_n 0, 1) := by decide +kernel
theorem dX9_check_1 : decode cX9_check 1 = .ok (.iconst 0, 1) := by decide +kernel
theorem dX9_check_2 : decode cX9_check 2 = .ok (.putfield 66, 3) := by decide +kernel
theorem dX9_check_5 : decode cX9_check 5 = .ok (.aload_n 0, 1) := by decide +kernel
theorem dX9_check_6 : decode cX9_check 6 = .ok (.getfield 150, 3) := by decide +kernel
theorem dX9_check_9 : decode cX9_check 9 = .ok (.ifCond .eq 7, 3) := by decide +kernel
theorem dX9_check_12 : decode cX9_check 12 = .ok (.iconst 1, 1) := by decide +kernel
theorem dX9_check_13 : decode cX9_check 13 = .ok (.goto 4, 3) := by decide +kernel
theorem dX9_check_16 : decode cX9_check 16 = .ok (.iconst (-1), 1) := by decide +kernel
theorem dX9_check_17 : decode cX9_check 17 = .ok (.ireturn, 1) := by decide +kernel
