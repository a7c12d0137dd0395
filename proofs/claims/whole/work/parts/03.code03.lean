theorem dX8_scan_145 : decode cX8_scan 145 = .ok (.iload_n 3, 1) := by decide +kernel
theorem dX8_scan_146 : decode cX8_scan 146 = .ok (.iload_n 1, 1) := by decide +kernel
theorem dX8_scan_147 : decode cX8_scan 147 = .ok (.isub, 1) := by decide +kernel
theorem dX8_scan_148 : decode cX8_scan 148 = .ok (.iconst 4, 1) := by decide +kernel
theorem dX8_scan_149 : decode cX8_scan 149 = .ok (.if_icmp .ge 22, 3) := by decide +kernel
theorem dX8_scan_152 : decode cX8_scan 152 = .ok (.bipush 10, 2) := by decide +kernel
theorem dX8_scan_154 : decode cX8_scan 154 = .ok (.aload_n 0, 1) := by decide +kernel
theorem dX8_scan_155 : decode cX8_scan 155 = .ok (.getfield 154, 3) := by decide +kernel
theorem dX8_scan_158 : decode cX8_scan 158 = .ok (.imul, 1) := by decide +kernel
theorem dX8_scan_159 : decode cX8_scan 159 = .ok (.aload_n 0, 1) := by decide +kernel
theorem dX8_scan_160 : decode cX8_scan 160 = .ok (.iload_n 3, 1) := by decide +kernel
theorem dX8_scan_161 : decode cX8_scan 161 = .ok (.invokevirtual 127, 3) := by decide +kernel
theorem dX8_scan_164 : decode cX8_scan 164 = .ok (.iadd, 1) := by decide +kernel
theorem dX8_scan_165 : decode cX8_scan 165 = .ok (.bipush 48, 2) := by decide +kernel
theorem dX8_scan_167 : decode cX8_scan 167 = .ok (.isub, 1) := by decide +kernel
theorem dX8_scan_168 : decode cX8_scan 168 = .ok (.goto 7, 3) := by decide +kernel
theorem dX8_scan_171 : decode cX8_scan 171 = .ok (.aload_n 0, 1) := by decide +kernel
theorem dX8_scan_172 : decode cX8_scan 172 = .ok (.getfield 154, 3) := by decide +kernel
theorem dX8_scan_175 : decode cX8_scan 175 = .ok (.putfield 154, 3) := by decide +kernel
theorem dX8_scan_178 : decode cX8_scan 178 = .ok (.iinc 3 1, 3) := by decide +kernel
theorem dX8_scan_181 : decode cX8_scan 181 = .ok (.goto (-48), 3) := by decide +kernel
theorem dX8_scan_184 : decode cX8_scan 184 = .ok (.aload_n 0, 1) := by decide +kernel
theorem dX8_scan_185 : decode cX8_scan 185 = .ok (.iload_n 3, 1) := by decide +kernel
theorem dX8_scan_186 : decode cX8_scan 186 = .ok (.iload_n 1, 1) := by decide +kernel
theorem dX8_scan_187 : decode cX8_scan 187 = .ok (.isub, 1) := by decide +kernel
theorem dX8_scan_188 : decode cX8_scan 188 = .ok (.iconst 4, 1) := by decide +kernel
theorem dX8_scan_189 : decode cX8_scan 189 = .ok (.if_icmp .le 7, 3) := by decide +kernel
theorem dX8_scan_192 : decode cX8_scan 192 = .ok (.iconst 0, 1) := by decide +kernel
theorem dX8_scan_193 : decode cX8_scan 193 = .ok (.goto 4, 3) := by decide +kernel
theorem dX8_scan_196 : decode cX8_scan 196 = .ok (.iconst 2, 1) := by decide +kernel
theorem dX8_scan_197 : decode cX8_scan 197 = .ok (.putfield 137, 3) := by decide +kernel
theorem dX8_scan_200 : decode cX8_scan 200 = .ok (.goto 18, 3) := by decide +kernel
theorem dX8_scan_203 : decode cX8_scan 203 = .ok (.aload_n 0, 1) := by decide +kernel
theorem dX8_scan_204 : decode cX8_scan 204 = .ok (.iload_n 2, 1) := by decide +kernel
theorem dX8_scan_205 : decode cX8_scan 205 = .ok (.bipush 59, 2) := by decide +kernel
theorem dX8_scan_207 : decode cX8_scan 207 = .ok (.if_icmp .ne 7, 3) := by decide +kernel
theorem dX8_scan_210 : decode cX8_scan 210 = .ok (.iconst 3, 1) := by decide +kernel
theorem dX8_scan_211 : decode cX8_scan 211 = .ok (.goto 4, 3) := by decide +kernel
theorem dX8_scan_214 : decode cX8_scan 214 = .ok (.iconst 0, 1) := by decide +kernel
theorem dX8_scan_215 : decode cX8_scan 215 = .ok (.putfield 137, 3) := by decide +kernel
theorem dX8_scan_218 : decode cX8_scan 218 = .ok (.aload_n 0, 1) := by decide +kernel
theorem dX8_scan_219 : decode cX8_scan 219 = .ok (.iload_n 3, 1) := by decide +kernel
theorem dX8_scan_220 : decode cX8_scan 220 = .ok (.putfield 131, 3) := by decide +kernel
theorem dX8_scan_223 : decode cX8_scan 223 = .ok (.return_, 1) := by decide +kernel
theorem dX8_wrong_0 : decode cX8_wrong 0 = .ok (.aload_n 0, 1) := by decide +kernel
theorem dX8_wrong_1 : decode cX8_wrong 1 = .ok (.iload_n 1, 1) := by decide +kernel
theorem dX8_wrong_2 : decode cX8_wrong 2 = .ok (.putfield 157, 3) := by decide +kernel
theorem dX8_wrong_5 : decode cX8_wrong 5 = .ok (.aload_n 0, 1) := by decide +kernel
theorem dX8_wrong_6 : decode cX8_wrong 6 = .ok (.aload_n 0, 1) := by decide +kernel
theorem dX8_wrong_7 : decode cX8_wrong 7 = .ok (.getfield 134, 3) := by decide +kernel
theorem dX8_wrong_10 : decode cX8_wrong 10 = .ok (.putfield 13, 3) := by decide +kernel
theorem dX8_wrong_13 : decode cX8_wrong 13 = .ok (.iconst 0, 1) := by decide +kernel
theorem dX8_wrong_14 : decode cX8_wrong 14 = .ok (.ireturn, 1) := by decide +kernel
theorem dX8_plain_0 : decode cX8_plain 0 = .ok (.iload_n 0, 1) := by decide +kernel
theorem dX8_plain_1 : decode cX8_plain 1 = .ok (.ifCond .ne 8, 3) := by decide +kernel
theorem dX8_plain_4 : decode cX8_plain 4 = .ok (.bipush 45, 2) := by decide +kernel
theorem dX8_plain_6 : decode cX8_plain 6 = .ok (.goto 86, 3) := by decide +kernel
theorem dX8_plain_9 : decode cX8_plain 9 = .ok (.iload_n 0, 1) := by decide +kernel
theorem dX8_plain_10 : decode cX8_plain 10 = .ok (.iconst 1, 1) := by decide +kernel
theorem dX8_plain_11 : decode cX8_plain 11 = .ok (.if_icmp .ne 8, 3) := by decide +kernel
theorem dX8_plain_14 : decode cX8_plain 14 = .ok (.bipush 10, 2) := by decide +kernel
theorem dX8_plain_16 : decode cX8_plain 16 = .ok (.goto 76, 3) := by decide +kernel
theorem dX8_plain_19 : decode cX8_plain 19 = .ok (.iload_n 0, 1) := by decide +kernel
theorem dX8_plain_20 : decode cX8_plain 20 = .ok (.iconst 2, 1) := by decide +kernel
theorem dX8_plain_21 : decode cX8_plain 21 = .ok (.if_icmp .ne 7, 3) := by decide +kernel
theorem dX8_plain_24 : decode cX8_plain 24 = .ok (.iconst 1, 1) := by decide +kernel
theorem dX8_plain_25 : decode cX8_plain 25 = .ok (.goto 67, 3) := by decide +kernel
theorem dX8_plain_28 : decode cX8_plain 28 = .ok (.iload_n 0, 1) := by decide +kernel
theorem dX8_plain_29 : decode cX8_plain 29 = .ok (.iconst 3, 1) := by decide +kernel
theorem dX8_plain_30 : decode cX8_plain 30 = .ok (.if_icmp .ne 8, 3) := by decide +kernel
theorem dX8_plain_33 : decode cX8_plain 33 = .ok (.bipush 8, 2) := by decide +kernel
theorem dX8_plain_35 : decode cX8_plain 35 = .ok (.goto 57, 3) := by decide +kernel
theorem dX8_plain_38 : decode cX8_plain 38 = .ok (.iload_n 0, 1) := by decide +kernel
theorem dX8_plain_39 : decode cX8_plain 39 = .ok (.iconst 4, 1) := by decide +kernel
theorem dX8_plain_40 : decode cX8_plain 40 = .ok (.if_icmp .ne 8, 3) := by decide +kernel
theorem dX8_plain_43 : decode cX8_plain 43 = .ok (.bipush 100, 2) := by decide +kernel
theorem dX8_plain_45 : decode cX8_plain 45 = .ok (.goto 47, 3) := by decide +kernel
theorem dX8_plain_48 : decode cX8_plain 48 = .ok (.iload_n 0, 1) := by decide +kernel
theorem dX8_plain_49 : decode cX8_plain 49 = .ok (.iconst 5, 1) := by decide +kernel
theorem dX8_plain_50 : decode cX8_plain 50 = .ok (.if_icmp .ne 8, 3) := by decide +kernel
theorem dX8_plain_53 : decode cX8_plain 53 = .ok (.bipush 60, 2) := by decide +kernel
theorem dX8_plain_55 : decode cX8_plain 55 = .ok (.goto 37, 3) := by decide +kernel
theorem dX8_plain_58 : decode cX8_plain 58 = .ok (.iload_n 0, 1) := by decide +kernel
theorem dX8_plain_59 : decode cX8_plain 59 = .ok (.bipush 6, 2) := by decide +kernel
theorem dX8_plain_61 : decode cX8_plain 61 = .ok (.if_icmp .ne 7, 3) := by decide +kernel
theorem dX8_plain_64 : decode cX8_plain 64 = .ok (.iconst 1, 1) := by decide +kernel
theorem dX8_plain_65 : decode cX8_plain 65 = .ok (.goto 27, 3) := by decide +kernel
theorem dX8_plain_68 : decode cX8_plain 68 = .ok (.iload_n 0, 1) := by decide +kernel
theorem dX8_plain_69 : decode cX8_plain 69 = .ok (.bipush 7, 2) := by decide +kernel
theorem dX8_plain_71 : decode cX8_plain 71 = .ok (.if_icmp .ne 8, 3) := by decide +kernel
theorem dX8_plain_74 : decode cX8_plain 74 = .ok (.bipush 20, 2) := by decide +kernel
theorem dX8_plain_76 : decode cX8_plain 76 = .ok (.goto 16, 3) := by decide +kernel
theorem dX8_plain_79 : decode cX8_plain 79 = .ok (.iload_n 0, 1) := by decide +kernel
theorem dX8_plain_80 : decode cX8_plain 80 = .ok (.bipush 8, 2) := by decide +kernel
theorem dX8_plain_82 : decode cX8_plain 82 = .ok (.if_icmp .ne 9, 3) := by decide +kernel
theorem dX8_plain_85 : decode cX8_plain 85 = .ok (.sipush 400, 3) := by decide +kernel
theorem dX8_plain_88 : decode cX8_plain 88 = .ok (.goto 4, 3) := by decide +kernel
theorem dX8_plain_91 : decode cX8_plain 91 = .ok (.iconst 0, 1) := by decide +kernel
theorem dX8_plain_92 : decode cX8_plain 92 = .ok (.ireturn, 1) := by decide +kernel
set_option maxRecDepth 20000 in
theorem ggX8_readLine_X8_wrong : GoodIn wsX8_readLine wsX8_wrong := goodIn_r _ [9, 10, 11, 12, 86, 87, 88, 89, 90, 91, 92, 93, 94, 95, 96, 97, 98, 99, 100, 101, 102, 103, 104, 105, 106, 107, 108, 109, 110, 111, 112, 113, 114, 115, 116, 117, 118, 119, 120, 121, 122, 123, 124, 125, 126, 127, 128, 129, 130] (by decide +kernel) (by decide +kernel)
set_option maxRecDepth 20000 in
theorem gX8_readLine_X8_wrong : GoodIn wsX8_readLine (wsV RX8 160 RX8 yX8_wrong wsX8_wrong) := goodIn_app (goodIn_of _ (by decide +kernel)) ggX8_readLine_X8_wrong
set_option maxRecDepth 20000 in
theorem ggX8_readLine_X8_scan : GoodIn wsX8_readLine wsX8_scan := goodIn_r _ [16, 17, 11, 1, 2, 3, 18, 19, 20, 8, 21, 22, 23, 24, 25, 26, 27, 28, 29, 30, 31, 32, 33, 34, 35, 36, 37, 38, 39, 40, 41, 42, 43, 44, 45, 46, 47, 48, 49, 50, 51, 52, 53, 54, 55, 56, 57, 58, 59, 60, 61, 62, 63, 64, 65, 66, 67, 68, 69, 70, 71, 72, 73, 74, 75, 76, 77, 78, 79, 80, 81, 82, 86, 87, 88, 89, 90, 91, 92, 93, 94, 95, 96, 97, 98, 99, 100, 101, 102, 103, 104, 105, 106, 107, 108, 109, 110, 111, 112, 113, 114, 115, 116, 117, 118, 119, 120, 121, 122, 123, 124, 125, 126, 127, 128, 129, 130] (by decide +kernel) (by decide +kernel)
set_option maxRecDepth 20000 in
theorem gX8_readLine_X8_scan : GoodIn wsX8_readLine (wsV RX8 163 RX8 yX8_scan wsX8_scan) := goodIn_app (goodIn_of _ (by decide +kernel)) ggX8_readLine_X8_scan
set_option maxRecDepth 20000 in
theorem ggX8_readLine_X8_in : GoodIn wsX8_readLine wsX8_in := goodIn_r _ [85] (by decide +kernel) (by decide +kernel)
set_option maxRecDepth 20000 in
theorem gX8_readLine_X8_in : GoodIn wsX8_readLine (va_wsS RX8 166 yX8_in wsX8_in) := goodIn_app (goodIn_of _ (by decide +kernel)) ggX8_readLine_X8_in
theorem dX8_readLine_0 : decode cX8_readLine 0 = .ok (.aload_n 0, 1) := by decide +kernel
theorem dX8_readLine_1 : decode cX8_readLine 1 = .ok (.getfield 137, 3) := by decide +kernel
theorem dX8_readLine_4 : decode cX8_readLine 4 = .ok (.iconst 1, 1) := by decide +kernel
theorem dX8_readLine_5 : decode cX8_readLine 5 = .ok (.if_icmp .ne 12, 3) := by decide +kernel
theorem dX8_readLine_8 : decode cX8_readLine 8 = .ok (.aload_n 0, 1) := by decide +kernel
theorem dX8_readLine_9 : decode cX8_readLine 9 = .ok (.getfield 148, 3) := by decide +kernel
theorem dX8_readLine_12 : decode cX8_readLine 12 = .ok (.bipush 10, 2) := by decide +kernel
theorem dX8_readLine_14 : decode cX8_readLine 14 = .ok (.if_icmp .le 9, 3) := by decide +kernel
theorem dX8_readLine_17 : decode cX8_readLine 17 = .ok (.aload_n 0, 1) := by decide +kernel
theorem dX8_readLine_18 : decode cX8_readLine 18 = .ok (.iconst 1, 1) := by decide +kernel
theorem dX8_readLine_19 : decode cX8_readLine 19 = .ok (.invokevirtual 160, 3) := by decide +kernel
theorem dX8_readLine_22 : decode cX8_readLine 22 = .ok (.ireturn, 1) := by decide +kernel
theorem dX8_readLine_23 : decode cX8_readLine 23 = .ok (.aload_n 0, 1) := by decide +kernel
theorem dX8_readLine_24 : decode cX8_readLine 24 = .ok (.getfield 148, 3) := by decide +kernel
theorem dX8_readLine_27 : decode cX8_readLine 27 = .ok (.istore_n 2, 1) := by decide +kernel
theorem dX8_readLine_28 : decode cX8_readLine 28 = .ok (.iload_n 2, 1) := by decide +kernel
theorem dX8_readLine_29 : decode cX8_readLine 29 = .ok (.bipush 10, 2) := by decide +kernel
theorem dX8_readLine_31 : decode cX8_readLine 31 = .ok (.if_icmp .eq 15, 3) := by decide +kernel
theorem dX8_readLine_34 : decode cX8_readLine 34 = .ok (.aload_n 1, 1) := by decide +kernel
theorem dX8_readLine_35 : decode cX8_readLine 35 = .ok (.iload_n 2, 1) := by decide +kernel
theorem dX8_readLine_36 : decode cX8_readLine 36 = .ok (.baload, 1) := by decide +kernel
theorem dX8_readLine_37 : decode cX8_readLine 37 = .ok (.ifCond .eq 9, 3) := by decide +kernel
theorem dX8_readLine_40 : decode cX8_readLine 40 = .ok (.aload_n 0, 1) := by decide +kernel
theorem dX8_readLine_41 : decode cX8_readLine 41 = .ok (.iconst 3, 1) := by decide +kernel
theorem dX8_readLine_42 : decode cX8_readLine 42 = .ok (.invokevirtual 160, 3) := by decide +kernel
theorem dX8_readLine_45 : decode cX8_readLine 45 = .ok (.ireturn, 1) := by decide +kernel
theorem dX8_readLine_46 : decode cX8_readLine 46 = .ok (.aload_n 1, 1) := by decide +kernel
theorem dX8_readLine_47 : decode cX8_readLine 47 = .ok (.iload_n 2, 1) := by decide +kernel
theorem dX8_readLine_48 : decode cX8_readLine 48 = .ok (.iconst 1, 1) := by decide +kernel
theorem dX8_readLine_49 : decode cX8_readLine 49 = .ok (.bastore, 1) := by decide +kernel
theorem dX8_readLine_50 : decode cX8_readLine 50 = .ok (.aload_n 0, 1) := by decide +kernel
theorem dX8_readLine_51 : decode cX8_readLine 51 = .ok (.invokevirtual 163, 3) := by decide +kernel
theorem dX8_readLine_54 : decode cX8_readLine 54 = .ok (.iload_n 2, 1) := by decide +kernel
theorem dX8_readLine_55 : decode cX8_readLine 55 = .ok (.bipush 9, 2) := by decide +kernel
theorem dX8_readLine_57 : decode cX8_readLine 57 = .ok (.if_icmp .ge 72, 3) := by decide +kernel
theorem dX8_readLine_60 : decode cX8_readLine 60 = .ok (.aload_n 0, 1) := by decide +kernel
theorem dX8_readLine_61 : decode cX8_readLine 61 = .ok (.getfield 137, 3) := by decide +kernel
theorem dX8_readLine_64 : decode cX8_readLine 64 = .ok (.iconst 2, 1) := by decide +kernel
theorem dX8_readLine_65 : decode cX8_readLine 65 = .ok (.if_icmp .eq 9, 3) := by decide +kernel
theorem dX8_readLine_68 : decode cX8_readLine 68 = .ok (.aload_n 0, 1) := by decide +kernel
theorem dX8_readLine_69 : decode cX8_readLine 69 = .ok (.iconst 1, 1) := by decide +kernel
theorem dX8_readLine_70 : decode cX8_readLine 70 = .ok (.invokevirtual 160, 3) := by decide +kernel
theorem dX8_readLine_73 : decode cX8_readLine 73 = .ok (.ireturn, 1) := by decide +kernel
theorem dX8_readLine_74 : decode cX8_readLine 74 = .ok (.iload_n 2, 1) := by decide +kernel
theorem dX8_readLine_75 : decode cX8_readLine 75 = .ok (.iconst 2, 1) := by decide +kernel
theorem dX8_readLine_76 : decode cX8_readLine 76 = .ok (.if_icmp .ne 12, 3) := by decide +kernel
theorem dX8_readLine_79 : decode cX8_readLine 79 = .ok (.aload_n 0, 1) := by decide +kernel
theorem dX8_readLine_80 : decode cX8_readLine 80 = .ok (.getfield 154, 3) := by decide +kernel
theorem dX8_readLine_83 : decode cX8_readLine 83 = .ok (.bipush 9, 2) := by decide +kernel
theorem dX8_readLine_85 : decode cX8_readLine 85 = .ok (.if_icmp .gt 21, 3) := by decide +kernel
theorem dX8_readLine_88 : decode cX8_readLine 88 = .ok (.iload_n 2, 1) := by decide +kernel
theorem dX8_readLine_89 : decode cX8_readLine 89 = .ok (.iconst 3, 1) := by decide +kernel
theorem dX8_readLine_90 : decode cX8_readLine 90 = .ok (.if_icmp .ne 22, 3) := by decide +kernel
theorem dX8_readLine_93 : decode cX8_readLine 93 = .ok (.aload_n 0, 1) := by decide +kernel
theorem dX8_readLine_94 : decode cX8_readLine 94 = .ok (.getfield 154, 3) := by decide +kernel
theorem dX8_readLine_97 : decode cX8_readLine 97 = .ok (.iconst 1, 1) := by decide +kernel
theorem dX8_readLine_98 : decode cX8_readLine 98 = .ok (.bipush 30, 2) := by decide +kernel
theorem dX8_readLine_100 : decode cX8_readLine 100 = .ok (.invokestatic 166, 3) := by decide +kernel
theorem dX8_readLine_103 : decode cX8_readLine 103 = .ok (.ifCond .ne 9, 3) := by decide +kernel
theorem dX8_readLine_106 : decode cX8_readLine 106 = .ok (.aload_n 0, 1) := by decide +kernel
theorem dX8_readLine_107 : decode cX8_readLine 107 = .ok (.iconst 2, 1) := by decide +kernel
theorem dX8_readLine_108 : decode cX8_readLine 108 = .ok (.invokevirtual 160, 3) := by decide +kernel
theorem dX8_readLine_111 : decode cX8_readLine 111 = .ok (.ireturn, 1) := by decide +kernel
theorem dX8_readLine_112 : decode cX8_readLine 112 = .ok (.aload_n 0, 1) := by decide +kernel
theorem dX8_readLine_113 : decode cX8_readLine 113 = .ok (.getfield 17, 3) := by decide +kernel
theorem dX8_readLine_116 : decode cX8_readLine 116 = .ok (.sipush 220, 3) := by decide +kernel
theorem dX8_readLine_119 : decode cX8_readLine 119 = .ok (.iload_n 2, 1) := by decide +kernel
theorem dX8_readLine_120 : decode cX8_readLine 120 = .ok (.iadd, 1) := by decide +kernel
theorem dX8_readLine_121 : decode cX8_readLine 121 = .ok (.aload_n 0, 1) := by decide +kernel
theorem dX8_readLine_122 : decode cX8_readLine 122 = .ok (.getfield 154, 3) := by decide +kernel
theorem dX8_readLine_125 : decode cX8_readLine 125 = .ok (.iastore, 1) := by decide +kernel
theorem dX8_readLine_126 : decode cX8_readLine 126 = .ok (.goto 119, 3) := by decide +kernel
theorem dX8_readLine_129 : decode cX8_readLine 129 = .ok (.iload_n 2, 1) := by decide +kernel
theorem dX8_readLine_130 : decode cX8_readLine 130 = .ok (.bipush 9, 2) := by decide +kernel
theorem dX8_readLine_132 : decode cX8_readLine 132 = .ok (.if_icmp .ne 49, 3) := by decide +kernel
theorem dX8_readLine_135 : decode cX8_readLine 135 = .ok (.aload_n 0, 1) := by decide +kernel
theorem dX8_readLine_136 : decode cX8_readLine 136 = .ok (.getfield 137, 3) := by decide +kernel
theorem dX8_readLine_139 : decode cX8_readLine 139 = .ok (.iconst 1, 1) := by decide +kernel
theorem dX8_readLine_140 : decode cX8_readLine 140 = .ok (.if_icmp .ne 17, 3) := by decide +kernel
theorem dX8_readLine_143 : decode cX8_readLine 143 = .ok (.aload_n 0, 1) := by decide +kernel
theorem dX8_readLine_144 : decode cX8_readLine 144 = .ok (.getfield 148, 3) := by decide +kernel
theorem dX8_readLine_147 : decode cX8_readLine 147 = .ok (.bipush 11, 2) := by decide +kernel
theorem dX8_readLine_149 : decode cX8_readLine 149 = .ok (.bipush 13, 2) := by decide +kernel
theorem dX8_readLine_151 : decode cX8_readLine 151 = .ok (.invokestatic 166, 3) := by decide +kernel
theorem dX8_readLine_154 : decode cX8_readLine 154 = .ok (.ifCond .ne 9, 3) := by decide +kernel
theorem dX8_readLine_157 : decode cX8_readLine 157 = .ok (.aload_n 0, 1) := by decide +kernel
theorem dX8_readLine_158 : decode cX8_readLine 158 = .ok (.iconst 1, 1) := by decide +kernel
theorem dX8_readLine_159 : decode cX8_readLine 159 = .ok (.invokevirtual 160, 3) := by decide +kernel
theorem dX8_readLine_162 : decode cX8_readLine 162 = .ok (.ireturn, 1) := by decide +kernel
theorem dX8_readLine_163 : decode cX8_readLine 163 = .ok (.aload_n 0, 1) := by decide +kernel
theorem dX8_readLine_164 : decode cX8_readLine 164 = .ok (.getfield 17, 3) := by decide +kernel
theorem dX8_readLine_167 : decode cX8_readLine 167 = .ok (.sipush 229, 3) := by decide +kernel
theorem dX8_readLine_170 : decode cX8_readLine 170 = .ok (.aload_n 0, 1) := by decide +kernel
theorem dX8_readLine_171 : decode cX8_readLine 171 = .ok (.getfield 148, 3) := by decide +kernel
theorem dX8_readLine_174 : decode cX8_readLine 174 = .ok (.bipush 11, 2) := by decide +kernel
theorem dX8_readLine_176 : decode cX8_readLine 176 = .ok (.isub, 1) := by decide +kernel
theorem dX8_readLine_177 : decode cX8_readLine 177 = .ok (.iastore, 1) := by decide +kernel
theorem dX8_readLine_178 : decode cX8_readLine 178 = .ok (.goto 67, 3) := by decide +kernel
theorem dX8_readLine_181 : decode cX8_readLine 181 = .ok (.aload_n 0, 1) := by decide +kernel
theorem dX8_readLine_182 : decode cX8_readLine 182 = .ok (.getfield 137, 3) := by decide +kernel
theorem dX8_readLine_185 : decode cX8_readLine 185 = .ok (.iconst 1, 1) := by decide +kernel
theorem dX8_readLine_186 : decode cX8_readLine 186 = .ok (.if_icmp .ne 12, 3) := by decide +kernel
theorem dX8_readLine_189 : decode cX8_readLine 189 = .ok (.aload_n 0, 1) := by decide +kernel
theorem dX8_readLine_190 : decode cX8_readLine 190 = .ok (.getfield 148, 3) := by decide +kernel
theorem dX8_readLine_193 : decode cX8_readLine 193 = .ok (.bipush 14, 2) := by decide +kernel
theorem dX8_readLine_195 : decode cX8_readLine 195 = .ok (.if_icmp .ge 9, 3) := by decide +kernel
theorem dX8_readLine_198 : decode cX8_readLine 198 = .ok (.aload_n 0, 1) := by decide +kernel
theorem dX8_readLine_199 : decode cX8_readLine 199 = .ok (.iconst 1, 1) := by decide +kernel
theorem dX8_readLine_200 : decode cX8_readLine 200 = .ok (.invokevirtual 160, 3) := by decide +kernel
theorem dX8_readLine_203 : decode cX8_readLine 203 = .ok (.ireturn, 1) := by decide +kernel
theorem dX8_readLine_204 : decode cX8_readLine 204 = .ok (.iconst 1, 1) := by decide +kernel
theorem dX8_readLine_205 : decode cX8_readLine 205 = .ok (.aload_n 0, 1) := by decide +kernel
theorem dX8_readLine_206 : decode cX8_readLine 206 = .ok (.getfield 148, 3) := by decide +kernel
theorem dX8_readLine_209 : decode cX8_readLine 209 = .ok (.bipush 14, 2) := by decide +kernel
theorem dX8_readLine_211 : decode cX8_readLine 211 = .ok (.isub, 1) := by decide +kernel
theorem dX8_readLine_212 : decode cX8_readLine 212 = .ok (.ishl, 1) := by decide +kernel
theorem dX8_readLine_213 : decode cX8_readLine 213 = .ok (.istore_n 3, 1) := by decide +kernel
theorem dX8_readLine_214 : decode cX8_readLine 214 = .ok (.aload_n 0, 1) := by decide +kernel
theorem dX8_readLine_215 : decode cX8_readLine 215 = .ok (.getfield 17, 3) := by decide +kernel
theorem dX8_readLine_218 : decode cX8_readLine 218 = .ok (.sipush 230, 3) := by decide +kernel
theorem dX8_readLine_221 : decode cX8_readLine 221 = .ok (.iaload, 1) := by decide +kernel
theorem dX8_readLine_222 : decode cX8_readLine 222 = .ok (.iload_n 3, 1) := by decide +kernel
theorem dX8_readLine_223 : decode cX8_readLine 223 = .ok (.iand, 1) := by decide +kernel
theorem dX8_readLine_224 : decode cX8_readLine 224 = .ok (.ifCond .eq 9, 3) := by decide +kernel
theorem dX8_readLine_227 : decode cX8_readLine 227 = .ok (.aload_n 0, 1) := by decide +kernel
theorem dX8_readLine_228 : decode cX8_readLine 228 = .ok (.iconst 3, 1) := by decide +kernel
theorem dX8_readLine_229 : decode cX8_readLine 229 = .ok (.invokevirtual 160, 3) := by decide +kernel
theorem dX8_readLine_232 : decode cX8_readLine 232 = .ok (.ireturn, 1) := by decide +kernel
theorem dX8_readLine_233 : decode cX8_readLine 233 = .ok (.aload_n 0, 1) := by decide +kernel
theorem dX8_readLine_234 : decode cX8_readLine 234 = .ok (.getfield 17, 3) := by decide +kernel
theorem dX8_readLine_237 : decode cX8_readLine 237 = .ok (.sipush 230, 3) := by decide +kernel
theorem dX8_readLine_240 : decode cX8_readLine 240 = .ok (.dup2, 1) := by decide +kernel
theorem dX8_readLine_241 : decode cX8_readLine 241 = .ok (.iaload, 1) := by decide +kernel
theorem dX8_readLine_242 : decode cX8_readLine 242 = .ok (.iload_n 3, 1) := by decide +kernel
theorem dX8_readLine_243 : decode cX8_readLine 243 = .ok (.ior, 1) := by decide +kernel
theorem dX8_readLine_244 : decode cX8_readLine 244 = .ok (.iastore, 1) := by decide +kernel
theorem dX8_readLine_245 : decode cX8_readLine 245 = .ok (.aload_n 0, 1) := by decide +kernel
theorem dX8_readLine_246 : decode cX8_readLine 246 = .ok (.invokevirtual 163, 3) := by decide +kernel
theorem dX8_readLine_249 : decode cX8_readLine 249 = .ok (.aload_n 0, 1) := by decide +kernel
theorem dX8_readLine_250 : decode cX8_readLine 250 = .ok (.getfield 137, 3) := by decide +kernel
theorem dX8_readLine_253 : decode cX8_readLine 253 = .ok (.iconst 3, 1) := by decide +kernel
theorem dX8_readLine_254 : decode cX8_readLine 254 = .ok (.if_icmp .eq 9, 3) := by decide +kernel
theorem dX8_readLine_257 : decode cX8_readLine 257 = .ok (.aload_n 0, 1) := by decide +kernel
theorem dX8_readLine_258 : decode cX8_readLine 258 = .ok (.iconst 1, 1) := by decide +kernel
theorem dX8_readLine_259 : decode cX8_readLine 259 = .ok (.invokevirtual 160, 3) := by decide +kernel
theorem dX8_readLine_262 : decode cX8_readLine 262 = .ok (.ireturn, 1) := by decide +kernel
theorem dX8_readLine_263 : decode cX8_readLine 263 = .ok (.aload_n 0, 1) := by decide +kernel
theorem dX8_readLine_264 : decode cX8_readLine 264 = .ok (.invokevirtual 163, 3) := by decide +kernel
theorem dX8_readLine_267 : decode cX8_readLine 267 = .ok (.iconst 1, 1) := by decide +kernel
theorem dX8_readLine_268 : decode cX8_readLine 268 = .ok (.ireturn, 1) := by decide +kernel
set_option maxRecDepth 20000 in
theorem ggX8_edition_X8_isDay : GoodIn wsX8_edition wsX8_isDay := goodIn_r _ [14, 15, 16, 13, 17] (by decide +kernel) (by decide +kernel)
set_option maxRecDepth 20000 in
theorem gX8_edition_X8_isDay : GoodIn wsX8_edition (va_wsS RX8 170 yX8_isDay wsX8_isDay) := goodIn_app (goodIn_of _ (by decide +kernel)) ggX8_edition_X8_isDay
set_option maxRecDepth 20000 in
theorem ggX8_edition_X8_plain : GoodIn wsX8_edition wsX8_plain := goodIn_r _ [20] (by decide +kernel) (by decide +kernel)
set_option maxRecDepth 20000 in
theorem gX8_edition_X8_plain : GoodIn wsX8_edition (va_wsS RX8 173 yX8_plain wsX8_plain) := goodIn_app (goodIn_of _ (by decide +kernel)) ggX8_edition_X8_plain
set_option maxRecDepth 20000 in
theorem ggX8_edition_X8_scan : GoodIn wsX8_edition wsX8_scan := goodIn_r _ [24, 5, 25, 8, 26, 27, 28, 29, 30, 13, 31, 2, 32, 33, 34, 35, 36, 37, 38, 39, 40, 41, 42, 43, 44, 45, 46, 47, 48, 49, 50, 51, 52, 53, 54, 55, 56, 57, 58, 59, 60, 61, 62, 63, 64, 65, 66, 67, 68, 69, 70, 71, 72, 73, 74, 75, 76, 77, 78, 79, 80, 81, 82, 83, 84, 85, 86, 87, 88, 89, 90, 91, 100, 101, 102, 103, 104, 105, 106, 107, 108, 109, 110, 111, 112, 113, 114, 115, 116, 117, 118, 119, 120, 121, 122, 123, 124, 125, 126, 127, 128, 129, 130, 131, 132, 133, 134, 135, 136, 137, 138, 139, 140, 141, 142, 143, 144] (by decide +kernel) (by decide +kernel)
set_option maxRecDepth 20000 in
theorem gX8_edition_X8_scan : GoodIn wsX8_edition (wsV RX8 163 RX8 yX8_scan wsX8_scan) := goodIn_app (goodIn_of _ (by decide +kernel)) ggX8_edition_X8_scan
set_option maxRecDepth 20000 in
theorem ggX8_edition_X8_readLine : GoodIn wsX8_edition wsX8_readLine := goodIn_r _ [95, 8, 26, 27, 6, 96, 97, 98, 13, 99, 3, 25, 4, 21, 22, 23, 24, 5, 28, 29, 30, 31, 2, 32, 33, 34, 35, 36, 37, 38, 39, 40, 41, 42, 43, 44, 45, 46, 47, 48, 49, 50, 51, 52, 53, 54, 55, 56, 57, 58, 59, 60, 61, 62, 63, 64, 65, 66, 67, 68, 69, 70, 71, 72, 73, 74, 75, 76, 77, 78, 79, 80, 81, 82, 83, 84, 85, 86, 87, 88, 89, 90, 91, 15, 16, 17, 100, 101, 102, 103, 104, 105, 106, 107, 108, 109, 110, 111, 112, 113, 114, 115, 116, 117, 118, 119, 120, 121, 122, 123, 124, 125, 126, 127, 128, 129, 130, 131, 132, 133, 134, 135, 136, 137, 138, 139, 140, 141, 142, 143, 144] (by decide +kernel) (by decide +kernel)
set_option maxRecDepth 20000 in
theorem gX8_edition_X8_readLine : GoodIn wsX8_edition (wsV RX8 176 RX8 yX8_readLine wsX8_readLine) := goodIn_app (goodIn_of _ (by decide +kernel)) ggX8_edition_X8_readLine
theorem dX8_edition_0 : decode cX8_edition 0 = .ok (.aload_n 0, 1) := by decide +kernel
theorem dX8_edition_1 : decode cX8_edition 1 = .ok (.aload_n 0, 1) := by decide +kernel
theorem dX8_edition_2 : decode cX8_edition 2 = .ok (.getfield 109, 3) := by decide +kernel
theorem dX8_edition_5 : decode cX8_edition 5 = .ok (.putfield 112, 3) := by decide +kernel
theorem dX8_edition_8 : decode cX8_edition 8 = .ok (.aload_n 0, 1) := by decide +kernel
theorem dX8_edition_9 : decode cX8_edition 9 = .ok (.iconst 0, 1) := by decide +kernel
theorem dX8_edition_10 : decode cX8_edition 10 = .ok (.putfield 109, 3) := by decide +kernel
theorem dX8_edition_13 : decode cX8_edition 13 = .ok (.iload_n 1, 1) := by decide +kernel
theorem dX8_edition_14 : decode cX8_edition 14 = .ok (.invokestatic 170, 3) := by decide +kernel
theorem dX8_edition_17 : decode cX8_edition 17 = .ok (.ifCond .ne 6, 3) := by decide +kernel
theorem dX8_edition_20 : decode cX8_edition 20 = .ok (.bipush (-2), 2) := by decide +kernel
theorem dX8_edition_22 : decode cX8_edition 22 = .ok (.ireturn, 1) := by decide +kernel
theorem dX8_edition_23 : decode cX8_edition 23 = .ok (.aload_n 0, 1) := by decide +kernel
theorem dX8_edition_24 : decode cX8_edition 24 = .ok (.iconst 0, 1) := by decide +kernel
theorem dX8_edition_25 : decode cX8_edition 25 = .ok (.putfield 157, 3) := by decide +kernel
theorem dX8_edition_28 : decode cX8_edition 28 = .ok (.aload_n 0, 1) := by decide +kernel
theorem dX8_edition_29 : decode cX8_edition 29 = .ok (.iconst (-1), 1) := by decide +kernel
theorem dX8_edition_30 : decode cX8_edition 30 = .ok (.putfield 13, 3) := by decide +kernel
theorem dX8_edition_33 : decode cX8_edition 33 = .ok (.aload_n 0, 1) := by decide +kernel
theorem dX8_edition_34 : decode cX8_edition 34 = .ok (.iconst 0, 1) := by decide +kernel
theorem dX8_edition_35 : decode cX8_edition 35 = .ok (.putfield 131, 3) := by decide +kernel
theorem dX8_edition_38 : decode cX8_edition 38 = .ok (.iconst 0, 1) := by decide +kernel
theorem dX8_edition_39 : decode cX8_edition 39 = .ok (.istore_n 2, 1) := by decide +kernel
theorem dX8_edition_40 : decode cX8_edition 40 = .ok (.iload_n 2, 1) := by decide +kernel
theorem dX8_edition_41 : decode cX8_edition 41 = .ok (.bipush 11, 2) := by decide +kernel
theorem dX8_edition_43 : decode cX8_edition 43 = .ok (.if_icmp .ge 30, 3) := by decide +kernel
theorem dX8_edition_46 : decode cX8_edition 46 = .ok (.aload_n 0, 1) := by decide +kernel
theorem dX8_edition_47 : decode cX8_edition 47 = .ok (.getfield 17, 3) := by decide +kernel
theorem dX8_edition_50 : decode cX8_edition 50 = .ok (.sipush 220, 3) := by decide +kernel
theorem dX8_edition_53 : decode cX8_edition 53 = .ok (.iload_n 2, 1) := by decide +kernel
theorem dX8_edition_54 : decode cX8_edition 54 = .ok (.iadd, 1) := by decide +kernel
theorem dX8_edition_55 : decode cX8_edition 55 = .ok (.iload_n 2, 1) := by decide +kernel
theorem dX8_edition_56 : decode cX8_edition 56 = .ok (.invokestatic 173, 3) := by decide +kernel
theorem dX8_edition_59 : decode cX8_edition 59 = .ok (.iastore, 1) := by decide +kernel
theorem dX8_edition_60 : decode cX8_edition 60 = .ok (.aload_n 0, 1) := by decide +kernel
theorem dX8_edition_61 : decode cX8_edition 61 = .ok (.getfield 24, 3) := by decide +kernel
theorem dX8_edition_64 : decode cX8_edition 64 = .ok (.iload_n 2, 1) := by decide +kernel
theorem dX8_edition_65 : decode cX8_edition 65 = .ok (.iconst 0, 1) := by decide +kernel
theorem dX8_edition_66 : decode cX8_edition 66 = .ok (.bastore, 1) := by decide +kernel
theorem dX8_edition_67 : decode cX8_edition 67 = .ok (.iinc 2 1, 3) := by decide +kernel
theorem dX8_edition_70 : decode cX8_edition 70 = .ok (.goto (-30), 3) := by decide +kernel
theorem dX8_edition_73 : decode cX8_edition 73 = .ok (.aload_n 0, 1) := by decide +kernel
theorem dX8_edition_74 : decode cX8_edition 74 = .ok (.invokevirtual 163, 3) := by decide +kernel
theorem dX8_edition_77 : decode cX8_edition 77 = .ok (.aload_n 0, 1) := by decide +kernel
theorem dX8_edition_78 : decode cX8_edition 78 = .ok (.getfield 137, 3) := by decide +kernel
theorem dX8_edition_81 : decode cX8_edition 81 = .ok (.iconst 4, 1) := by decide +kernel
theorem dX8_edition_82 : decode cX8_edition 82 = .ok (.if_icmp .eq 16, 3) := by decide +kernel
theorem dX8_edition_85 : decode cX8_edition 85 = .ok (.aload_n 0, 1) := by decide +kernel
theorem dX8_edition_86 : decode cX8_edition 86 = .ok (.aload_n 0, 1) := by decide +kernel
theorem dX8_edition_87 : decode cX8_edition 87 = .ok (.getfield 24, 3) := by decide +kernel
theorem dX8_edition_90 : decode cX8_edition 90 = .ok (.invokevirtual 176, 3) := by decide +kernel
theorem dX8_edition_93 : decode cX8_edition 93 = .ok (.ifCond .ne (-16), 3) := by decide +kernel
theorem dX8_edition_96 : decode cX8_edition 96 = .ok (.iconst (-1), 1) := by decide +kernel
theorem dX8_edition_97 : decode cX8_edition 97 = .ok (.ireturn, 1) := by decide +kernel
theorem dX8_edition_98 : decode cX8_edition 98 = .ok (.aload_n 0, 1) := by decide +kernel
theorem dX8_edition_99 : decode cX8_edition 99 = .ok (.getfield 180, 3) := by decide +kernel
theorem dX8_edition_102 : decode cX8_edition 102 = .ok (.bipush 20, 2) := by decide +kernel
theorem dX8_edition_104 : decode cX8_edition 104 = .ok (.if_icmp .ne 6, 3) := by decide +kernel
theorem dX8_edition_107 : decode cX8_edition 107 = .ok (.bipush (-3), 2) := by decide +kernel
theorem dX8_edition_109 : decode cX8_edition 109 = .ok (.ireturn, 1) := by decide +kernel
theorem dX8_edition_110 : decode cX8_edition 110 = .ok (.iconst 0, 1) := by decide +kernel
theorem dX8_edition_111 : decode cX8_edition 111 = .ok (.istore_n 2, 1) := by decide +kernel
theorem dX8_edition_112 : decode cX8_edition 112 = .ok (.iload_n 2, 1) := by decide +kernel
theorem dX8_edition_113 : decode cX8_edition 113 = .ok (.bipush 11, 2) := by decide +kernel
theorem dX8_edition_115 : decode cX8_edition 115 = .ok (.if_icmp .ge 33, 3) := by decide +kernel
theorem dX8_edition_118 : decode cX8_edition 118 = .ok (.aload_n 0, 1) := by decide +kernel
theorem dX8_edition_119 : decode cX8_edition 119 = .ok (.getfield 17, 3) := by decide +kernel
theorem dX8_edition_122 : decode cX8_edition 122 = .ok (.bipush 11, 2) := by decide +kernel
theorem dX8_edition_124 : decode cX8_edition 124 = .ok (.aload_n 0, 1) := by decide +kernel
theorem dX8_edition_125 : decode cX8_edition 125 = .ok (.getfield 180, 3) := by decide +kernel
theorem dX8_edition_128 : decode cX8_edition 128 = .ok (.imul, 1) := by decide +kernel
theorem dX8_edition_129 : decode cX8_edition 129 = .ok (.iload_n 2, 1) := by decide +kernel
theorem dX8_edition_130 : decode cX8_edition 130 = .ok (.iadd, 1) := by decide +kernel
theorem dX8_edition_131 : decode cX8_edition 131 = .ok (.aload_n 0, 1) := by decide +kernel
theorem dX8_edition_132 : decode cX8_edition 132 = .ok (.getfield 17, 3) := by decide +kernel
theorem dX8_edition_135 : decode cX8_edition 135 = .ok (.sipush 220, 3) := by decide +kernel
theorem dX8_edition_138 : decode cX8_edition 138 = .ok (.iload_n 2, 1) := by decide +kernel
theorem dX8_edition_139 : decode cX8_edition 139 = .ok (.iadd, 1) := by decide +kernel
theorem dX8_edition_140 : decode cX8_edition 140 = .ok (.iaload, 1) := by decide +kernel
theorem dX8_edition_141 : decode cX8_edition 141 = .ok (.iastore, 1) := by decide +kernel
theorem dX8_edition_142 : decode cX8_edition 142 = .ok (.iinc 2 1, 3) := by decide +kernel
theorem dX8_edition_145 : decode cX8_edition 145 = .ok (.goto (-33), 3) := by decide +kernel
theorem dX8_edition_148 : decode cX8_edition 148 = .ok (.aload_n 0, 1) := by decide +kernel
theorem dX8_edition_149 : decode cX8_edition 149 = .ok (.getfield 21, 3) := by decide +kernel
theorem dX8_edition_152 : decode cX8_edition 152 = .ok (.aload_n 0, 1) := by decide +kernel
theorem dX8_edition_153 : decode cX8_edition 153 = .ok (.getfield 180, 3) := by decide +kernel
theorem dX8_edition_156 : decode cX8_edition 156 = .ok (.iload_n 1, 1) := by decide +kernel
theorem dX8_edition_157 : decode cX8_edition 157 = .ok (.iastore, 1) := by decide +kernel
theorem dX8_edition_158 : decode cX8_edition 158 = .ok (.aload_n 0, 1) := by decide +kernel
theorem dX8_edition_159 : decode cX8_edition 159 = .ok (.dup, 1) := by decide +kernel
theorem dX8_edition_160 : decode cX8_edition 160 = .ok (.getfield 180, 3) := by decide +kernel
theorem dX8_edition_163 : decode cX8_edition 163 = .ok (.iconst 1, 1) := by decide +kernel
theorem dX8_edition_164 : decode cX8_edition 164 = .ok (.iadd, 1) := by decide +kernel
theorem dX8_edition_165 : decode cX8_edition 165 = .ok (.putfield 180, 3) := by decide +kernel
theorem dX8_edition_168 : decode cX8_edition 168 = .ok (.aload_n 0, 1) := by decide +kernel
theorem dX8_edition_169 : decode cX8_edition 169 = .ok (.getfield 180, 3) := by decide +kernel
theorem dX8_edition_172 : decode cX8_edition 172 = .ok (.iconst 1, 1) := by decide +kernel
theorem dX8_edition_173 : decode cX8_edition 173 = .ok (.isub, 1) := by decide +kernel
theorem dX8_edition_174 : decode cX8_edition 174 = .ok (.ireturn, 1) := by decide +kernel
theorem dX8_fault_0 : decode cX8_fault 0 = .ok (.iload_n 1, 1) := by decide +kernel
theorem dX8_fault_1 : decode cX8_fault 1 = .ok (.ifCond .ne 10, 3) := by decide +kernel
theorem dX8_fault_4 : decode cX8_fault 4 = .ok (.aload_n 0, 1) := by decide +kernel
theorem dX8_fault_5 : decode cX8_fault 5 = .ok (.getfield 157, 3) := by decide +kernel
theorem dX8_fault_8 : decode cX8_fault 8 = .ok (.goto 16, 3) := by decide +kernel
theorem dX8_fault_11 : decode cX8_fault 11 = .ok (.iload_n 1, 1) := by decide +kernel
theorem dX8_fault_12 : decode cX8_fault 12 = .ok (.iconst 1, 1) := by decide +kernel
theorem dX8_fault_13 : decode cX8_fault 13 = .ok (.if_icmp .ne 10, 3) := by decide +kernel
theorem dX8_fault_16 : decode cX8_fault 16 = .ok (.aload_n 0, 1) := by decide +kernel
theorem dX8_fault_17 : decode cX8_fault 17 = .ok (.getfield 13, 3) := by decide +kernel
theorem dX8_fault_20 : decode cX8_fault 20 = .ok (.goto 4, 3) := by decide +kernel
theorem dX8_fault_23 : decode cX8_fault 23 = .ok (.iconst (-1), 1) := by decide +kernel
theorem dX8_fault_24 : decode cX8_fault 24 = .ok (.ireturn, 1) := by decide +kernel
set_option maxRecDepth 20000 in
theorem ggX8_isDay_X8_in : GoodIn wsX8_isDay wsX8_in := goodIn_r _ [4] (by decide +kernel) (by decide +kernel)
set_option maxRecDepth 20000 in
theorem gX8_isDay_X8_in : GoodIn wsX8_isDay (va_wsS RX8 166 yX8_in wsX8_in) := goodIn_app (goodIn_of _ (by decide +kernel)) ggX8_isDay_X8_in
theorem dX8_isDay_0 : decode cX8_isDay 0 = .ok (.iload_n 0, 1) := by decide +kernel
theorem dX8_isDay_1 : decode cX8_isDay 1 = .ok (.iconst 0, 1) := by decide +kernel
theorem dX8_isDay_2 : decode cX8_isDay 2 = .ok (.sipush 999, 3) := by decide +kernel
theorem dX8_isDay_5 : decode cX8_isDay 5 = .ok (.invokestatic 166, 3) := by decide +kernel
theorem dX8_isDay_8 : decode cX8_isDay 8 = .ok (.ireturn, 1) := by decide +kernel
theorem dX8_forceOf_0 : decode cX8_forceOf 0 = .ok (.iconst (-1), 1) := by decide +kernel
theorem dX8_forceOf_1 : decode cX8_forceOf 1 = .ok (.istore_n 3, 1) := by decide +kernel
theorem dX8_forceOf_2 : decode cX8_forceOf 2 = .ok (.iconst 0, 1) := by decide +kernel
theorem dX8_forceOf_3 : decode cX8_forceOf 3 = .ok (.istore 4, 2) := by decide +kernel
theorem dX8_forceOf_5 : decode cX8_forceOf 5 = .ok (.iload 4, 2) := by decide +kernel
theorem dX8_forceOf_7 : decode cX8_forceOf 7 = .ok (.iload_n 2, 1) := by decide +kernel
theorem dX8_forceOf_8 : decode cX8_forceOf 8 = .ok (.if_icmp .ge 44, 3) := by decide +kernel
theorem dX8_forceOf_11 : decode cX8_forceOf 11 = .ok (.aload_n 0, 1) := by decide +kernel
theorem dX8_forceOf_12 : decode cX8_forceOf 12 = .ok (.getfield 21, 3) := by decide +kernel
theorem dX8_forceOf_15 : decode cX8_forceOf 15 = .ok (.iload 4, 2) := by decide +kernel
theorem dX8_forceOf_17 : decode cX8_forceOf 17 = .ok (.iaload, 1) := by decide +kernel
theorem dX8_forceOf_18 : decode cX8_forceOf 18 = .ok (.iload_n 1, 1) := by decide +kernel
theorem dX8_forceOf_19 : decode cX8_forceOf 19 = .ok (.if_icmp .gt 27, 3) := by decide +kernel
theorem dX8_forceOf_22 : decode cX8_forceOf 22 = .ok (.iload_n 3, 1) := by decide +kernel
theorem dX8_forceOf_23 : decode cX8_forceOf 23 = .ok (.iconst (-1), 1) := by decide +kernel
theorem dX8_forceOf_24 : decode cX8_forceOf 24 = .ok (.if_icmp .eq 19, 3) := by decide +kernel
theorem dX8_forceOf_27 : decode cX8_forceOf 27 = .ok (.aload_n 0, 1) := by decide +kernel
theorem dX8_forceOf_28 : decode cX8_forceOf 28 = .ok (.getfield 21, 3) := by decide +kernel
theorem dX8_forceOf_31 : decode cX8_forceOf 31 = .ok (.iload 4, 2) := by decide +kernel
theorem dX8_forceOf_33 : decode cX8_forceOf 33 = .ok (.iaload, 1) := by decide +kernel
theorem dX8_forceOf_34 : decode cX8_forceOf 34 = .ok (.aload_n 0, 1) := by decide +kernel
theorem dX8_forceOf_35 : decode cX8_forceOf 35 = .ok (.getfield 21, 3) := by decide +kernel
theorem dX8_forceOf_38 : decode cX8_forceOf 38 = .ok (.iload_n 3, 1) := by decide +kernel
theorem dX8_forceOf_39 : decode cX8_forceOf 39 = .ok (.iaload, 1) := by decide +kernel
theorem dX8_forceOf_40 : decode cX8_forceOf 40 = .ok (.if_icmp .lt 6, 3) := by decide +kernel
theorem dX8_forceOf_43 : decode cX8_forceOf 43 = .ok (.iload 4, 2) := by decide +kernel
theorem dX8_forceOf_45 : decode cX8_forceOf 45 = .ok (.istore_n 3, 1) := by decide +kernel
theorem dX8_forceOf_46 : decode cX8_forceOf 46 = .ok (.iinc 4 1, 3) := by decide +kernel
theorem dX8_forceOf_49 : decode cX8_forceOf 49 = .ok (.goto (-44), 3) := by decide +kernel
theorem dX8_forceOf_52 : decode cX8_forceOf 52 = .ok (.iload_n 3, 1) := by decide +kernel
theorem dX8_forceOf_53 : decode cX8_forceOf 53 = .ok (.ireturn, 1) := by decide +kernel
set_option maxRecDepth 20000 in
theorem ggX8_inForce_X8_isDay : GoodIn wsX8_inForce wsX8_isDay := goodIn_r _ [5, 6, 7, 4, 8] (by decide +kernel) (by decide +kernel)
set_option maxRecDepth 20000 in
theorem gX8_inForce_X8_isDay : GoodIn wsX8_inForce (va_wsS RX8 170 yX8_isDay wsX8_isDay) := goodIn_app (goodIn_of _ (by decide +kernel)) ggX8_inForce_X8_isDay
set_option maxRecDepth 20000 in
theorem ggX8_inForce_X8_in : GoodIn wsX8_inForce wsX8_in := goodIn_r _ [8] (by decide +kernel) (by decide +kernel)
set_option maxRecDepth 20000 in
theorem gX8_inForce_X8_in : GoodIn wsX8_inForce (va_wsS RX8 166 yX8_in wsX8_in) := goodIn_app (goodIn_of _ (by decide +kernel)) ggX8_inForce_X8_in
set_option maxRecDepth 20000 in
theorem ggX8_inForce_X8_forceOf : GoodIn wsX8_inForce wsX8_forceOf := goodIn_r _ [12, 13, 14, 15, 16, 17, 18, 19, 20, 21, 22, 23, 24, 25, 26, 27, 28, 29, 30, 31, 32, 33, 34, 35, 36, 37, 38, 39, 40, 41, 42, 43, 44, 45, 46, 47, 48, 49, 50, 51, 52, 53, 54, 55, 56, 57, 58] (by decide +kernel) (by decide +kernel)
set_option maxRecDepth 20000 in
theorem gX8_inForce_X8_forceOf : GoodIn wsX8_inForce (wsV RX8 183 RX8 yX8_forceOf wsX8_forceOf) := goodIn_app (goodIn_of _ (by decide +kernel)) ggX8_inForce_X8_forceOf
theorem dX8_inForce_0 : decode cX8_inForce 0 = .ok (.iload_n 1, 1) := by decide +kernel
theorem dX8_inForce_1 : decode cX8_inForce 1 = .ok (.invokestatic 170, 3) := by decide +kernel
theorem dX8_inForce_4 : decode cX8_inForce 4 = .ok (.ifCond .eq 24, 3) := by decide +kernel
theorem dX8_inForce_7 : decode cX8_inForce 7 = .ok (.iload_n 2, 1) := by decide +kernel
theorem dX8_inForce_8 : decode cX8_inForce 8 = .ok (.iconst 0, 1) := by decide +kernel
theorem dX8_inForce_9 : decode cX8_inForce 9 = .ok (.aload_n 0, 1) := by decide +kernel
theorem dX8_inForce_10 : decode cX8_inForce 10 = .ok (.getfield 180, 3) := by decide +kernel
theorem dX8_inForce_13 : decode cX8_inForce 13 = .ok (.invokestatic 166, 3) := by decide +kernel
theorem dX8_inForce_16 : decode cX8_inForce 16 = .ok (.ifCond .eq 12, 3) := by decide +kernel
theorem dX8_inForce_19 : decode cX8_inForce 19 = .ok (.aload_n 0, 1) := by decide +kernel
theorem dX8_inForce_20 : decode cX8_inForce 20 = .ok (.iload_n 1, 1) := by decide +kernel
theorem dX8_inForce_21 : decode cX8_inForce 21 = .ok (.iload_n 2, 1) := by decide +kernel
theorem dX8_inForce_22 : decode cX8_inForce 22 = .ok (.invokevirtual 183, 3) := by decide +kernel
theorem dX8_inForce_25 : decode cX8_inForce 25 = .ok (.goto 5, 3) := by decide +kernel
theorem dX8_inForce_28 : decode cX8_inForce 28 = .ok (.bipush (-2), 2) := by decide +kernel
theorem dX8_inForce_30 : decode cX8_inForce 30 = .ok (.ireturn, 1) := by decide +kernel
set_option maxRecDepth 20000 in
theorem ggX8_ruleOf_X8_plain : GoodIn wsX8_ruleOf wsX8_plain := goodIn_r _ [5] (by decide +kernel) (by decide +kernel)
set_option maxRecDepth 20000 in
theorem gX8_ruleOf_X8_plain : GoodIn wsX8_ruleOf (va_wsS RX8 173 yX8_plain wsX8_plain) := goodIn_app (goodIn_of _ (by decide +kernel)) ggX8_ruleOf_X8_plain
theorem dX8_ruleOf_0 : decode cX8_ruleOf 0 = .ok (.iload_n 1, 1) := by decide +kernel
theorem dX8_ruleOf_1 : decode cX8_ruleOf 1 = .ok (.iconst (-1), 1) := by decide +kernel
theorem dX8_ruleOf_2 : decode cX8_ruleOf 2 = .ok (.if_icmp .ne 10, 3) := by decide +kernel
theorem dX8_ruleOf_5 : decode cX8_ruleOf 5 = .ok (.iload_n 2, 1) := by decide +kernel
theorem dX8_ruleOf_6 : decode cX8_ruleOf 6 = .ok (.invokestatic 173, 3) := by decide +kernel
theorem dX8_ruleOf_9 : decode cX8_ruleOf 9 = .ok (.goto 14, 3) := by decide +kernel
theorem dX8_ruleOf_12 : decode cX8_ruleOf 12 = .ok (.aload_n 0, 1) := by decide +kernel
theorem dX8_ruleOf_13 : decode cX8_ruleOf 13 = .ok (.getfield 17, 3) := by decide +kernel
theorem dX8_ruleOf_16 : decode cX8_ruleOf 16 = .ok (.bipush 11, 2) := by decide +kernel
theorem dX8_ruleOf_18 : decode cX8_ruleOf 18 = .ok (.iload_n 1, 1) := by decide +kernel
theorem dX8_ruleOf_19 : decode cX8_ruleOf 19 = .ok (.imul, 1) := by decide +kernel
theorem dX8_ruleOf_20 : decode cX8_ruleOf 20 = .ok (.iload_n 2, 1) := by decide +kernel
theorem dX8_ruleOf_21 : decode cX8_ruleOf 21 = .ok (.iadd, 1) := by decide +kernel
theorem dX8_ruleOf_22 : decode cX8_ruleOf 22 = .ok (.iaload, 1) := by decide +kernel
theorem dX8_ruleOf_23 : decode cX8_ruleOf 23 = .ok (.ireturn, 1) := by decide +kernel
set_option maxRecDepth 20000 in
theorem ggX8_rule_X8_in : GoodIn wsX8_rule wsX8_in := goodIn_r _ [6] (by decide +kernel) (by decide +kernel)
set_option maxRecDepth 20000 in
theorem gX8_rule_X8_in : GoodIn wsX8_rule (va_wsS RX8 166 yX8_in wsX8_in) := goodIn_app (goodIn_of _ (by decide +kernel)) ggX8_rule_X8_in
set_option maxRecDepth 20000 in
theorem ggX8_rule_X8_ruleOf : GoodIn wsX8_rule wsX8_ruleOf := goodIn_r _ [10, 11, 12, 13, 5, 14, 15, 16, 17, 18, 19, 20, 21, 22, 23, 24, 25, 26, 27, 28, 29, 30, 31, 32, 33, 34, 35, 36, 37, 38, 39, 40, 41, 42, 43, 44, 45, 46, 47, 48, 49, 50, 51, 52, 53, 54, 55, 56, 57, 58, 59] (by decide +kernel) (by decide +kernel)
set_option maxRecDepth 20000 in
theorem gX8_rule_X8_ruleOf : GoodIn wsX8_rule (wsV RX8 186 RX8 yX8_ruleOf wsX8_ruleOf) := goodIn_app (goodIn_of _ (by decide +kernel)) ggX8_rule_X8_ruleOf
theorem dX8_rule_0 : decode cX8_rule 0 = .ok (.iload_n 1, 1) := by decide +kernel
theorem dX8_rule_1 : decode cX8_rule 1 = .ok (.iconst (-1), 1) := by decide +kernel
theorem dX8_rule_2 : decode cX8_rule 2 = .ok (.aload_n 0, 1) := by decide +kernel
theorem dX8_rule_3 : decode cX8_rule 3 = .ok (.getfield 180, 3) := by decide +kernel
theorem dX8_rule_6 : decode cX8_rule 6 = .ok (.iconst 1, 1) := by decide +kernel
theorem dX8_rule_7 : decode cX8_rule 7 = .ok (.isub, 1) := by decide +kernel
theorem dX8_rule_8 : decode cX8_rule 8 = .ok (.invokestatic 166, 3) := by decide +kernel
theorem dX8_rule_11 : decode cX8_rule 11 = .ok (.ifCond .eq 13, 3) := by decide +kernel
theorem dX8_rule_14 : decode cX8_rule 14 = .ok (.iload_n 2, 1) := by decide +kernel
theorem dX8_rule_15 : decode cX8_rule 15 = .ok (.iconst 0, 1) := by decide +kernel
theorem dX8_rule_16 : decode cX8_rule 16 = .ok (.bipush 11, 2) := by decide +kernel
theorem dX8_rule_18 : decode cX8_rule 18 = .ok (.invokestatic 166, 3) := by decide +kernel
theorem dX8_rule_21 : decode cX8_rule 21 = .ok (.ifCond .ne 6, 3) := by decide +kernel
theorem dX8_rule_24 : decode cX8_rule 24 = .ok (.bipush (-9), 2) := by decide +kernel
theorem dX8_rule_26 : decode cX8_rule 26 = .ok (.ireturn, 1) := by decide +kernel
theorem dX8_rule_27 : decode cX8_rule 27 = .ok (.iload_n 2, 1) := by decide +kernel
theorem dX8_rule_28 : decode cX8_rule 28 = .ok (.bipush 11, 2) := by decide +kernel
theorem dX8_rule_30 : decode cX8_rule 30 = .ok (.if_icmp .ne 19, 3) := by decide +kernel
theorem dX8_rule_33 : decode cX8_rule 33 = .ok (.iload_n 1, 1) := by decide +kernel
theorem dX8_rule_34 : decode cX8_rule 34 = .ok (.iconst (-1), 1) := by decide +kernel
theorem dX8_rule_35 : decode cX8_rule 35 = .ok (.if_icmp .ne 7, 3) := by decide +kernel
theorem dX8_rule_38 : decode cX8_rule 38 = .ok (.iconst (-1), 1) := by decide +kernel
theorem dX8_rule_39 : decode cX8_rule 39 = .ok (.goto 9, 3) := by decide +kernel
theorem dX8_rule_42 : decode cX8_rule 42 = .ok (.aload_n 0, 1) := by decide +kernel
theorem dX8_rule_43 : decode cX8_rule 43 = .ok (.getfield 21, 3) := by decide +kernel
theorem dX8_rule_46 : decode cX8_rule 46 = .ok (.iload_n 1, 1) := by decide +kernel
theorem dX8_rule_47 : decode cX8_rule 47 = .ok (.iaload, 1) := by decide +kernel
theorem dX8_rule_48 : decode cX8_rule 48 = .ok (.ireturn, 1) := by decide +kernel
theorem dX8_rule_49 : decode cX8_rule 49 = .ok (.aload_n 0, 1) := by decide +kernel
theorem dX8_rule_50 : decode cX8_rule 50 = .ok (.iload_n 1, 1) := by decide +kernel
theorem dX8_rule_51 : decode cX8_rule 51 = .ok (.iload_n 2, 1) := by decide +kernel
theorem dX8_rule_52 : decode cX8_rule 52 = .ok (.invokevirtual 186, 3) := by decide +kernel
theorem dX8_rule_55 : decode cX8_rule 55 = .ok (.ireturn, 1) := by decide +kernel
set_option maxRecDepth 20000 in
theorem ggX8_now_X8_forceOf : GoodIn wsX8_now wsX8_forceOf := goodIn_r _ [6, 7, 16, 17, 18, 19, 20, 21, 22, 23, 24, 25, 26, 27, 28, 29, 30, 31, 32, 33, 34, 35, 36, 37, 38, 39, 40, 41, 42, 43, 44, 45, 46, 47, 48, 49, 50, 51, 52, 53, 54, 55, 56, 57, 58, 59, 60] (by decide +kernel) (by decide +kernel)
set_option maxRecDepth 20000 in
theorem gX8_now_X8_forceOf : GoodIn wsX8_now (wsV RX8 183 RX8 yX8_forceOf wsX8_forceOf) := goodIn_app (goodIn_of _ (by decide +kernel)) ggX8_now_X8_forceOf
set_option maxRecDepth 20000 in
theorem ggX8_now_X8_ruleOf : GoodIn wsX8_now wsX8_ruleOf := goodIn_r _ [11, 12, 13, 14, 5, 15, 16, 17, 18, 19, 20, 21, 22, 23, 24, 25, 26, 27, 28, 29, 30, 31, 32, 33, 34, 35, 36, 37, 38, 39, 40, 41, 42, 43, 44, 45, 46, 47, 48, 49, 50, 51, 52, 53, 54, 55, 56, 57, 58, 59, 60] (by decide +kernel) (by decide +kernel)
set_option maxRecDepth 20000 in
theorem gX8_now_X8_ruleOf : GoodIn wsX8_now (wsV RX8 186 RX8 yX8_ruleOf wsX8_ruleOf) := goodIn_app (goodIn_of _ (by decide +kernel)) ggX8_now_X8_ruleOf
theorem dX8_now_0 : decode cX8_now 0 = .ok (.aload_n 0, 1) := by decide +kernel
theorem dX8_now_1 : decode cX8_now 1 = .ok (.aload_n 0, 1) := by decide +kernel
theorem dX8_now_2 : decode cX8_now 2 = .ok (.iload_n 1, 1) := by decide +kernel
theorem dX8_now_3 : decode cX8_now 3 = .ok (.aload_n 0, 1) := by decide +kernel
theorem dX8_now_4 : decode cX8_now 4 = .ok (.getfield 180, 3) := by decide +kernel
theorem dX8_now_7 : decode cX8_now 7 = .ok (.invokevirtual 183, 3) := by decide +kernel
theorem dX8_now_10 : decode cX8_now 10 = .ok (.iload_n 2, 1) := by decide +kernel
theorem dX8_now_11 : decode cX8_now 11 = .ok (.invokevirtual 186, 3) := by decide +kernel
theorem dX8_now_14 : decode cX8_now 14 = .ok (.ireturn, 1) := by decide +kernel
set_option maxRecDepth 20000 in
theorem ggX8_isLawyer_X8_in : GoodIn wsX8_isLawyer wsX8_in := goodIn_r _ [5] (by decide +kernel) (by decide +kernel)
set_option maxRecDepth 20000 in
theorem gX8_isLawyer_X8_in : GoodIn wsX8_isLawyer (va_wsS RX8 166 yX8_in wsX8_in) := goodIn_app (goodIn_of _ (by decide +kernel)) ggX8_isLawyer_X8_in
theorem dX8_isLawyer_0 : decode cX8_isLawyer 0 = .ok (.iload_n 1, 1) := by decide +kernel
theorem dX8_isLawyer_1 : decode cX8_isLawyer 1 = .ok (.iconst 0, 1) := by decide +kernel
theorem dX8_isLawyer_2 : decode cX8_isLawyer 2 = .ok (.aload_n 0, 1) := by decide +kernel
theorem dX8_isLawyer_3 : decode cX8_isLawyer 3 = .ok (.getfield 189, 3) := by decide +kernel
theorem dX8_isLawyer_6 : decode cX8_isLawyer 6 = .ok (.iconst 1, 1) := by decide +kernel
theorem dX8_isLawyer_7 : decode cX8_isLawyer 7 = .ok (.isub, 1) := by decide +kernel
theorem dX8_isLawyer_8 : decode cX8_isLawyer 8 = .ok (.invokestatic 166, 3) := by decide +kernel
theorem dX8_isLawyer_11 : decode cX8_isLawyer 11 = .ok (.ireturn, 1) := by decide +kernel
set_option maxRecDepth 20000 in
theorem ggX8_enter_X8_in : GoodIn wsX8_enter wsX8_in := goodIn_r _ [9] (by decide +kernel) (by decide +kernel)
set_option maxRecDepth 20000 in
theorem gX8_enter_X8_in : GoodIn wsX8_enter (va_wsS RX8 166 yX8_in wsX8_in) := goodIn_app (goodIn_of _ (by decide +kernel)) ggX8_enter_X8_in
theorem dX8_enter_0 : decode cX8_enter 0 = .ok (.iload_n 1, 1) := by decide +kernel
theorem dX8_enter_1 : decode cX8_enter 1 = .ok (.iconst 0, 1) := by decide +kernel
theorem dX8_enter_2 : decode cX8_enter 2 = .ok (.bipush 9, 2) := by decide +kernel
theorem dX8_enter_4 : decode cX8_enter 4 = .ok (.invokestatic 166, 3) := by decide +kernel
theorem dX8_enter_7 : decode cX8_enter 7 = .ok (.ifCond .eq 24, 3) := by decide +kernel
theorem dX8_enter_10 : decode cX8_enter 10 = .ok (.iload_n 2, 1) := by decide +kernel
theorem dX8_enter_11 : decode cX8_enter 11 = .ok (.iconst 0, 1) := by decide +kernel
theorem dX8_enter_12 : decode cX8_enter 12 = .ok (.bipush 63, 2) := by decide +kernel
theorem dX8_enter_14 : decode cX8_enter 14 = .ok (.invokestatic 166, 3) := by decide +kernel
theorem dX8_enter_17 : decode cX8_enter 17 = .ok (.ifCond .eq 14, 3) := by decide +kernel
theorem dX8_enter_20 : decode cX8_enter 20 = .ok (.iload_n 3, 1) := by decide +kernel
theorem dX8_enter_21 : decode cX8_enter 21 = .ok (.iconst 0, 1) := by decide +kernel
theorem dX8_enter_22 : decode cX8_enter 22 = .ok (.sipush 255, 3) := by decide +kernel
theorem dX8_enter_25 : decode cX8_enter 25 = .ok (.invokestatic 166, 3) := by decide +kernel
theorem dX8_enter_28 : decode cX8_enter 28 = .ok (.ifCond .ne 6, 3) := by decide +kernel
theorem dX8_enter_31 : decode cX8_enter 31 = .ok (.bipush (-2), 2) := by decide +kernel
theorem dX8_enter_33 : decode cX8_enter 33 = .ok (.ireturn, 1) := by decide +kernel
theorem dX8_enter_34 : decode cX8_enter 34 = .ok (.aload_n 0, 1) := by decide +kernel
theorem dX8_enter_35 : decode cX8_enter 35 = .ok (.getfield 189, 3) := by decide +kernel
theorem dX8_enter_38 : decode cX8_enter 38 = .ok (.bipush 24, 2) := by decide +kernel
theorem dX8_enter_40 : decode cX8_enter 40 = .ok (.if_icmp .ne 6, 3) := by decide +kernel
theorem dX8_enter_43 : decode cX8_enter 43 = .ok (.bipush (-3), 2) := by decide +kernel
theorem dX8_enter_45 : decode cX8_enter 45 = .ok (.ireturn, 1) := by decide +kernel
theorem dX8_enter_46 : decode cX8_enter 46 = .ok (.aload_n 0, 1) := by decide +kernel
theorem dX8_enter_47 : decode cX8_enter 47 = .ok (.getfield 28, 3) := by decide +kernel
theorem dX8_enter_50 : decode cX8_enter 50 = .ok (.aload_n 0, 1) := by decide +kernel
theorem dX8_enter_51 : decode cX8_enter 51 = .ok (.getfield 189, 3) := by decide +kernel
theorem dX8_enter_54 : decode cX8_enter 54 = .ok (.iload_n 1, 1) := by decide +kernel
theorem dX8_enter_55 : decode cX8_enter 55 = .ok (.iastore, 1) := by decide +kernel
theorem dX8_enter_56 : decode cX8_enter 56 = .ok (.aload_n 0, 1) := by decide +kernel
theorem dX8_enter_57 : decode cX8_enter 57 = .ok (.getfield 31, 3) := by decide +kernel
theorem dX8_enter_60 : decode cX8_enter 60 = .ok (.aload_n 0, 1) := by decide +kernel
theorem dX8_enter_61 : decode cX8_enter 61 = .ok (.getfield 189, 3) := by decide +kernel
theorem dX8_enter_64 : decode cX8_enter 64 = .ok (.iload_n 2, 1) := by decide +kernel
theorem dX8_enter_65 : decode cX8_enter 65 = .ok (.iastore, 1) := by decide +kernel
theorem dX8_enter_66 : decode cX8_enter 66 = .ok (.aload_n 0, 1) := by decide +kernel
theorem dX8_enter_67 : decode cX8_enter 67 = .ok (.getfield 34, 3) := by decide +kernel
theorem dX8_enter_70 : decode cX8_enter 70 = .ok (.aload_n 0, 1) := by decide +kernel
theorem dX8_enter_71 : decode cX8_enter 71 = .ok (.getfield 189, 3) := by decide +kernel
theorem dX8_enter_74 : decode cX8_enter 74 = .ok (.iload_n 3, 1) := by decide +kernel
theorem dX8_enter_75 : decode cX8_enter 75 = .ok (.iastore, 1) := by decide +kernel
theorem dX8_enter_76 : decode cX8_enter 76 = .ok (.aload_n 0, 1) := by decide +kernel
theorem dX8_enter_77 : decode cX8_enter 77 = .ok (.getfield 37, 3) := by decide +kernel
theorem dX8_enter_80 : decode cX8_enter 80 = .ok (.aload_n 0, 1) := by decide +kernel
theorem dX8_enter_81 : decode cX8_enter 81 = .ok (.getfield 189, 3) := by decide +kernel
theorem dX8_enter_84 : decode cX8_enter 84 = .ok (.iconst (-1), 1) := by decide +kernel
theorem dX8_enter_85 : decode cX8_enter 85 = .ok (.iastore, 1) := by decide +kernel
theorem dX8_enter_86 : decode cX8_enter 86 = .ok (.aload_n 0, 1) := by decide +kernel
theorem dX8_enter_87 : decode cX8_enter 87 = .ok (.dup, 1) := by decide +kernel
theorem dX8_enter_88 : decode cX8_enter 88 = .ok (.getfield 189, 3) := by decide +kernel
theorem dX8_enter_91 : decode cX8_enter 91 = .ok (.iconst 1, 1) := by decide +kernel
theorem dX8_enter_92 : decode cX8_enter 92 = .ok (.iadd, 1) := by decide +kernel
theorem dX8_enter_93 : decode cX8_enter 93 = .ok (.putfield 189, 3) := by decide +kernel
theorem dX8_enter_96 : decode cX8_enter 96 = .ok (.aload_n 0, 1) := by decide +kernel
theorem dX8_enter_97 : decode cX8_enter 97 = .ok (.getfield 189, 3) := by decide +kernel
theorem dX8_enter_100 : decode cX8_enter 100 = .ok (.iconst 1, 1) := by decide +kernel
theorem dX8_enter_101 : decode cX8_enter 101 = .ok (.isub, 1) := by decide +kernel
theorem dX8_enter_102 : decode cX8_enter 102 = .ok (.ireturn, 1) := by decide +kernel
set_option maxRecDepth 20000 in
theorem ggX8_away_X8_isLawyer : GoodIn wsX8_away wsX8_isLawyer := goodIn_r _ [6, 7, 8, 9, 5, 10, 14, 15, 16, 17, 18, 19, 20, 21, 22, 23, 24, 25, 26, 27, 28, 29, 30, 31, 32, 33, 34, 35, 36, 37, 38, 39, 40, 41, 42, 43, 44, 45, 46, 47, 48, 49, 50, 51, 52, 53, 54, 55, 56, 57, 58] (by decide +kernel) (by decide +kernel)
set_option maxRecDepth 20000 in
theorem gX8_away_X8_isLawyer : GoodIn wsX8_away (wsV RX8 192 RX8 yX8_isLawyer wsX8_isLawyer) := goodIn_app (goodIn_of _ (by decide +kernel)) ggX8_away_X8_isLawyer
set_option maxRecDepth 20000 in
theorem ggX8_away_X8_isDay : GoodIn wsX8_away wsX8_isDay := goodIn_r _ [13, 8, 9, 5, 10] (by decide +kernel) (by decide +kernel)
set_option maxRecDepth 20000 in
theorem gX8_away_X8_isDay : GoodIn wsX8_away (va_wsS RX8 170 yX8_isDay wsX8_isDay) := goodIn_app (goodIn_of _ (by decide +kernel)) ggX8_away_X8_isDay
theorem dX8_away_0 : decode cX8_away 0 = .ok (.aload_n 0, 1) := by decide +kernel
theorem dX8_away_1 : decode cX8_away 1 = .ok (.iload_n 1, 1) := by decide +kernel
theorem dX8_away_2 : decode cX8_away 2 = .ok (.invokevirtual 192, 3) := by decide +kernel
theorem dX8_away_5 : decode cX8_away 5 = .ok (.ifCond .eq 10, 3) := by decide +kernel
theorem dX8_away_8 : decode cX8_away 8 = .ok (.iload_n 2, 1) := by decide +kernel
theorem dX8_away_9 : decode cX8_away 9 = .ok (.invokestatic 170, 3) := by decide +kernel
theorem dX8_away_12 : decode cX8_away 12 = .ok (.ifCond .ne 6, 3) := by decide +kernel
theorem dX8_away_15 : decode cX8_away 15 = .ok (.bipush (-2), 2) := by decide +kernel
theorem dX8_away_17 : decode cX8_away 17 = .ok (.ireturn, 1) := by decide +kernel
theorem dX8_away_18 : decode cX8_away 18 = .ok (.aload_n 0, 1) := by decide +kernel
theorem dX8_away_19 : decode cX8_away 19 = .ok (.getfield 40, 3) := by decide +kernel
theorem dX8_away_22 : decode cX8_away 22 = .ok (.sipush 1000, 3) := by decide +kernel
theorem dX8_away_25 : decode cX8_away 25 = .ok (.iload_n 1, 1) := by decide +kernel
theorem dX8_away_26 : decode cX8_away 26 = .ok (.imul, 1) := by decide +kernel
theorem dX8_away_27 : decode cX8_away 27 = .ok (.iload_n 2, 1) := by decide +kernel
theorem dX8_away_28 : decode cX8_away 28 = .ok (.iadd, 1) := by decide +kernel
theorem dX8_away_29 : decode cX8_away 29 = .ok (.baload, 1) := by decide +kernel
theorem dX8_away_30 : decode cX8_away 30 = .ok (.istore 4, 2) := by decide +kernel
theorem dX8_away_32 : decode cX8_away 32 = .ok (.aload_n 0, 1) := by decide +kernel
theorem dX8_away_33 : decode cX8_away 33 = .ok (.getfield 40, 3) := by decide +kernel
theorem dX8_away_36 : decode cX8_away 36 = .ok (.sipush 1000, 3) := by decide +kernel
theorem dX8_away_39 : decode cX8_away 39 = .ok (.iload_n 1, 1) := by decide +kernel
theorem dX8_away_40 : decode cX8_away 40 = .ok (.imul, 1) := by decide +kernel
theorem dX8_away_41 : decode cX8_away 41 = .ok (.iload_n 2, 1) := by decide +kernel
theorem dX8_away_42 : decode cX8_away 42 = .ok (.iadd, 1) := by decide +kernel
theorem dX8_away_43 : decode cX8_away 43 = .ok (.iload_n 3, 1) := by decide +kernel
theorem dX8_away_44 : decode cX8_away 44 = .ok (.bastore, 1) := by decide +kernel
theorem dX8_away_45 : decode cX8_away 45 = .ok (.iload 4, 2) := by decide +kernel
theorem dX8_away_47 : decode cX8_away 47 = .ok (.iload_n 3, 1) := by decide +kernel
theorem dX8_away_48 : decode cX8_away 48 = .ok (.if_icmp .eq 7, 3) := by decide +kernel
theorem dX8_away_51 : decode cX8_away 51 = .ok (.iconst 1, 1) := by decide +kernel
theorem dX8_away_52 : decode cX8_away 52 = .ok (.goto 4, 3) := by decide +kernel
theorem dX8_away_55 : decode cX8_away 55 = .ok (.iconst 0, 1) := by decide +kernel
theorem dX8_away_56 : decode cX8_away 56 = .ok (.ireturn, 1) := by decide +kernel
theorem dX8_isStruck_0 : decode cX8_isStruck 0 = .ok (.aload_n 0, 1) := by decide +kernel
theorem dX8_isStruck_1 : decode cX8_isStruck 1 = .ok (.getfield 37, 3) := by decide +kernel
theorem dX8_isStruck_4 : decode cX8_isStruck 4 = .ok (.iload_n 1, 1) := by decide +kernel
theorem dX8_isStruck_5 : decode cX8_isStruck 5 = .ok (.iaload, 1) := by decide +kernel
theorem dX8_isStruck_6 : decode cX8_isStruck 6 = .ok (.iconst (-1), 1) := by decide +kernel
theorem dX8_isStruck_7 : decode cX8_isStruck 7 = .ok (.if_icmp .eq 17, 3) := by decide +kernel
theorem dX8_isStruck_10 : decode cX8_isStruck 10 = .ok (.iload_n 2, 1) := by decide +kernel
theorem dX8_isStruck_11 : decode cX8_isStruck 11 = .ok (.aload_n 0, 1) := by decide +kernel
theorem dX8_isStruck_12 : decode cX8_isStruck 12 = .ok (.getfield 37, 3) := by decide +kernel
theorem dX8_isStruck_15 : decode cX8_isStruck 15 = .ok (.iload_n 1, 1) := by decide +kernel
theorem dX8_isStruck_16 : decode cX8_isStruck 16 = .ok (.iaload, 1) := by decide +kernel
theorem dX8_isStruck_17 : decode cX8_isStruck 17 = .ok (.if_icmp .lt 7, 3) := by decide +kernel
theorem dX8_isStruck_20 : decode cX8_isStruck 20 = .ok (.iconst 1, 1) := by decide +kernel
theorem dX8_isStruck_21 : decode cX8_isStruck 21 = .ok (.goto 4, 3) := by decide +kernel
theorem dX8_isStruck_24 : decode cX8_isStruck 24 = .ok (.iconst 0, 1) := by decide +kernel
theorem dX8_isStruck_25 : decode cX8_isStruck 25 = .ok (.ireturn, 1) := by decide +kernel
set_option maxRecDepth 20000 in
theorem ggX8_travel_X8_in : GoodIn wsX8_travel wsX8_in := goodIn_r _ [5] (by decide +kernel) (by decide +kernel)
set_option maxRecDepth 20000 in
theorem gX8_travel_X8_in : GoodIn wsX8_travel (va_wsS RX8 166 yX8_in wsX8_in) := goodIn_app (goodIn_of _ (by decide +kernel)) ggX8_travel_X8_in
theorem dX8_travel_0 : decode cX8_travel 0 = .ok (.iload_n 1, 1) := by decide +kernel
theorem dX8_travel_1 : decode cX8_travel 1 = .ok (.iconst 0, 1) := by decide +kernel
theorem dX8_travel_2 : decode cX8_travel 2 = .ok (.bipush 9, 2) := by decide +kernel
theorem dX8_travel_4 : decode cX8_travel 4 = .ok (.invokestatic 166, 3) := by decide +kernel
theorem dX8_travel_7 : decode cX8_travel 7 = .ok (.ifCond .eq 29, 3) := by decide +kernel
theorem dX8_travel_10 : decode cX8_travel 10 = .ok (.iload_n 2, 1) := by decide +kernel
theorem dX8_travel_11 : decode cX8_travel 11 = .ok (.iconst 0, 1) := by decide +kernel
theorem dX8_travel_12 : decode cX8_travel 12 = .ok (.bipush 9, 2) := by decide +kernel
theorem dX8_travel_14 : decode cX8_travel 14 = .ok (.invokestatic 166, 3) := by decide +kernel
theorem dX8_travel_17 : decode cX8_travel 17 = .ok (.ifCond .eq 19, 3) := by decide +kernel
theorem dX8_travel_20 : decode cX8_travel 20 = .ok (.iload_n 1, 1) := by decide +kernel
theorem dX8_travel_21 : decode cX8_travel 21 = .ok (.iload_n 2, 1) := by decide +kernel
theorem dX8_travel_22 : decode cX8_travel 22 = .ok (.if_icmp .eq 14, 3) := by decide +kernel
theorem dX8_travel_25 : decode cX8_travel 25 = .ok (.iload_n 3, 1) := by decide +kernel
theorem dX8_travel_26 : decode cX8_travel 26 = .ok (.iconst (-1), 1) := by decide +kernel
theorem dX8_travel_27 : decode cX8_travel 27 = .ok (.sipush 600, 3) := by decide +kernel
theorem dX8_travel_30 : decode cX8_travel 30 = .ok (.invokestatic 166, 3) := by decide +kernel
theorem dX8_travel_33 : decode cX8_travel 33 = .ok (.ifCond .ne 6, 3) := by decide +kernel
theorem dX8_travel_36 : decode cX8_travel 36 = .ok (.bipush (-2), 2) := by decide +kernel
theorem dX8_travel_38 : decode cX8_travel 38 = .ok (.ireturn, 1) := by decide +kernel
theorem dX8_travel_39 : decode cX8_travel 39 = .ok (.aload_n 0, 1) := by decide +kernel
theorem dX8_travel_40 : decode cX8_travel 40 = .ok (.getfield 43, 3) := by decide +kernel
theorem dX8_travel_43 : decode cX8_travel 43 = .ok (.bipush 10, 2) := by decide +kernel
theorem dX8_travel_45 : decode cX8_travel 45 = .ok (.iload_n 1, 1) := by decide +kernel
theorem dX8_travel_46 : decode cX8_travel 46 = .ok (.imul, 1) := by decide +kernel
theorem dX8_travel_47 : decode cX8_travel 47 = .ok (.iload_n 2, 1) := by decide +kernel
theorem dX8_travel_48 : decode cX8_travel 48 = .ok (.iadd, 1) := by decide +kernel
theorem dX8_travel_49 : decode cX8_travel 49 = .ok (.iaload, 1) := by decide +kernel
theorem dX8_travel_50 : decode cX8_travel 50 = .ok (.istore 4, 2) := by decide +kernel
theorem dX8_travel_52 : decode cX8_travel 52 = .ok (.aload_n 0, 1) := by decide +kernel
theorem dX8_travel_53 : decode cX8_travel 53 = .ok (.getfield 43, 3) := by decide +kernel
theorem dX8_travel_56 : decode cX8_travel 56 = .ok (.bipush 10, 2) := by decide +kernel
theorem dX8_travel_58 : decode cX8_travel 58 = .ok (.iload_n 1, 1) := by decide +kernel
theorem dX8_travel_59 : decode cX8_travel 59 = .ok (.imul, 1) := by decide +kernel
theorem dX8_travel_60 : decode cX8_travel 60 = .ok (.iload_n 2, 1) := by decide +kernel
theorem dX8_travel_61 : decode cX8_travel 61 = .ok (.iadd, 1) := by decide +kernel
theorem dX8_travel_62 : decode cX8_travel 62 = .ok (.iload_n 3, 1) := by decide +kernel
theorem dX8_travel_63 : decode cX8_travel 63 = .ok (.iastore, 1) := by decide +kernel
theorem dX8_travel_64 : decode cX8_travel 64 = .ok (.aload_n 0, 1) := by decide +kernel
theorem dX8_travel_65 : decode cX8_travel 65 = .ok (.getfield 43, 3) := by decide +kernel
theorem dX8_travel_68 : decode cX8_travel 68 = .ok (.bipush 10, 2) := by decide +kernel
theorem dX8_travel_70 : decode cX8_travel 70 = .ok (.iload_n 2, 1) := by decide +kernel
theorem dX8_travel_71 : decode cX8_travel 71 = .ok (.imul, 1) := by decide +kernel
theorem dX8_travel_72 : decode cX8_travel 72 = .ok (.iload_n 1, 1) := by decide +kernel
theorem dX8_travel_73 : decode cX8_travel 73 = .ok (.iadd, 1) := by decide +kernel
theorem dX8_travel_74 : decode cX8_travel 74 = .ok (.iload_n 3, 1) := by decide +kernel
theorem dX8_travel_75 : decode cX8_travel 75 = .ok (.iastore, 1) := by decide +kernel
theorem dX8_travel_76 : decode cX8_travel 76 = .ok (.iload 4, 2) := by decide +kernel
theorem dX8_travel_78 : decode cX8_travel 78 = .ok (.ireturn, 1) := by decide +kernel
set_option maxRecDepth 20000 in
theorem ggX8_lawyer_X8_isLawyer : GoodIn wsX8_lawyer wsX8_isLawyer := goodIn_r _ [9, 10, 11, 12, 8, 13, 25, 26, 27, 28, 29, 30, 31, 32, 33, 34, 35, 36, 37, 38, 39, 40, 41, 42, 43, 44, 45, 46, 47, 48, 49, 50, 51, 52, 53, 54, 55, 56, 57, 58, 59, 60, 61, 62, 63, 64, 65, 66, 67, 68, 69] (by decide +kernel) (by decide +kernel)
set_option maxRecDepth 20000 in
theorem gX8_lawyer_X8_isLawyer : GoodIn wsX8_lawyer (wsV RX8 192 RX8 yX8_isLawyer wsX8_isLawyer) := goodIn_app (goodIn_of _ (by decide +kernel)) ggX8_lawyer_X8_isLawyer
set_option maxRecDepth 20000 in
theorem ggX8_lawyer_X8_duties : GoodIn wsX8_lawyer wsX8_duties := goodIn_r _ [17, 18, 25, 26, 27, 28, 29, 30, 31, 32, 33, 34, 35, 36, 37, 38, 39, 40, 41, 42, 43, 44, 45, 46, 47, 48, 49, 50, 51, 52, 53, 54, 55, 56, 57, 58, 59, 60, 61, 62, 63, 64, 65, 66, 67, 68, 69] (by decide +kernel) (by decide +kernel)
set_option maxRecDepth 20000 in
theorem gX8_lawyer_X8_duties : GoodIn wsX8_lawyer (wsV RX8 195 RX8 yX8_duties wsX8_duties) := goodIn_app (goodIn_of _ (by decide +kernel)) ggX8_lawyer_X8_duties
set_option maxRecDepth 20000 in
theorem ggX8_lawyer_X8_taken : GoodIn wsX8_lawyer wsX8_taken := goodIn_r _ [22, 23, 24, 25, 26, 27, 28, 29, 30, 31, 32, 33, 34, 35, 36, 37, 38, 39, 40, 41, 42, 43, 44, 45, 46, 47, 48, 49, 50, 51, 52, 53, 54, 55, 56, 57, 58, 59, 60, 61, 62, 63, 64, 65, 66, 67, 68, 69] (by decide +kernel) (by decide +kernel)
set_option maxRecDepth 20000 in
theorem gX8_lawyer_X8_taken : GoodIn wsX8_lawyer (wsV RX8 198 RX8 yX8_taken wsX8_taken) := goodIn_app (goodIn_of _ (by decide +kernel)) ggX8_lawyer_X8_taken
theorem dX8_lawyer_0 : decode cX8_lawyer 0 = .ok (.aload_n 0, 1) := by decide +kernel
theorem dX8_lawyer_1 : decode cX8_lawyer 1 = .ok (.iload_n 1, 1) := by decide +kernel
theorem dX8_lawyer_2 : decode cX8_lawyer 2 = .ok (.invokevirtual 192, 3) := by decide +kernel
theorem dX8_lawyer_5 : decode cX8_lawyer 5 = .ok (.ifCond .ne 5, 3) := by decide +kernel
theorem dX8_lawyer_8 : decode cX8_lawyer 8 = .ok (.iconst (-1), 1) := by decide +kernel
theorem dX8_lawyer_9 : decode cX8_lawyer 9 = .ok (.ireturn, 1) := by decide +kernel
theorem dX8_lawyer_10 : decode cX8_lawyer 10 = .ok (.iload_n 2, 1) := by decide +kernel
theorem dX8_lawyer_11 : decode cX8_lawyer 11 = .ok (.tableswitch 80 0 5 #[37, 44, 51, 58, 65, 74], 37) := by decide +kernel
theorem dX8_lawyer_48 : decode cX8_lawyer 48 = .ok (.aload_n 0, 1) := by decide +kernel
theorem dX8_lawyer_49 : decode cX8_lawyer 49 = .ok (.getfield 28, 3) := by decide +kernel
theorem dX8_lawyer_52 : decode cX8_lawyer 52 = .ok (.iload_n 1, 1) := by decide +kernel
theorem dX8_lawyer_53 : decode cX8_lawyer 53 = .ok (.iaload, 1) := by decide +kernel
theorem dX8_lawyer_54 : decode cX8_lawyer 54 = .ok (.ireturn, 1) := by decide +kernel
theorem dX8_lawyer_55 : decode cX8_lawyer 55 = .ok (.aload_n 0, 1) := by decide +kernel
theorem dX8_lawyer_56 : decode cX8_lawyer 56 = .ok (.getfield 31, 3) := by decide +kernel
theorem dX8_lawyer_59 : decode cX8_lawyer 59 = .ok (.iload_n 1, 1) := by decide +kernel
theorem dX8_lawyer_60 : decode cX8_lawyer 60 = .ok (.iaload, 1) := by decide +kernel
theorem dX8_lawyer_61 : decode cX8_lawyer 61 = .ok (.ireturn, 1) := by decide +kernel
theorem dX8_lawyer_62 : decode cX8_lawyer 62 = .ok (.aload_n 0, 1) := by decide +kernel
theorem dX8_lawyer_63 : decode cX8_lawyer 63 = .ok (.getfield 34, 3) := by decide +kernel
theorem dX8_lawyer_66 : decode cX8_lawyer 66 = .ok (.iload_n 1, 1) := by decide +kernel
theorem dX8_lawyer_67 : decode cX8_lawyer 67 = .ok (.iaload, 1) := by decide +kernel
theorem dX8_lawyer_68 : decode cX8_lawyer 68 = .ok (.ireturn, 1) := by decide +kernel
theorem dX8_lawyer_69 : decode cX8_lawyer 69 = .ok (.aload_n 0, 1) := by decide +kernel
theorem dX8_lawyer_70 : decode cX8_lawyer 70 = .ok (.getfield 37, 3) := by decide +kernel
theorem dX8_lawyer_73 : decode cX8_lawyer 73 = .ok (.iload_n 1, 1) := by decide +kernel
theorem dX8_lawyer_74 : decode cX8_lawyer 74 = .ok (.iaload, 1) := by decide +kernel
theorem dX8_lawyer_75 : decode cX8_lawyer 75 = .ok (.ireturn, 1) := by decide +kernel
theorem dX8_lawyer_76 : decode cX8_lawyer 76 = .ok (.aload_n 0, 1) := by decide +kernel
theorem dX8_lawyer_77 : decode cX8_lawyer 77 = .ok (.iload_n 1, 1) := by decide +kernel
theorem dX8_lawyer_78 : decode cX8_lawyer 78 = .ok (.sipush 999, 3) := by decide +kernel
theorem dX8_lawyer_81 : decode cX8_lawyer 81 = .ok (.invokevirtual 195, 3) := by decide +kernel
theorem dX8_lawyer_84 : decode cX8_lawyer 84 = .ok (.ireturn, 1) := by decide +kernel
theorem dX8_lawyer_85 : decode cX8_lawyer 85 = .ok (.aload_n 0, 1) := by decide +kernel
theorem dX8_lawyer_86 : decode cX8_lawyer 86 = .ok (.iload_n 1, 1) := by decide +kernel
theorem dX8_lawyer_87 : decode cX8_lawyer 87 = .ok (.invokevirtual 198, 3) := by decide +kernel
theorem dX8_lawyer_90 : decode cX8_lawyer 90 = .ok (.ireturn, 1) := by decide +kernel
theorem dX8_lawyer_91 : decode cX8_lawyer 91 = .ok (.iconst (-1), 1) := by decide +kernel
theorem dX8_lawyer_92 : decode cX8_lawyer 92 = .ok (.ireturn, 1) := by decide +kernel
theorem dX8_duties_0 : decode cX8_duties 0 = .ok (.iconst 0, 1) := by decide +kernel
theorem dX8_duties_1 : decode cX8_duties 1 = .ok (.istore_n 3, 1) := by decide +kernel
theorem dX8_duties_2 : decode cX8_duties 2 = .ok (.iconst 0, 1) := by decide +kernel
theorem dX8_duties_3 : decode cX8_duties 3 = .ok (.istore 4, 2) := by decide +kernel
theorem dX8_duties_5 : decode cX8_duties 5 = .ok (.iload 4, 2) := by decide +kernel
theorem dX8_duties_7 : decode cX8_duties 7 = .ok (.bipush 6, 2) := by decide +kernel
theorem dX8_duties_9 : decode cX8_duties 9 = .ok (.if_icmp .ge 50, 3) := by decide +kernel
theorem dX8_duties_12 : decode cX8_duties 12 = .ok (.iconst 0, 1) := by decide +kernel
theorem dX8_duties_13 : decode cX8_duties 13 = .ok (.istore 5, 2) := by decide +kernel
theorem dX8_duties_15 : decode cX8_duties 15 = .ok (.iload 5, 2) := by decide +kernel
theorem dX8_duties_17 : decode cX8_duties 17 = .ok (.iload_n 2, 1) := by decide +kernel
theorem dX8_duties_18 : decode cX8_duties 18 = .ok (.if_icmp .gt 35, 3) := by decide +kernel
theorem dX8_duties_21 : decode cX8_duties 21 = .ok (.iload_n 3, 1) := by decide +kernel
theorem dX8_duties_22 : decode cX8_duties 22 = .ok (.aload_n 0, 1) := by decide +kernel
theorem dX8_duties_23 : decode cX8_duties 23 = .ok (.getfield 46, 3) := by decide +kernel
theorem dX8_duties_26 : decode cX8_duties 26 = .ok (.sipush 1000, 3) := by decide +kernel
theorem dX8_duties_29 : decode cX8_duties 29 = .ok (.iload 4, 2) := by decide +kernel
theorem dX8_duties_31 : decode cX8_duties 31 = .ok (.imul, 1) := by decide +kernel
theorem dX8_duties_32 : decode cX8_duties 32 = .ok (.iload 5, 2) := by decide +kernel
theorem dX8_duties_34 : decode cX8_duties 34 = .ok (.iadd, 1) := by decide +kernel
theorem dX8_duties_35 : decode cX8_duties 35 = .ok (.iaload, 1) := by decide +kernel
theorem dX8_duties_36 : decode cX8_duties 36 = .ok (.iload_n 1, 1) := by decide +kernel
theorem dX8_duties_37 : decode cX8_duties 37 = .ok (.if_icmp .ne 7, 3) := by decide +kernel
theorem dX8_duties_40 : decode cX8_duties 40 = .ok (.iconst 1, 1) := by decide +kernel
theorem dX8_duties_41 : decode cX8_duties 41 = .ok (.goto 4, 3) := by decide +kernel
theorem dX8_duties_44 : decode cX8_duties 44 = .ok (.iconst 0, 1) := by decide +kernel
theorem dX8_duties_45 : decode cX8_duties 45 = .ok (.iadd, 1) := by decide +kernel
theorem dX8_duties_46 : decode cX8_duties 46 = .ok (.istore_n 3, 1) := by decide +kernel
theorem dX8_duties_47 : decode cX8_duties 47 = .ok (.iinc 5 1, 3) := by decide +kernel
theorem dX8_duties_50 : decode cX8_duties 50 = .ok (.goto (-35), 3) := by decide +kernel
theorem dX8_duties_53 : decode cX8_duties 53 = .ok (.iinc 4 1, 3) := by decide +kernel
theorem dX8_duties_56 : decode cX8_duties 56 = .ok (.goto (-51), 3) := by decide +kernel
theorem dX8_duties_59 : decode cX8_duties 59 = .ok (.iload_n 3, 1) := by decide +kernel
theorem dX8_duties_60 : decode cX8_duties 60 = .ok (.ireturn, 1) := by decide +kernel
theorem dX8_hasDuty_0 : decode cX8_hasDuty 0 = .ok (.iconst 0, 1) := by decide +kernel
theorem dX8_hasDuty_1 : decode cX8_hasDuty 1 = .ok (.istore_n 3, 1) := by decide +kernel
theorem dX8_hasDuty_2 : decode cX8_hasDuty 2 = .ok (.iload_n 3, 1) := by decide +kernel
theorem dX8_hasDuty_3 : decode cX8_hasDuty 3 = .ok (.bipush 6, 2) := by decide +kernel
theorem dX8_hasDuty_5 : decode cX8_hasDuty 5 = .ok (.if_icmp .ge 27, 3) := by decide +kernel
theorem dX8_hasDuty_8 : decode cX8_hasDuty 8 = .ok (.aload_n 0, 1) := by decide +kernel
theorem dX8_hasDuty_9 : decode cX8_hasDuty 9 = .ok (.getfield 46, 3) := by decide +kernel
theorem dX8_hasDuty_12 : decode cX8_hasDuty 12 = .ok (.sipush 1000, 3) := by decide +kernel
theorem dX8_hasDuty_15 : decode cX8_hasDuty 15 = .ok (.iload_n 3, 1) := by decide +kernel
theorem dX8_hasDuty_16 : decode cX8_hasDuty 16 = .ok (.imul, 1) := by decide +kernel
theorem dX8_hasDuty_17 : decode cX8_hasDuty 17 = .ok (.iload_n 2, 1) := by decide +kernel
theorem dX8_hasDuty_18 : decode cX8_hasDuty 18 = .ok (.iadd, 1) := by decide +kernel
theorem dX8_hasDuty_19 : decode cX8_hasDuty 19 = .ok (.iaload, 1) := by decide +kernel
theorem dX8_hasDuty_20 : decode cX8_hasDuty 20 = .ok (.iload_n 1, 1) := by decide +kernel
theorem dX8_hasDuty_21 : decode cX8_hasDuty 21 = .ok (.if_icmp .ne 5, 3) := by decide +kernel
theorem dX8_hasDuty_24 : decode cX8_hasDuty 24 = .ok (.iconst 1, 1) := by decide +kernel
theorem dX8_hasDuty_25 : decode cX8_hasDuty 25 = .ok (.ireturn, 1) := by decide +kernel
theorem dX8_hasDuty_26 : decode cX8_hasDuty 26 = .ok (.iinc 3 1, 3) := by decide +kernel
theorem dX8_hasDuty_29 : decode cX8_hasDuty 29 = .ok (.goto (-27), 3) := by decide +kernel
theorem dX8_hasDuty_32 : decode cX8_hasDuty 32 = .ok (.iconst 0, 1) := by decide +kernel
theorem dX8_hasDuty_33 : decode cX8_hasDuty 33 = .ok (.ireturn, 1) := by decide +kernel
set_option maxRecDepth 20000 in
theorem ggX8_mayNight_X8_isStruck : GoodIn wsX8_mayNight wsX8_isStruck := goodIn_r _ [7, 8, 38, 39, 40, 41, 42, 43, 44, 45, 46, 47, 48, 49, 50, 51, 52, 53, 54, 55, 56, 57, 58, 59, 60, 61, 62, 63, 64, 65, 66, 67, 68, 69, 70, 71, 72, 73, 74, 75, 76, 77, 78, 79, 80, 81, 82] (by decide +kernel) (by decide +kernel)
set_option maxRecDepth 20000 in
theorem gX8_mayNight_X8_isStruck : GoodIn wsX8_mayNight (wsV RX8 201 RX8 yX8_isStruck wsX8_isStruck) := goodIn_app (goodIn_of _ (by decide +kernel)) ggX8_mayNight_X8_isStruck
set_option maxRecDepth 20000 in
theorem ggX8_mayNight_X8_now : GoodIn wsX8_mayNight wsX8_now := goodIn_r _ [12, 13, 14, 15, 16, 6, 17, 18, 19, 20, 21, 22, 23, 24, 25, 26, 38, 39, 40, 41, 42, 43, 44, 45, 46, 47, 48, 49, 50, 51, 52, 53, 54, 55, 56, 57, 58, 59, 60, 61, 62, 63, 64, 65, 66, 67, 68, 69, 70, 71, 72, 73, 74, 75, 76, 77, 78, 79, 80, 81, 82] (by decide +kernel) (by decide +kernel)
set_option maxRecDepth 20000 in
theorem gX8_mayNight_X8_now : GoodIn wsX8_mayNight (wsV RX8 205 RX8 yX8_now wsX8_now) := goodIn_app (goodIn_of _ (by decide +kernel)) ggX8_mayNight_X8_now
set_option maxRecDepth 20000 in
theorem ggX8_mayNight_X8_isDay : GoodIn wsX8_mayNight wsX8_isDay := goodIn_r _ [29, 30, 31, 6, 32] (by decide +kernel) (by decide +kernel)
set_option maxRecDepth 20000 in
theorem gX8_mayNight_X8_isDay : GoodIn wsX8_mayNight (va_wsS RX8 170 yX8_isDay wsX8_isDay) := goodIn_app (goodIn_of _ (by decide +kernel)) ggX8_mayNight_X8_isDay
set_option maxRecDepth 20000 in
theorem ggX8_mayNight_X8_hasDuty : GoodIn wsX8_mayNight wsX8_hasDuty := goodIn_r _ [36, 37, 38, 39, 40, 41, 42, 43, 44, 45, 46, 47, 48, 49, 50, 51, 52, 53, 54, 55, 56, 57, 58, 59, 60, 61, 62, 63, 64, 65, 66, 67, 68, 69, 70, 71, 72, 73, 74, 75, 76, 77, 78, 79, 80, 81, 82] (by decide +kernel) (by decide +kernel)
set_option maxRecDepth 20000 in
theorem gX8_mayNight_X8_hasDuty : GoodIn wsX8_mayNight (wsV RX8 208 RX8 yX8_hasDuty wsX8_hasDuty) := goodIn_app (goodIn_of _ (by decide +kernel)) ggX8_mayNight_X8_hasDuty
theorem dX8_mayNight_0 : decode cX8_mayNight 0 = .ok (.aload_n 0, 1) := by decide +kernel
theorem dX8_mayNight_1 : decode cX8_mayNight 1 = .ok (.getfield 31, 3) := by decide +kernel
theorem dX8_mayNight_4 : decode cX8_mayNight 4 = .ok (.iload_n 1, 1) := by decide +kernel
theorem dX8_mayNight_5 : decode cX8_mayNight 5 = .ok (.iaload, 1) := by decide +kernel
theorem dX8_mayNight_6 : decode cX8_mayNight 6 = .ok (.iload_n 2, 1) := by decide +kernel
theorem dX8_mayNight_7 : decode cX8_mayNight 7 = .ok (.ishr, 1) := by decide +kernel
theorem dX8_mayNight_8 : decode cX8_mayNight 8 = .ok (.iconst 1, 1) := by decide +kernel
theorem dX8_mayNight_9 : decode cX8_mayNight 9 = .ok (.iand, 1) := by decide +kernel
theorem dX8_mayNight_10 : decode cX8_mayNight 10 = .ok (.ifCond .eq 27, 3) := by decide +kernel
theorem dX8_mayNight_13 : decode cX8_mayNight 13 = .ok (.aload_n 0, 1) := by decide +kernel
theorem dX8_mayNight_14 : decode cX8_mayNight 14 = .ok (.getfield 40, 3) := by decide +kernel
theorem dX8_mayNight_17 : decode cX8_mayNight 17 = .ok (.sipush 1000, 3) := by decide +kernel
theorem dX8_mayNight_20 : decode cX8_mayNight 20 = .ok (.iload_n 1, 1) := by decide +kernel
theorem dX8_mayNight_21 : decode cX8_mayNight 21 = .ok (.imul, 1) := by decide +kernel
theorem dX8_mayNight_22 : decode cX8_mayNight 22 = .ok (.iload_n 3, 1) := by decide +kernel
theorem dX8_mayNight_23 : decode cX8_mayNight 23 = .ok (.iadd, 1) := by decide +kernel
theorem dX8_mayNight_24 : decode cX8_mayNight 24 = .ok (.baload, 1) := by decide +kernel
theorem dX8_mayNight_25 : decode cX8_mayNight 25 = .ok (.ifCond .ne 12, 3) := by decide +kernel
theorem dX8_mayNight_28 : decode cX8_mayNight 28 = .ok (.aload_n 0, 1) := by decide +kernel
theorem dX8_mayNight_29 : decode cX8_mayNight 29 = .ok (.iload_n 1, 1) := by decide +kernel
theorem dX8_mayNight_30 : decode cX8_mayNight 30 = .ok (.iload_n 3, 1) := by decide +kernel
theorem dX8_mayNight_31 : decode cX8_mayNight 31 = .ok (.invokevirtual 201, 3) := by decide +kernel
theorem dX8_mayNight_34 : decode cX8_mayNight 34 = .ok (.ifCond .eq 5, 3) := by decide +kernel
theorem dX8_mayNight_37 : decode cX8_mayNight 37 = .ok (.iconst 0, 1) := by decide +kernel
theorem dX8_mayNight_38 : decode cX8_mayNight 38 = .ok (.ireturn, 1) := by decide +kernel
theorem dX8_mayNight_39 : decode cX8_mayNight 39 = .ok (.aload_n 0, 1) := by decide +kernel
theorem dX8_mayNight_40 : decode cX8_mayNight 40 = .ok (.iload_n 3, 1) := by decide +kernel
theorem dX8_mayNight_41 : decode cX8_mayNight 41 = .ok (.iconst 2, 1) := by decide +kernel
theorem dX8_mayNight_42 : decode cX8_mayNight 42 = .ok (.invokevirtual 205, 3) := by decide +kernel
theorem dX8_mayNight_45 : decode cX8_mayNight 45 = .ok (.istore 4, 2) := by decide +kernel
theorem dX8_mayNight_47 : decode cX8_mayNight 47 = .ok (.iload_n 3, 1) := by decide +kernel
theorem dX8_mayNight_48 : decode cX8_mayNight 48 = .ok (.iload 4, 2) := by decide +kernel
theorem dX8_mayNight_50 : decode cX8_mayNight 50 = .ok (.isub, 1) := by decide +kernel
theorem dX8_mayNight_51 : decode cX8_mayNight 51 = .ok (.istore 5, 2) := by decide +kernel
theorem dX8_mayNight_53 : decode cX8_mayNight 53 = .ok (.iload 5, 2) := by decide +kernel
theorem dX8_mayNight_55 : decode cX8_mayNight 55 = .ok (.iload_n 3, 1) := by decide +kernel
theorem dX8_mayNight_56 : decode cX8_mayNight 56 = .ok (.iload 4, 2) := by decide +kernel
theorem dX8_mayNight_58 : decode cX8_mayNight 58 = .ok (.iadd, 1) := by decide +kernel
theorem dX8_mayNight_59 : decode cX8_mayNight 59 = .ok (.if_icmp .gt 29, 3) := by decide +kernel
theorem dX8_mayNight_62 : decode cX8_mayNight 62 = .ok (.iload 5, 2) := by decide +kernel
theorem dX8_mayNight_64 : decode cX8_mayNight 64 = .ok (.invokestatic 170, 3) := by decide +kernel
theorem dX8_mayNight_67 : decode cX8_mayNight 67 = .ok (.ifCond .eq 15, 3) := by decide +kernel
theorem dX8_mayNight_70 : decode cX8_mayNight 70 = .ok (.aload_n 0, 1) := by decide +kernel
theorem dX8_mayNight_71 : decode cX8_mayNight 71 = .ok (.iload_n 1, 1) := by decide +kernel
theorem dX8_mayNight_72 : decode cX8_mayNight 72 = .ok (.iload 5, 2) := by decide +kernel
theorem dX8_mayNight_74 : decode cX8_mayNight 74 = .ok (.invokevirtual 208, 3) := by decide +kernel
theorem dX8_mayNight_77 : decode cX8_mayNight 77 = .ok (.ifCond .eq 5, 3) := by decide +kernel
theorem dX8_mayNight_80 : decode cX8_mayNight 80 = .ok (.iconst 0, 1) := by decide +kernel
theorem dX8_mayNight_81 : decode cX8_mayNight 81 = .ok (.ireturn, 1) := by decide +kernel
theorem dX8_mayNight_82 : decode cX8_mayNight 82 = .ok (.iinc 5 1, 3) := by decide +kernel
theorem dX8_mayNight_85 : decode cX8_mayNight 85 = .ok (.goto (-32), 3) := by decide +kernel
theorem dX8_mayNight_88 : decode cX8_mayNight 88 = .ok (.aload_n 0, 1) := by decide +kernel
theorem dX8_mayNight_89 : decode cX8_mayNight 89 = .ok (.iload_n 3, 1) := by decide +kernel
theorem dX8_mayNight_90 : decode cX8_mayNight 90 = .ok (.iconst 3, 1) := by decide +kernel
theorem dX8_mayNight_91 : decode cX8_mayNight 91 = .ok (.invokevirtual 205, 3) := by decide +kernel
theorem dX8_mayNight_94 : decode cX8_mayNight 94 = .ok (.istore 5, 2) := by decide +kernel
theorem dX8_mayNight_96 : decode cX8_mayNight 96 = .ok (.iconst 1, 1) := by decide +kernel
theorem dX8_mayNight_97 : decode cX8_mayNight 97 = .ok (.istore 6, 2) := by decide +kernel
theorem dX8_mayNight_99 : decode cX8_mayNight 99 = .ok (.iload_n 3, 1) := by decide +kernel
theorem dX8_mayNight_100 : decode cX8_mayNight 100 = .ok (.bipush 29, 2) := by decide +kernel
theorem dX8_mayNight_102 : decode cX8_mayNight 102 = .ok (.isub, 1) := by decide +kernel
theorem dX8_mayNight_103 : decode cX8_mayNight 103 = .ok (.istore 7, 2) := by decide +kernel
theorem dX8_mayNight_105 : decode cX8_mayNight 105 = .ok (.iload 7, 2) := by decide +kernel
theorem dX8_mayNight_107 : decode cX8_mayNight 107 = .ok (.iload_n 3, 1) := by decide +kernel
theorem dX8_mayNight_108 : decode cX8_mayNight 108 = .ok (.if_icmp .gt 43, 3) := by decide +kernel
theorem dX8_mayNight_111 : decode cX8_mayNight 111 = .ok (.iload 6, 2) := by decide +kernel
theorem dX8_mayNight_113 : decode cX8_mayNight 113 = .ok (.iload 7, 2) := by decide +kernel
theorem dX8_mayNight_115 : decode cX8_mayNight 115 = .ok (.invokestatic 170, 3) := by decide +kernel
theorem dX8_mayNight_118 : decode cX8_mayNight 118 = .ok (.ifCond .eq 23, 3) := by decide +kernel
theorem dX8_mayNight_121 : decode cX8_mayNight 121 = .ok (.iload 7, 2) := by decide +kernel
theorem dX8_mayNight_123 : decode cX8_mayNight 123 = .ok (.iload_n 3, 1) := by decide +kernel
theorem dX8_mayNight_124 : decode cX8_mayNight 124 = .ok (.if_icmp .eq 17, 3) := by decide +kernel
theorem dX8_mayNight_127 : decode cX8_mayNight 127 = .ok (.aload_n 0, 1) := by decide +kernel
theorem dX8_mayNight_128 : decode cX8_mayNight 128 = .ok (.iload_n 1, 1) := by decide +kernel
theorem dX8_mayNight_129 : decode cX8_mayNight 129 = .ok (.iload 7, 2) := by decide +kernel
theorem dX8_mayNight_131 : decode cX8_mayNight 131 = .ok (.invokevirtual 208, 3) := by decide +kernel
theorem dX8_mayNight_134 : decode cX8_mayNight 134 = .ok (.ifCond .eq 7, 3) := by decide +kernel
theorem dX8_mayNight_137 : decode cX8_mayNight 137 = .ok (.iconst 1, 1) := by decide +kernel
theorem dX8_mayNight_138 : decode cX8_mayNight 138 = .ok (.goto 4, 3) := by decide +kernel
theorem dX8_mayNight_141 : decode cX8_mayNight 141 = .ok (.iconst 0, 1) := by decide +kernel
theorem dX8_mayNight_142 : decode cX8_mayNight 142 = .ok (.iadd, 1) := by decide +kernel
theorem dX8_mayNight_143 : decode cX8_mayNight 143 = .ok (.istore 6, 2) := by decide +kernel
theorem dX8_mayNight_145 : decode cX8_mayNight 145 = .ok (.iinc 7 1, 3) := by decide +kernel
theorem dX8_mayNight_148 : decode cX8_mayNight 148 = .ok (.goto (-43), 3) := by decide +kernel
theorem dX8_mayNight_151 : decode cX8_mayNight 151 = .ok (.iload_n 3, 1) := by decide +kernel
theorem dX8_mayNight_152 : decode cX8_mayNight 152 = .ok (.istore 7, 2) := by decide +kernel
theorem dX8_mayNight_154 : decode cX8_mayNight 154 = .ok (.iload 6, 2) := by decide +kernel
theorem dX8_mayNight_156 : decode cX8_mayNight 156 = .ok (.iload 5, 2) := by decide +kernel
theorem dX8_mayNight_158 : decode cX8_mayNight 158 = .ok (.if_icmp .gt 80, 3) := by decide +kernel
theorem dX8_mayNight_161 : decode cX8_mayNight 161 = .ok (.iload 7, 2) := by decide +kernel
theorem dX8_mayNight_163 : decode cX8_mayNight 163 = .ok (.iload_n 3, 1) := by decide +kernel
theorem dX8_mayNight_164 : decode cX8_mayNight 164 = .ok (.bipush 29, 2) := by decide +kernel
theorem dX8_mayNight_166 : decode cX8_mayNight 166 = .ok (.iadd, 1) := by decide +kernel
theorem dX8_mayNight_167 : decode cX8_mayNight 167 = .ok (.if_icmp .ge 71, 3) := by decide +kernel
theorem dX8_mayNight_170 : decode cX8_mayNight 170 = .ok (.iload 6, 2) := by decide +kernel
theorem dX8_mayNight_172 : decode cX8_mayNight 172 = .ok (.iload 7, 2) := by decide +kernel
theorem dX8_mayNight_174 : decode cX8_mayNight 174 = .ok (.bipush 29, 2) := by decide +kernel
theorem dX8_mayNight_176 : decode cX8_mayNight 176 = .ok (.isub, 1) := by decide +kernel
theorem dX8_mayNight_177 : decode cX8_mayNight 177 = .ok (.invokestatic 170, 3) := by decide +kernel
theorem dX8_mayNight_180 : decode cX8_mayNight 180 = .ok (.ifCond .eq 20, 3) := by decide +kernel
theorem dX8_mayNight_183 : decode cX8_mayNight 183 = .ok (.aload_n 0, 1) := by decide +kernel
theorem dX8_mayNight_184 : decode cX8_mayNight 184 = .ok (.iload_n 1, 1) := by decide +kernel
theorem dX8_mayNight_185 : decode cX8_mayNight 185 = .ok (.iload 7, 2) := by decide +kernel
theorem dX8_mayNight_187 : decode cX8_mayNight 187 = .ok (.bipush 29, 2) := by decide +kernel
theorem dX8_mayNight_189 : decode cX8_mayNight 189 = .ok (.isub, 1) := by decide +kernel
theorem dX8_mayNight_190 : decode cX8_mayNight 190 = .ok (.invokevirtual 208, 3) := by decide +kernel
theorem dX8_mayNight_193 : decode cX8_mayNight 193 = .ok (.ifCond .eq 7, 3) := by decide +kernel
theorem dX8_mayNight_196 : decode cX8_mayNight 196 = .ok (.iconst 1, 1) := by decide +kernel
theorem dX8_mayNight_197 : decode cX8_mayNight 197 = .ok (.goto 4, 3) := by decide +kernel
theorem dX8_mayNight_200 : decode cX8_mayNight 200 = .ok (.iconst 0, 1) := by decide +kernel
theorem dX8_mayNight_201 : decode cX8_mayNight 201 = .ok (.isub, 1) := by decide +kernel
theorem dX8_mayNight_202 : decode cX8_mayNight 202 = .ok (.istore 6, 2) := by decide +kernel
theorem dX8_mayNight_204 : decode cX8_mayNight 204 = .ok (.iinc 7 1, 3) := by decide +kernel
theorem dX8_mayNight_207 : decode cX8_mayNight 207 = .ok (.iload 6, 2) := by decide +kernel
theorem dX8_mayNight_209 : decode cX8_mayNight 209 = .ok (.iload 7, 2) := by decide +kernel
theorem dX8_mayNight_211 : decode cX8_mayNight 211 = .ok (.invokestatic 170, 3) := by decide +kernel
theorem dX8_mayNight_214 : decode cX8_mayNight 214 = .ok (.ifCond .eq 17, 3) := by decide +kernel
theorem dX8_mayNight_217 : decode cX8_mayNight 217 = .ok (.aload_n 0, 1) := by decide +kernel
theorem dX8_mayNight_218 : decode cX8_mayNight 218 = .ok (.iload_n 1, 1) := by decide +kernel
theorem dX8_mayNight_219 : decode cX8_mayNight 219 = .ok (.iload 7, 2) := by decide +kernel
theorem dX8_mayNight_221 : decode cX8_mayNight 221 = .ok (.invokevirtual 208, 3) := by decide +kernel
theorem dX8_mayNight_224 : decode cX8_mayNight 224 = .ok (.ifCond .eq 7, 3) := by decide +kernel
theorem dX8_mayNight_227 : decode cX8_mayNight 227 = .ok (.iconst 1, 1) := by decide +kernel
theorem dX8_mayNight_228 : decode cX8_mayNight 228 = .ok (.goto 4, 3) := by decide +kernel
theorem dX8_mayNight_231 : decode cX8_mayNight 231 = .ok (.iconst 0, 1) := by decide +kernel
theorem dX8_mayNight_232 : decode cX8_mayNight 232 = .ok (.iadd, 1) := by decide +kernel
theorem dX8_mayNight_233 : decode cX8_mayNight 233 = .ok (.istore 6, 2) := by decide +kernel
theorem dX8_mayNight_235 : decode cX8_mayNight 235 = .ok (.goto (-81), 3) := by decide +kernel
theorem dX8_mayNight_238 : decode cX8_mayNight 238 = .ok (.iload 6, 2) := by decide +kernel
theorem dX8_mayNight_240 : decode cX8_mayNight 240 = .ok (.iload 5, 2) := by decide +kernel
theorem dX8_mayNight_242 : decode cX8_mayNight 242 = .ok (.if_icmp .gt 7, 3) := by decide +kernel
theorem dX8_mayNight_245 : decode cX8_mayNight 245 = .ok (.iconst 1, 1) := by decide +kernel
theorem dX8_mayNight_246 : decode cX8_mayNight 246 = .ok (.goto 4, 3) := by decide +kernel
theorem dX8_mayNight_249 : decode cX8_mayNight 249 = .ok (.iconst 0, 1) := by decide +kernel
theorem dX8_mayNight_250 : decode cX8_mayNight 250 = .ok (.ireturn, 1) := by decide +kernel
set_option maxRecDepth 20000 in
theorem ggX8_duty_X8_in : GoodIn wsX8_duty wsX8_in := goodIn_r _ [6] (by decide +kernel) (by decide +kernel)
set_option maxRecDepth 20000 in
theorem gX8_duty_X8_in : GoodIn wsX8_duty (va_wsS RX8 166 yX8_in wsX8_in) := goodIn_app (goodIn_of _ (by decide +kernel)) ggX8_duty_X8_in
set_option maxRecDepth 20000 in
theorem ggX8_duty_X8_isDay : GoodIn wsX8_duty wsX8_isDay := goodIn_r _ [9, 3, 4, 5, 6] (by decide +kernel) (by decide +kernel)
set_option maxRecDepth 20000 in
theorem gX8_duty_X8_isDay : GoodIn wsX8_duty (va_wsS RX8 170 yX8_isDay wsX8_isDay) := goodIn_app (goodIn_of _ (by decide +kernel)) ggX8_duty_X8_isDay
set_option maxRecDepth 20000 in
theorem ggX8_duty_X8_mayNight : GoodIn wsX8_duty wsX8_mayNight := goodIn_r _ [13, 14, 15, 16, 17, 18, 5, 19, 20, 21, 22, 23, 24, 25, 26, 27, 28, 29, 30, 31, 32, 33, 34, 35, 36, 37, 38, 7, 8, 9, 3, 4, 6, 39, 40, 41, 42, 2, 43, 44, 45, 46, 47, 48, 49, 50, 51, 52, 53, 54, 55, 56, 57, 58, 59, 60, 61, 62, 63, 64, 65, 66, 67, 68, 69, 70, 71, 72, 73, 74, 75, 76, 77, 78, 79, 80, 81, 82, 83, 84, 85, 86, 87] (by decide +kernel) (by decide +kernel)
set_option maxRecDepth 20000 in
theorem gX8_duty_X8_mayNight : GoodIn wsX8_duty (wsV RX8 211 RX8 yX8_mayNight wsX8_mayNight) := goodIn_app (goodIn_of _ (by decide +kernel)) ggX8_duty_X8_mayNight
theorem dX8_duty_0 : decode cX8_duty 0 = .ok (.iload_n 1, 1) := by decide +kernel
theorem dX8_duty_1 : decode cX8_duty 1 = .ok (.iconst 0, 1) := by decide +kernel
theorem dX8_duty_2 : decode cX8_duty 2 = .ok (.iconst 5, 1) := by decide +kernel
theorem dX8_duty_3 : decode cX8_duty 3 = .ok (.invokestatic 166, 3) := by decide +kernel
theorem dX8_duty_6 : decode cX8_duty 6 = .ok (.ifCond .eq 24, 3) := by decide +kernel
theorem dX8_duty_9 : decode cX8_duty 9 = .ok (.iload_n 2, 1) := by decide +kernel
theorem dX8_duty_10 : decode cX8_duty 10 = .ok (.invokestatic 170, 3) := by decide +kernel
theorem dX8_duty_13 : decode cX8_duty 13 = .ok (.ifCond .eq 17, 3) := by decide +kernel
theorem dX8_duty_16 : decode cX8_duty 16 = .ok (.iload_n 3, 1) := by decide +kernel
theorem dX8_duty_17 : decode cX8_duty 17 = .ok (.iconst (-1), 1) := by decide +kernel
theorem dX8_duty_18 : decode cX8_duty 18 = .ok (.aload_n 0, 1) := by decide +kernel
theorem dX8_duty_19 : decode cX8_duty 19 = .ok (.getfield 189, 3) := by decide +kernel
theorem dX8_duty_22 : decode cX8_duty 22 = .ok (.iconst 1, 1) := by decide +kernel
theorem dX8_duty_23 : decode cX8_duty 23 = .ok (.isub, 1) := by decide +kernel
theorem dX8_duty_24 : decode cX8_duty 24 = .ok (.invokestatic 166, 3) := by decide +kernel
theorem dX8_duty_27 : decode cX8_duty 27 = .ok (.ifCond .ne 6, 3) := by decide +kernel
theorem dX8_duty_30 : decode cX8_duty 30 = .ok (.bipush (-2), 2) := by decide +kernel
theorem dX8_duty_32 : decode cX8_duty 32 = .ok (.ireturn, 1) := by decide +kernel
theorem dX8_duty_33 : decode cX8_duty 33 = .ok (.sipush 1000, 3) := by decide +kernel
theorem dX8_duty_36 : decode cX8_duty 36 = .ok (.iload_n 1, 1) := by decide +kernel
theorem dX8_duty_37 : decode cX8_duty 37 = .ok (.imul, 1) := by decide +kernel
theorem dX8_duty_38 : decode cX8_duty 38 = .ok (.iload_n 2, 1) := by decide +kernel
theorem dX8_duty_39 : decode cX8_duty 39 = .ok (.iadd, 1) := by decide +kernel
theorem dX8_duty_40 : decode cX8_duty 40 = .ok (.istore 4, 2) := by decide +kernel
theorem dX8_duty_42 : decode cX8_duty 42 = .ok (.aload_n 0, 1) := by decide +kernel
theorem dX8_duty_43 : decode cX8_duty 43 = .ok (.getfield 46, 3) := by decide +kernel
theorem dX8_duty_46 : decode cX8_duty 46 = .ok (.iload 4, 2) := by decide +kernel
theorem dX8_duty_48 : decode cX8_duty 48 = .ok (.iaload, 1) := by decide +kernel
theorem dX8_duty_49 : decode cX8_duty 49 = .ok (.istore 5, 2) := by decide +kernel
theorem dX8_duty_51 : decode cX8_duty 51 = .ok (.aload_n 0, 1) := by decide +kernel
theorem dX8_duty_52 : decode cX8_duty 52 = .ok (.getfield 46, 3) := by decide +kernel
theorem dX8_duty_55 : decode cX8_duty 55 = .ok (.iload 4, 2) := by decide +kernel
theorem dX8_duty_57 : decode cX8_duty 57 = .ok (.iconst (-1), 1) := by decide +kernel
theorem dX8_duty_58 : decode cX8_duty 58 = .ok (.iastore, 1) := by decide +kernel
theorem dX8_duty_59 : decode cX8_duty 59 = .ok (.iload_n 3, 1) := by decide +kernel
theorem dX8_duty_60 : decode cX8_duty 60 = .ok (.iconst (-1), 1) := by decide +kernel
theorem dX8_duty_61 : decode cX8_duty 61 = .ok (.if_icmp .eq 25, 3) := by decide +kernel
theorem dX8_duty_64 : decode cX8_duty 64 = .ok (.aload_n 0, 1) := by decide +kernel
theorem dX8_duty_65 : decode cX8_duty 65 = .ok (.iload_n 3, 1) := by decide +kernel
theorem dX8_duty_66 : decode cX8_duty 66 = .ok (.iload_n 1, 1) := by decide +kernel
theorem dX8_duty_67 : decode cX8_duty 67 = .ok (.iload_n 2, 1) := by decide +kernel
theorem dX8_duty_68 : decode cX8_duty 68 = .ok (.invokevirtual 211, 3) := by decide +kernel
theorem dX8_duty_71 : decode cX8_duty 71 = .ok (.ifCond .ne 15, 3) := by decide +kernel
theorem dX8_duty_74 : decode cX8_duty 74 = .ok (.aload_n 0, 1) := by decide +kernel
theorem dX8_duty_75 : decode cX8_duty 75 = .ok (.getfield 46, 3) := by decide +kernel
theorem dX8_duty_78 : decode cX8_duty 78 = .ok (.iload 4, 2) := by decide +kernel
theorem dX8_duty_80 : decode cX8_duty 80 = .ok (.iload 5, 2) := by decide +kernel
theorem dX8_duty_82 : decode cX8_duty 82 = .ok (.iastore, 1) := by decide +kernel
theorem dX8_duty_83 : decode cX8_duty 83 = .ok (.bipush (-4), 2) := by decide +kernel
theorem dX8_duty_85 : decode cX8_duty 85 = .ok (.ireturn, 1) := by decide +kernel
theorem dX8_duty_86 : decode cX8_duty 86 = .ok (.aload_n 0, 1) := by decide +kernel
theorem dX8_duty_87 : decode cX8_duty 87 = .ok (.getfield 46, 3) := by decide +kernel
theorem dX8_duty_90 : decode cX8_duty 90 = .ok (.iload 4, 2) := by decide +kernel
theorem dX8_duty_92 : decode cX8_duty 92 = .ok (.iload_n 3, 1) := by decide +kernel
theorem dX8_duty_93 : decode cX8_duty 93 = .ok (.iastore, 1) := by decide +kernel
theorem dX8_duty_94 : decode cX8_duty 94 = .ok (.iload 5, 2) := by decide +kernel
theorem dX8_duty_96 : decode cX8_duty 96 = .ok (.ireturn, 1) := by decide +kernel
set_option maxRecDepth 20000 in
theorem ggX8_onDuty_X8_in : GoodIn wsX8_onDuty wsX8_in := goodIn_r _ [5] (by decide +kernel) (by decide +kernel)
set_option maxRecDepth 20000 in
theorem gX8_onDuty_X8_in : GoodIn wsX8_onDuty (va_wsS RX8 166 yX8_in wsX8_in) := goodIn_app (goodIn_of _ (by decide +kernel)) ggX8_onDuty_X8_in
set_option maxRecDepth 20000 in
theorem ggX8_onDuty_X8_isDay : GoodIn wsX8_onDuty wsX8_isDay := goodIn_r _ [8, 2, 3, 4, 5] (by decide +kernel) (by decide +kernel)
set_option maxRecDepth 20000 in
theorem gX8_onDuty_X8_isDay : GoodIn wsX8_onDuty (va_wsS RX8 170 yX8_isDay wsX8_isDay) := goodIn_app (goodIn_of _ (by decide +kernel)) ggX8_onDuty_X8_isDay
theorem dX8_onDuty_0 : decode cX8_onDuty 0 = .ok (.iload_n 1, 1) := by decide +kernel
theorem dX8_onDuty_1 : decode cX8_onDuty 1 = .ok (.iconst 0, 1) := by decide +kernel
theorem dX8_onDuty_2 : decode cX8_onDuty 2 = .ok (.iconst 5, 1) := by decide +kernel
theorem dX8_onDuty_3 : decode cX8_onDuty 3 = .ok (.invokestatic 166, 3) := by decide +kernel
theorem dX8_onDuty_6 : decode cX8_onDuty 6 = .ok (.ifCond .eq 25, 3) := by decide +kernel
theorem dX8_onDuty_9 : decode cX8_onDuty 9 = .ok (.iload_n 2, 1) := by decide +kernel
theorem dX8_onDuty_10 : decode cX8_onDuty 10 = .ok (.invokestatic 170, 3) := by decide +kernel
theorem dX8_onDuty_13 : decode cX8_onDuty 13 = .ok (.ifCond .eq 18, 3) := by decide +kernel
theorem dX8_onDuty_16 : decode cX8_onDuty 16 = .ok (.aload_n 0, 1) := by decide +kernel
theorem dX8_onDuty_17 : decode cX8_onDuty 17 = .ok (.getfield 46, 3) := by decide +kernel
theorem dX8_onDuty_20 : decode cX8_onDuty 20 = .ok (.sipush 1000, 3) := by decide +kernel
theorem dX8_onDuty_23 : decode cX8_onDuty 23 = .ok (.iload_n 1, 1) := by decide +kernel
theorem dX8_onDuty_24 : decode cX8_onDuty 24 = .ok (.imul, 1) := by decide +kernel
theorem dX8_onDuty_25 : decode cX8_onDuty 25 = .ok (.iload_n 2, 1) := by decide +kernel
theorem dX8_onDuty_26 : decode cX8_onDuty 26 = .ok (.iadd, 1) := by decide +kernel
theorem dX8_onDuty_27 : decode cX8_onDuty 27 = .ok (.iaload, 1) := by decide +kernel
theorem dX8_onDuty_28 : decode cX8_onDuty 28 = .ok (.goto 5, 3) := by decide +kernel
theorem dX8_onDuty_31 : decode cX8_onDuty 31 = .ok (.bipush (-2), 2) := by decide +kernel
theorem dX8_onDuty_33 : decode cX8_onDuty 33 = .ok (.ireturn, 1) := by decide +kernel
set_option maxRecDepth 20000 in
theorem ggX8_strike_X8_isLawyer : GoodIn wsX8_strike wsX8_isLawyer := goodIn_r _ [8, 3, 9, 10, 7, 11, 51, 52, 53, 54, 55, 56, 57, 58, 59, 60, 61, 62, 63, 64, 65, 66, 67, 68, 69, 70, 71, 72, 73, 74, 75, 76, 77, 78, 79, 80, 81, 82, 83, 84, 85, 86, 87, 88, 89, 90, 91, 92, 93, 94, 95] (by decide +kernel) (by decide +kernel)
set_option maxRecDepth 20000 in
theorem gX8_strike_X8_isLawyer : GoodIn wsX8_strike (wsV RX8 192 RX8 yX8_isLawyer wsX8_isLawyer) := goodIn_app (goodIn_of _ (by decide +kernel)) ggX8_strike_X8_isLawyer
set_option maxRecDepth 20000 in
theorem ggX8_strike_X8_isDay : GoodIn wsX8_strike wsX8_isDay := goodIn_r _ [14, 9, 10, 7, 11] (by decide +kernel) (by decide +kernel)
set_option maxRecDepth 20000 in
theorem gX8_strike_X8_isDay : GoodIn wsX8_strike (va_wsS RX8 170 yX8_isDay wsX8_isDay) := goodIn_app (goodIn_of _ (by decide +kernel)) ggX8_strike_X8_isDay
set_option maxRecDepth 20000 in
theorem ggX8_strike_X8_isStruck : GoodIn wsX8_strike wsX8_isStruck := goodIn_r _ [18, 1, 51, 52, 53, 54, 55, 56, 57, 58, 59, 60, 61, 62, 63, 64, 65, 66, 67, 68, 69, 70, 71, 72, 73, 74, 75, 76, 77, 78, 79, 80, 81, 82, 83, 84, 85, 86, 87, 88, 89, 90, 91, 92, 93, 94, 95] (by decide +kernel) (by decide +kernel)
set_option maxRecDepth 20000 in
theorem gX8_strike_X8_isStruck : GoodIn wsX8_strike (wsV RX8 201 RX8 yX8_isStruck wsX8_isStruck) := goodIn_app (goodIn_of _ (by decide +kernel)) ggX8_strike_X8_isStruck
set_option maxRecDepth 20000 in
theorem ggX8_strike_X8_mayNight : GoodIn wsX8_strike wsX8_mayNight := goodIn_r _ [22, 23, 24, 15, 16, 17, 7, 18, 1, 25, 26, 27, 28, 29, 30, 31, 32, 33, 34, 35, 36, 37, 38, 39, 40, 41, 42, 12, 13, 14, 9, 10, 11, 43, 44, 45, 46, 2, 51, 52, 53, 54, 55, 56, 57, 58, 59, 60, 61, 62, 63, 64, 65, 66, 67, 68, 69, 70, 71, 72, 73, 74, 75, 76, 77, 78, 79, 80, 81, 82, 83, 84, 85, 86, 87, 88, 89, 90, 91, 92, 93, 94, 95] (by decide +kernel) (by decide +kernel)
set_option maxRecDepth 20000 in
theorem gX8_strike_X8_mayNight : GoodIn wsX8_strike (wsV RX8 211 RX8 yX8_mayNight wsX8_mayNight) := goodIn_app (goodIn_of _ (by decide +kernel)) ggX8_strike_X8_mayNight
set_option maxRecDepth 20000 in
theorem ggX8_strike_X8_duties : GoodIn wsX8_strike wsX8_duties := goodIn_r _ [50, 2, 51, 52, 53, 54, 55, 56, 57, 58, 59, 60, 61, 62, 63, 64, 65, 66, 67, 68, 69, 70, 71, 72, 73, 74, 75, 76, 77, 78, 79, 80, 81, 82, 83, 84, 85, 86, 87, 88, 89, 90, 91, 92, 93, 94, 95] (by decide +kernel) (by decide +kernel)
set_option maxRecDepth 20000 in
theorem gX8_strike_X8_duties : GoodIn wsX8_strike (wsV RX8 195 RX8 yX8_duties wsX8_duties) := goodIn_app (goodIn_of _ (by decide +kernel)) ggX8_strike_X8_duties
theorem dX8_strike_0 : decode cX8_strike 0 = .ok (.aload_n 0, 1) := by decide +kernel
theorem dX8_strike_1 : decode cX8_strike 1 = .ok (.iload_n 1, 1) := by decide +kernel
theorem dX8_strike_2 : decode cX8_strike 2 = .ok (.invokevirtual 192, 3) := by decide +kernel
theorem dX8_strike_5 : decode cX8_strike 5 = .ok (.ifCond .eq 19, 3) := by decide +kernel
theorem dX8_strike_8 : decode cX8_strike 8 = .ok (.iload_n 2, 1) := by decide +kernel
theorem dX8_strike_9 : decode cX8_strike 9 = .ok (.invokestatic 170, 3) := by decide +kernel
theorem dX8_strike_12 : decode cX8_strike 12 = .ok (.ifCond .eq 12, 3) := by decide +kernel
theorem dX8_strike_15 : decode cX8_strike 15 = .ok (.aload_n 0, 1) := by decide +kernel
theorem dX8_strike_16 : decode cX8_strike 16 = .ok (.iload_n 1, 1) := by decide +kernel
theorem dX8_strike_17 : decode cX8_strike 17 = .ok (.iload_n 2, 1) := by decide +kernel
theorem dX8_strike_18 : decode cX8_strike 18 = .ok (.invokevirtual 201, 3) := by decide +kernel
theorem dX8_strike_21 : decode cX8_strike 21 = .ok (.ifCond .eq 6, 3) := by decide +kernel
theorem dX8_strike_24 : decode cX8_strike 24 = .ok (.bipush (-2), 2) := by decide +kernel
theorem dX8_strike_26 : decode cX8_strike 26 = .ok (.ireturn, 1) := by decide +kernel
theorem dX8_strike_27 : decode cX8_strike 27 = .ok (.aload_n 0, 1) := by decide +kernel
theorem dX8_strike_28 : decode cX8_strike 28 = .ok (.getfield 37, 3) := by decide +kernel
theorem dX8_strike_31 : decode cX8_strike 31 = .ok (.iload_n 1, 1) := by decide +kernel
theorem dX8_strike_32 : decode cX8_strike 32 = .ok (.iload_n 2, 1) := by decide +kernel
theorem dX8_strike_33 : decode cX8_strike 33 = .ok (.iastore, 1) := by decide +kernel
theorem dX8_strike_34 : decode cX8_strike 34 = .ok (.iconst 0, 1) := by decide +kernel
theorem dX8_strike_35 : decode cX8_strike 35 = .ok (.istore_n 3, 1) := by decide +kernel
theorem dX8_strike_36 : decode cX8_strike 36 = .ok (.iload_n 2, 1) := by decide +kernel
theorem dX8_strike_37 : decode cX8_strike 37 = .ok (.istore 4, 2) := by decide +kernel
theorem dX8_strike_39 : decode cX8_strike 39 = .ok (.iload 4, 2) := by decide +kernel
theorem dX8_strike_41 : decode cX8_strike 41 = .ok (.sipush 1000, 3) := by decide +kernel
theorem dX8_strike_44 : decode cX8_strike 44 = .ok (.if_icmp .ge 135, 3) := by decide +kernel
theorem dX8_strike_47 : decode cX8_strike 47 = .ok (.iconst 0, 1) := by decide +kernel
theorem dX8_strike_48 : decode cX8_strike 48 = .ok (.istore 5, 2) := by decide +kernel
theorem dX8_strike_50 : decode cX8_strike 50 = .ok (.iload 5, 2) := by decide +kernel
theorem dX8_strike_52 : decode cX8_strike 52 = .ok (.bipush 6, 2) := by decide +kernel
theorem dX8_strike_54 : decode cX8_strike 54 = .ok (.if_icmp .ge 119, 3) := by decide +kernel
theorem dX8_strike_57 : decode cX8_strike 57 = .ok (.sipush 1000, 3) := by decide +kernel
theorem dX8_strike_60 : decode cX8_strike 60 = .ok (.iload 5, 2) := by decide +kernel
theorem dX8_strike_62 : decode cX8_strike 62 = .ok (.imul, 1) := by decide +kernel
theorem dX8_strike_63 : decode cX8_strike 63 = .ok (.iload 4, 2) := by decide +kernel
theorem dX8_strike_65 : decode cX8_strike 65 = .ok (.iadd, 1) := by decide +kernel
theorem dX8_strike_66 : decode cX8_strike 66 = .ok (.istore 6, 2) := by decide +kernel
theorem dX8_strike_68 : decode cX8_strike 68 = .ok (.aload_n 0, 1) := by decide +kernel
theorem dX8_strike_69 : decode cX8_strike 69 = .ok (.getfield 46, 3) := by decide +kernel
theorem dX8_strike_72 : decode cX8_strike 72 = .ok (.iload 6, 2) := by decide +kernel
theorem dX8_strike_74 : decode cX8_strike 74 = .ok (.iaload, 1) := by decide +kernel
theorem dX8_strike_75 : decode cX8_strike 75 = .ok (.iload_n 1, 1) := by decide +kernel
theorem dX8_strike_76 : decode cX8_strike 76 = .ok (.if_icmp .eq 6, 3) := by decide +kernel
theorem dX8_strike_79 : decode cX8_strike 79 = .ok (.goto 88, 3) := by decide +kernel
theorem dX8_strike_82 : decode cX8_strike 82 = .ok (.iinc 3 1, 3) := by decide +kernel
theorem dX8_strike_85 : decode cX8_strike 85 = .ok (.aload_n 0, 1) := by decide +kernel
theorem dX8_strike_86 : decode cX8_strike 86 = .ok (.getfield 46, 3) := by decide +kernel
theorem dX8_strike_89 : decode cX8_strike 89 = .ok (.iload 6, 2) := by decide +kernel
theorem dX8_strike_91 : decode cX8_strike 91 = .ok (.iconst (-1), 1) := by decide +kernel
theorem dX8_strike_92 : decode cX8_strike 92 = .ok (.iastore, 1) := by decide +kernel
theorem dX8_strike_93 : decode cX8_strike 93 = .ok (.iconst (-1), 1) := by decide +kernel
theorem dX8_strike_94 : decode cX8_strike 94 = .ok (.istore 7, 2) := by decide +kernel
theorem dX8_strike_96 : decode cX8_strike 96 = .ok (.iconst 0, 1) := by decide +kernel
theorem dX8_strike_97 : decode cX8_strike 97 = .ok (.istore 8, 2) := by decide +kernel
theorem dX8_strike_99 : decode cX8_strike 99 = .ok (.iload 8, 2) := by decide +kernel
theorem dX8_strike_101 : decode cX8_strike 101 = .ok (.aload_n 0, 1) := by decide +kernel
theorem dX8_strike_102 : decode cX8_strike 102 = .ok (.getfield 189, 3) := by decide +kernel
theorem dX8_strike_105 : decode cX8_strike 105 = .ok (.if_icmp .ge 53, 3) := by decide +kernel
theorem dX8_strike_108 : decode cX8_strike 108 = .ok (.aload_n 0, 1) := by decide +kernel
theorem dX8_strike_109 : decode cX8_strike 109 = .ok (.iload 8, 2) := by decide +kernel
theorem dX8_strike_111 : decode cX8_strike 111 = .ok (.iload 5, 2) := by decide +kernel
theorem dX8_strike_113 : decode cX8_strike 113 = .ok (.iload 4, 2) := by decide +kernel
theorem dX8_strike_115 : decode cX8_strike 115 = .ok (.invokevirtual 211, 3) := by decide +kernel
theorem dX8_strike_118 : decode cX8_strike 118 = .ok (.ifCond .eq 34, 3) := by decide +kernel
theorem dX8_strike_121 : decode cX8_strike 121 = .ok (.iload 7, 2) := by decide +kernel
theorem dX8_strike_123 : decode cX8_strike 123 = .ok (.iconst (-1), 1) := by decide +kernel
theorem dX8_strike_124 : decode cX8_strike 124 = .ok (.if_icmp .eq 24, 3) := by decide +kernel
theorem dX8_strike_127 : decode cX8_strike 127 = .ok (.aload_n 0, 1) := by decide +kernel
theorem dX8_strike_128 : decode cX8_strike 128 = .ok (.iload 8, 2) := by decide +kernel
theorem dX8_strike_130 : decode cX8_strike 130 = .ok (.sipush 999, 3) := by decide +kernel
theorem dX8_strike_133 : decode cX8_strike 133 = .ok (.invokevirtual 195, 3) := by decide +kernel
theorem dX8_strike_136 : decode cX8_strike 136 = .ok (.aload_n 0, 1) := by decide +kernel
theorem dX8_strike_137 : decode cX8_strike 137 = .ok (.iload 7, 2) := by decide +kernel
theorem dX8_strike_139 : decode cX8_strike 139 = .ok (.sipush 999, 3) := by decide +kernel
theorem dX8_strike_142 : decode cX8_strike 142 = .ok (.invokevirtual 195, 3) := by decide +kernel
theorem dX8_strike_145 : decode cX8_strike 145 = .ok (.if_icmp .ge 7, 3) := by decide +kernel
theorem dX8_strike_148 : decode cX8_strike 148 = .ok (.iload 8, 2) := by decide +kernel
theorem dX8_strike_150 : decode cX8_strike 150 = .ok (.istore 7, 2) := by decide +kernel
theorem dX8_strike_152 : decode cX8_strike 152 = .ok (.iinc 8 1, 3) := by decide +kernel
theorem dX8_strike_155 : decode cX8_strike 155 = .ok (.goto (-56), 3) := by decide +kernel
theorem dX8_strike_158 : decode cX8_strike 158 = .ok (.aload_n 0, 1) := by decide +kernel
theorem dX8_strike_159 : decode cX8_strike 159 = .ok (.getfield 46, 3) := by decide +kernel
theorem dX8_strike_162 : decode cX8_strike 162 = .ok (.iload 6, 2) := by decide +kernel
theorem dX8_strike_164 : decode cX8_strike 164 = .ok (.iload 7, 2) := by decide +kernel
theorem dX8_strike_166 : decode cX8_strike 166 = .ok (.iastore, 1) := by decide +kernel
theorem dX8_strike_167 : decode cX8_strike 167 = .ok (.iinc 5 1, 3) := by decide +kernel
theorem dX8_strike_170 : decode cX8_strike 170 = .ok (.goto (-120), 3) := by decide +kernel
theorem dX8_strike_173 : decode cX8_strike 173 = .ok (.iinc 4 1, 3) := by decide +kernel
theorem dX8_strike_176 : decode cX8_strike 176 = .ok (.goto (-137), 3) := by decide +kernel
theorem dX8_strike_179 : decode cX8_strike 179 = .ok (.iload_n 3, 1) := by decide +kernel
theorem dX8_strike_180 : decode cX8_strike 180 = .ok (.ireturn, 1) := by decide +kernel
set_option maxRecDepth 20000 in
theorem ggX8_tryNights_X8_floor : GoodIn wsX8_tryNights wsX8_floor := goodIn_r _ [12, 13, 5, 7, 56, 57, 58, 59, 60, 61, 62, 63, 64, 65, 66, 67, 68, 69, 70, 71, 72, 73, 74, 75, 76, 77, 78, 79, 80, 81, 82, 83, 84, 85, 86, 87, 88, 89, 90, 91, 92, 93, 94, 95, 96, 97, 98, 99, 100] (by decide +kernel) (by decide +kernel)
set_option maxRecDepth 20000 in
theorem gX8_tryNights_X8_floor : GoodIn wsX8_tryNights (wsV RX8 217 RX8 yX8_floor wsX8_floor) := goodIn_app (goodIn_of _ (by decide +kernel)) ggX8_tryNights_X8_floor
set_option maxRecDepth 20000 in
theorem ggX8_tryNights_X8_mayNight : GoodIn wsX8_tryNights wsX8_mayNight := goodIn_r _ [17, 18, 19, 20, 21, 22, 11, 23, 24, 25, 26, 27, 28, 29, 30, 31, 32, 33, 34, 35, 36, 37, 38, 39, 40, 41, 42, 43, 44, 45, 46, 47, 48, 49, 50, 51, 52, 6, 56, 57, 58, 59, 60, 61, 62, 63, 64, 65, 66, 67, 68, 69, 70, 71, 72, 73, 74, 75, 76, 77, 78, 79, 80, 81, 82, 83, 84, 85, 86, 87, 88, 89, 90, 91, 92, 93, 94, 95, 96, 97, 98, 99, 100] (by decide +kernel) (by decide +kernel)
set_option maxRecDepth 20000 in
theorem gX8_tryNights_X8_mayNight : GoodIn wsX8_tryNights (wsV RX8 211 RX8 yX8_mayNight wsX8_mayNight) := goodIn_app (goodIn_of _ (by decide +kernel)) ggX8_tryNights_X8_mayNight
set_option maxRecDepth 20000 in
theorem ggX8_tryNights_X8_tryNights : GoodIn wsX8_tryNights wsX8_tryNights := goodIn_r _ [0, 1, 2, 3, 4, 5, 6, 7, 8, 9, 10, 11, 12, 13, 14, 15, 16, 17, 18, 19, 20, 21, 22, 23, 24, 25, 26, 27, 28, 29, 30, 31, 32, 33, 34, 35, 36, 37, 38, 39, 40, 41, 42, 43, 44, 45, 46, 47, 48, 49, 50, 51, 52, 53, 54, 55, 56, 57, 58, 59, 60, 61, 62, 63, 64, 65, 66, 67, 68, 69, 70, 71, 72, 73, 74, 75, 76, 77, 78, 79, 80, 81, 82, 83, 84, 85, 86, 87, 88, 89, 90, 91, 92, 93, 94, 95, 96, 97, 98, 99, 100] (by decide +kernel) (by decide +kernel)
set_option maxRecDepth 20000 in
theorem gX8_tryNights_X8_tryNights : GoodIn wsX8_tryNights (wsV RX8 223 RX8 yX8_tryNights wsX8_tryNights) := goodIn_app (goodIn_of _ (by decide +kernel)) ggX8_tryNights_X8_tryNights
theorem dX8_tryNights_0 : decode cX8_tryNights 0 = .ok (.iload 5, 2) := by decide +kernel
theorem dX8_tryNights_2 : decode cX8_tryNights 2 = .ok (.aload_n 0, 1) := by decide +kernel
theorem dX8_tryNights_3 : decode cX8_tryNights 3 = .ok (.getfield 214, 3) := by decide +kernel
theorem dX8_tryNights_6 : decode cX8_tryNights 6 = .ok (.if_icmp .gt 37, 3) := by decide +kernel
theorem dX8_tryNights_9 : decode cX8_tryNights 9 = .ok (.iload 5, 2) := by decide +kernel
theorem dX8_tryNights_11 : decode cX8_tryNights 11 = .ok (.aload_n 0, 1) := by decide +kernel
theorem dX8_tryNights_12 : decode cX8_tryNights 12 = .ok (.getfield 214, 3) := by decide +kernel
theorem dX8_tryNights_15 : decode cX8_tryNights 15 = .ok (.if_icmp .ne 29, 3) := by decide +kernel
theorem dX8_tryNights_18 : decode cX8_tryNights 18 = .ok (.iload 6, 2) := by decide +kernel
theorem dX8_tryNights_20 : decode cX8_tryNights 20 = .ok (.aload_n 0, 1) := by decide +kernel
theorem dX8_tryNights_21 : decode cX8_tryNights 21 = .ok (.iload_n 3, 1) := by decide +kernel
theorem dX8_tryNights_22 : decode cX8_tryNights 22 = .ok (.iload 4, 2) := by decide +kernel
theorem dX8_tryNights_24 : decode cX8_tryNights 24 = .ok (.isub, 1) := by decide +kernel
theorem dX8_tryNights_25 : decode cX8_tryNights 25 = .ok (.aload_n 0, 1) := by decide +kernel
theorem dX8_tryNights_26 : decode cX8_tryNights 26 = .ok (.getfield 214, 3) := by decide +kernel
theorem dX8_tryNights_29 : decode cX8_tryNights 29 = .ok (.iload 5, 2) := by decide +kernel
theorem dX8_tryNights_31 : decode cX8_tryNights 31 = .ok (.isub, 1) := by decide +kernel
theorem dX8_tryNights_32 : decode cX8_tryNights 32 = .ok (.invokevirtual 217, 3) := by decide +kernel
theorem dX8_tryNights_35 : decode cX8_tryNights 35 = .ok (.iadd, 1) := by decide +kernel
theorem dX8_tryNights_36 : decode cX8_tryNights 36 = .ok (.aload_n 0, 1) := by decide +kernel
theorem dX8_tryNights_37 : decode cX8_tryNights 37 = .ok (.getfield 220, 3) := by decide +kernel
theorem dX8_tryNights_40 : decode cX8_tryNights 40 = .ok (.if_icmp .lt 4, 3) := by decide +kernel
theorem dX8_tryNights_43 : decode cX8_tryNights 43 = .ok (.return_, 1) := by decide +kernel
theorem dX8_tryNights_44 : decode cX8_tryNights 44 = .ok (.iload 4, 2) := by decide +kernel
theorem dX8_tryNights_46 : decode cX8_tryNights 46 = .ok (.iload_n 3, 1) := by decide +kernel
theorem dX8_tryNights_47 : decode cX8_tryNights 47 = .ok (.if_icmp .ne 45, 3) := by decide +kernel
theorem dX8_tryNights_50 : decode cX8_tryNights 50 = .ok (.aload_n 0, 1) := by decide +kernel
theorem dX8_tryNights_51 : decode cX8_tryNights 51 = .ok (.iload 5, 2) := by decide +kernel
theorem dX8_tryNights_53 : decode cX8_tryNights 53 = .ok (.putfield 214, 3) := by decide +kernel
theorem dX8_tryNights_56 : decode cX8_tryNights 56 = .ok (.aload_n 0, 1) := by decide +kernel
theorem dX8_tryNights_57 : decode cX8_tryNights 57 = .ok (.iload 6, 2) := by decide +kernel
theorem dX8_tryNights_59 : decode cX8_tryNights 59 = .ok (.putfield 220, 3) := by decide +kernel
theorem dX8_tryNights_62 : decode cX8_tryNights 62 = .ok (.iconst 0, 1) := by decide +kernel
theorem dX8_tryNights_63 : decode cX8_tryNights 63 = .ok (.istore 7, 2) := by decide +kernel
theorem dX8_tryNights_65 : decode cX8_tryNights 65 = .ok (.iload 7, 2) := by decide +kernel
theorem dX8_tryNights_67 : decode cX8_tryNights 67 = .ok (.iload_n 3, 1) := by decide +kernel
theorem dX8_tryNights_68 : decode cX8_tryNights 68 = .ok (.if_icmp .ge 23, 3) := by decide +kernel
theorem dX8_tryNights_71 : decode cX8_tryNights 71 = .ok (.aload_n 0, 1) := by decide +kernel
theorem dX8_tryNights_72 : decode cX8_tryNights 72 = .ok (.getfield 52, 3) := by decide +kernel
theorem dX8_tryNights_75 : decode cX8_tryNights 75 = .ok (.iload 7, 2) := by decide +kernel
theorem dX8_tryNights_77 : decode cX8_tryNights 77 = .ok (.aload_n 0, 1) := by decide +kernel
theorem dX8_tryNights_78 : decode cX8_tryNights 78 = .ok (.getfield 49, 3) := by decide +kernel
theorem dX8_tryNights_81 : decode cX8_tryNights 81 = .ok (.iload 7, 2) := by decide +kernel
theorem dX8_tryNights_83 : decode cX8_tryNights 83 = .ok (.iaload, 1) := by decide +kernel
theorem dX8_tryNights_84 : decode cX8_tryNights 84 = .ok (.iastore, 1) := by decide +kernel
theorem dX8_tryNights_85 : decode cX8_tryNights 85 = .ok (.iinc 7 1, 3) := by decide +kernel
theorem dX8_tryNights_88 : decode cX8_tryNights 88 = .ok (.goto (-23), 3) := by decide +kernel
theorem dX8_tryNights_91 : decode cX8_tryNights 91 = .ok (.return_, 1) := by decide +kernel
theorem dX8_tryNights_92 : decode cX8_tryNights 92 = .ok (.sipush 1000, 3) := by decide +kernel
theorem dX8_tryNights_95 : decode cX8_tryNights 95 = .ok (.iload_n 1, 1) := by decide +kernel
theorem dX8_tryNights_96 : decode cX8_tryNights 96 = .ok (.imul, 1) := by decide +kernel
theorem dX8_tryNights_97 : decode cX8_tryNights 97 = .ok (.iload_n 2, 1) := by decide +kernel
theorem dX8_tryNights_98 : decode cX8_tryNights 98 = .ok (.iadd, 1) := by decide +kernel
theorem dX8_tryNights_99 : decode cX8_tryNights 99 = .ok (.iload 4, 2) := by decide +kernel
theorem dX8_tryNights_101 : decode cX8_tryNights 101 = .ok (.iadd, 1) := by decide +kernel
theorem dX8_tryNights_102 : decode cX8_tryNights 102 = .ok (.istore 7, 2) := by decide +kernel
theorem dX8_tryNights_104 : decode cX8_tryNights 104 = .ok (.iconst 0, 1) := by decide +kernel
theorem dX8_tryNights_105 : decode cX8_tryNights 105 = .ok (.istore 8, 2) := by decide +kernel
theorem dX8_tryNights_107 : decode cX8_tryNights 107 = .ok (.iload 8, 2) := by decide +kernel
theorem dX8_tryNights_109 : decode cX8_tryNights 109 = .ok (.aload_n 0, 1) := by decide +kernel
theorem dX8_tryNights_110 : decode cX8_tryNights 110 = .ok (.getfield 189, 3) := by decide +kernel
theorem dX8_tryNights_113 : decode cX8_tryNights 113 = .ok (.if_icmp .ge 105, 3) := by decide +kernel
theorem dX8_tryNights_116 : decode cX8_tryNights 116 = .ok (.aload_n 0, 1) := by decide +kernel
theorem dX8_tryNights_117 : decode cX8_tryNights 117 = .ok (.iload 8, 2) := by decide +kernel
theorem dX8_tryNights_119 : decode cX8_tryNights 119 = .ok (.iload_n 1, 1) := by decide +kernel
theorem dX8_tryNights_120 : decode cX8_tryNights 120 = .ok (.iload_n 2, 1) := by decide +kernel
theorem dX8_tryNights_121 : decode cX8_tryNights 121 = .ok (.iload 4, 2) := by decide +kernel
theorem dX8_tryNights_123 : decode cX8_tryNights 123 = .ok (.iadd, 1) := by decide +kernel
theorem dX8_tryNights_124 : decode cX8_tryNights 124 = .ok (.invokevirtual 211, 3) := by decide +kernel
theorem dX8_tryNights_127 : decode cX8_tryNights 127 = .ok (.ifCond .ne 6, 3) := by decide +kernel
theorem dX8_tryNights_130 : decode cX8_tryNights 130 = .ok (.goto 82, 3) := by decide +kernel
theorem dX8_tryNights_133 : decode cX8_tryNights 133 = .ok (.aload_n 0, 1) := by decide +kernel
theorem dX8_tryNights_134 : decode cX8_tryNights 134 = .ok (.getfield 46, 3) := by decide +kernel
theorem dX8_tryNights_137 : decode cX8_tryNights 137 = .ok (.iload 7, 2) := by decide +kernel
theorem dX8_tryNights_139 : decode cX8_tryNights 139 = .ok (.iload 8, 2) := by decide +kernel
theorem dX8_tryNights_141 : decode cX8_tryNights 141 = .ok (.iastore, 1) := by decide +kernel
theorem dX8_tryNights_142 : decode cX8_tryNights 142 = .ok (.aload_n 0, 1) := by decide +kernel
theorem dX8_tryNights_143 : decode cX8_tryNights 143 = .ok (.getfield 49, 3) := by decide +kernel
theorem dX8_tryNights_146 : decode cX8_tryNights 146 = .ok (.iload 4, 2) := by decide +kernel
theorem dX8_tryNights_148 : decode cX8_tryNights 148 = .ok (.iload 8, 2) := by decide +kernel
theorem dX8_tryNights_150 : decode cX8_tryNights 150 = .ok (.iastore, 1) := by decide +kernel
theorem dX8_tryNights_151 : decode cX8_tryNights 151 = .ok (.iconst 2, 1) := by decide +kernel
theorem dX8_tryNights_152 : decode cX8_tryNights 152 = .ok (.aload_n 0, 1) := by decide +kernel
theorem dX8_tryNights_153 : decode cX8_tryNights 153 = .ok (.getfield 55, 3) := by decide +kernel
theorem dX8_tryNights_156 : decode cX8_tryNights 156 = .ok (.iload 8, 2) := by decide +kernel
theorem dX8_tryNights_158 : decode cX8_tryNights 158 = .ok (.iaload, 1) := by decide +kernel
theorem dX8_tryNights_159 : decode cX8_tryNights 159 = .ok (.imul, 1) := by decide +kernel
theorem dX8_tryNights_160 : decode cX8_tryNights 160 = .ok (.iconst 1, 1) := by decide +kernel
theorem dX8_tryNights_161 : decode cX8_tryNights 161 = .ok (.iadd, 1) := by decide +kernel
theorem dX8_tryNights_162 : decode cX8_tryNights 162 = .ok (.istore 9, 2) := by decide +kernel
theorem dX8_tryNights_164 : decode cX8_tryNights 164 = .ok (.aload_n 0, 1) := by decide +kernel
theorem dX8_tryNights_165 : decode cX8_tryNights 165 = .ok (.getfield 55, 3) := by decide +kernel
theorem dX8_tryNights_168 : decode cX8_tryNights 168 = .ok (.iload 8, 2) := by decide +kernel
theorem dX8_tryNights_170 : decode cX8_tryNights 170 = .ok (.dup2, 1) := by decide +kernel
theorem dX8_tryNights_171 : decode cX8_tryNights 171 = .ok (.iaload, 1) := by decide +kernel
theorem dX8_tryNights_172 : decode cX8_tryNights 172 = .ok (.iconst 1, 1) := by decide +kernel
theorem dX8_tryNights_173 : decode cX8_tryNights 173 = .ok (.iadd, 1) := by decide +kernel
theorem dX8_tryNights_174 : decode cX8_tryNights 174 = .ok (.iastore, 1) := by decide +kernel
theorem dX8_tryNights_175 : decode cX8_tryNights 175 = .ok (.aload_n 0, 1) := by decide +kernel
theorem dX8_tryNights_176 : decode cX8_tryNights 176 = .ok (.iload_n 1, 1) := by decide +kernel
theorem dX8_tryNights_177 : decode cX8_tryNights 177 = .ok (.iload_n 2, 1) := by decide +kernel
theorem dX8_tryNights_178 : decode cX8_tryNights 178 = .ok (.iload_n 3, 1) := by decide +kernel
theorem dX8_tryNights_179 : decode cX8_tryNights 179 = .ok (.iload 4, 2) := by decide +kernel
theorem dX8_tryNights_181 : decode cX8_tryNights 181 = .ok (.iconst 1, 1) := by decide +kernel
theorem dX8_tryNights_182 : decode cX8_tryNights 182 = .ok (.iadd, 1) := by decide +kernel
theorem dX8_tryNights_183 : decode cX8_tryNights 183 = .ok (.iload 5, 2) := by decide +kernel
theorem dX8_tryNights_185 : decode cX8_tryNights 185 = .ok (.iload 6, 2) := by decide +kernel
theorem dX8_tryNights_187 : decode cX8_tryNights 187 = .ok (.iload 9, 2) := by decide +kernel
theorem dX8_tryNights_189 : decode cX8_tryNights 189 = .ok (.iadd, 1) := by decide +kernel
theorem dX8_tryNights_190 : decode cX8_tryNights 190 = .ok (.invokevirtual 223, 3) := by decide +kernel
theorem dX8_tryNights_193 : decode cX8_tryNights 193 = .ok (.aload_n 0, 1) := by decide +kernel
theorem dX8_tryNights_194 : decode cX8_tryNights 194 = .ok (.getfield 55, 3) := by decide +kernel
theorem dX8_tryNights_197 : decode cX8_tryNights 197 = .ok (.iload 8, 2) := by decide +kernel
theorem dX8_tryNights_199 : decode cX8_tryNights 199 = .ok (.dup2, 1) := by decide +kernel
theorem dX8_tryNights_200 : decode cX8_tryNights 200 = .ok (.iaload, 1) := by decide +kernel
theorem dX8_tryNights_201 : decode cX8_tryNights 201 = .ok (.iconst 1, 1) := by decide +kernel
theorem dX8_tryNights_202 : decode cX8_tryNights 202 = .ok (.isub, 1) := by decide +kernel
theorem dX8_tryNights_203 : decode cX8_tryNights 203 = .ok (.iastore, 1) := by decide +kernel
theorem dX8_tryNights_204 : decode cX8_tryNights 204 = .ok (.aload_n 0, 1) := by decide +kernel
theorem dX8_tryNights_205 : decode cX8_tryNights 205 = .ok (.getfield 46, 3) := by decide +kernel
theorem dX8_tryNights_208 : decode cX8_tryNights 208 = .ok (.iload 7, 2) := by decide +kernel
theorem dX8_tryNights_210 : decode cX8_tryNights 210 = .ok (.iconst (-1), 1) := by decide +kernel
theorem dX8_tryNights_211 : decode cX8_tryNights 211 = .ok (.iastore, 1) := by decide +kernel
theorem dX8_tryNights_212 : decode cX8_tryNights 212 = .ok (.iinc 8 1, 3) := by decide +kernel
theorem dX8_tryNights_215 : decode cX8_tryNights 215 = .ok (.goto (-108), 3) := by decide +kernel
theorem dX8_tryNights_218 : decode cX8_tryNights 218 = .ok (.aload_n 0, 1) := by decide +kernel
theorem dX8_tryNights_219 : decode cX8_tryNights 219 = .ok (.getfield 49, 3) := by decide +kernel
theorem dX8_tryNights_222 : decode cX8_tryNights 222 = .ok (.iload 4, 2) := by decide +kernel
theorem dX8_tryNights_224 : decode cX8_tryNights 224 = .ok (.iconst (-1), 1) := by decide +kernel
theorem dX8_tryNights_225 : decode cX8_tryNights 225 = .ok (.iastore, 1) := by decide +kernel
theorem dX8_tryNights_226 : decode cX8_tryNights 226 = .ok (.aload_n 0, 1) := by decide +kernel
theorem dX8_tryNights_227 : decode cX8_tryNights 227 = .ok (.iload_n 1, 1) := by decide +kernel
theorem dX8_tryNights_228 : decode cX8_tryNights 228 = .ok (.iload_n 2, 1) := by decide +kernel
theorem dX8_tryNights_229 : decode cX8_tryNights 229 = .ok (.iload_n 3, 1) := by decide +kernel
theorem dX8_tryNights_230 : decode cX8_tryNights 230 = .ok (.iload 4, 2) := by decide +kernel
theorem dX8_tryNights_232 : decode cX8_tryNights 232 = .ok (.iconst 1, 1) := by decide +kernel
theorem dX8_tryNights_233 : decode cX8_tryNights 233 = .ok (.iadd, 1) := by decide +kernel
theorem dX8_tryNights_234 : decode cX8_tryNights 234 = .ok (.iload 5, 2) := by decide +kernel
theorem dX8_tryNights_236 : decode cX8_tryNights 236 = .ok (.iconst 1, 1) := by decide +kernel
theorem dX8_tryNights_237 : decode cX8_tryNights 237 = .ok (.iadd, 1) := by decide +kernel
theorem dX8_tryNights_238 : decode cX8_tryNights 238 = .ok (.iload 6, 2) := by decide +kernel
theorem dX8_tryNights_240 : decode cX8_tryNights 240 = .ok (.invokevirtual 223, 3) := by decide +kernel
theorem dX8_tryNights_243 : decode cX8_tryNights 243 = .ok (.return_, 1) := by decide +kernel
theorem dX8_floor_0 : decode cX8_floor 0 = .ok (.ldc 227, 2) := by decide +kernel
theorem dX8_floor_2 : decode cX8_floor 2 = .ok (.istore_n 3, 1) := by decide +kernel
theorem dX8_floor_3 : decode cX8_floor 3 = .ok (.iconst 0, 1) := by decide +kernel
theorem dX8_floor_4 : decode cX8_floor 4 = .ok (.istore 4, 2) := by decide +kernel
theorem dX8_floor_6 : decode cX8_floor 6 = .ok (.iload 4, 2) := by decide +kernel
theorem dX8_floor_8 : decode cX8_floor 8 = .ok (.aload_n 0, 1) := by decide +kernel
theorem dX8_floor_9 : decode cX8_floor 9 = .ok (.getfield 189, 3) := by decide +kernel
theorem dX8_floor_12 : decode cX8_floor 12 = .ok (.if_icmp .ge 32, 3) := by decide +kernel
theorem dX8_floor_15 : decode cX8_floor 15 = .ok (.aload_n 0, 1) := by decide +kernel
theorem dX8_floor_16 : decode cX8_floor 16 = .ok (.getfield 55, 3) := by decide +kernel
theorem dX8_floor_19 : decode cX8_floor 19 = .ok (.iload 4, 2) := by decide +kernel
theorem dX8_floor_21 : decode cX8_floor 21 = .ok (.iaload, 1) := by decide +kernel
theorem dX8_floor_22 : decode cX8_floor 22 = .ok (.iload_n 3, 1) := by decide +kernel
theorem dX8_floor_23 : decode cX8_floor 23 = .ok (.if_icmp .ge 13, 3) := by decide +kernel
theorem dX8_floor_26 : decode cX8_floor 26 = .ok (.aload_n 0, 1) := by decide +kernel
theorem dX8_floor_27 : decode cX8_floor 27 = .ok (.getfield 55, 3) := by decide +kernel
theorem dX8_floor_30 : decode cX8_floor 30 = .ok (.iload 4, 2) := by decide +kernel
theorem dX8_floor_32 : decode cX8_floor 32 = .ok (.iaload, 1) := by decide +kernel
theorem dX8_floor_33 : decode cX8_floor 33 = .ok (.goto 4, 3) := by decide +kernel
theorem dX8_floor_36 : decode cX8_floor 36 = .ok (.iload_n 3, 1) := by decide +kernel
theorem dX8_floor_37 : decode cX8_floor 37 = .ok (.istore_n 3, 1) := by decide +kernel
theorem dX8_floor_38 : decode cX8_floor 38 = .ok (.iinc 4 1, 3) := by decide +kernel
theorem dX8_floor_41 : decode cX8_floor 41 = .ok (.goto (-35), 3) := by decide +kernel
theorem dX8_floor_44 : decode cX8_floor 44 = .ok (.iload_n 1, 1) := by decide +kernel
theorem dX8_floor_45 : decode cX8_floor 45 = .ok (.iload_n 2, 1) := by decide +kernel
theorem dX8_floor_46 : decode cX8_floor 46 = .ok (.isub, 1) := by decide +kernel
theorem dX8_floor_47 : decode cX8_floor 47 = .ok (.istore 4, 2) := by decide +kernel
theorem dX8_floor_49 : decode cX8_floor 49 = .ok (.iload 4, 2) := by decide +kernel
theorem dX8_floor_51 : decode cX8_floor 51 = .ok (.ifCond .le 10, 3) := by decide +kernel
theorem dX8_floor_54 : decode cX8_floor 54 = .ok (.aload_n 0, 1) := by decide +kernel
theorem dX8_floor_55 : decode cX8_floor 55 = .ok (.getfield 189, 3) := by decide +kernel
theorem dX8_floor_58 : decode cX8_floor 58 = .ok (.ifCond .ne 7, 3) := by decide +kernel
theorem dX8_floor_61 : decode cX8_floor 61 = .ok (.iconst 0, 1) := by decide +kernel
theorem dX8_floor_62 : decode cX8_floor 62 = .ok (.goto 11, 3) := by decide +kernel
theorem dX8_floor_65 : decode cX8_floor 65 = .ok (.iload 4, 2) := by decide +kernel
theorem dX8_floor_67 : decode cX8_floor 67 = .ok (.iconst 2, 1) := by decide +kernel
theorem dX8_floor_68 : decode cX8_floor 68 = .ok (.iload_n 3, 1) := by decide +kernel
theorem dX8_floor_69 : decode cX8_floor 69 = .ok (.imul, 1) := by decide +kernel
theorem dX8_floor_70 : decode cX8_floor 70 = .ok (.iconst 1, 1) := by decide +kernel
theorem dX8_floor_71 : decode cX8_floor 71 = .ok (.iadd, 1) := by decide +kernel
theorem dX8_floor_72 : decode cX8_floor 72 = .ok (.imul, 1) := by decide +kernel
theorem dX8_floor_73 : decode cX8_floor 73 = .ok (.ireturn, 1) := by decide +kernel
set_option maxRecDepth 20000 in
theorem ggX8_plan_X8_in : GoodIn wsX8_plan wsX8_in := goodIn_r _ [11] (by decide +kernel) (by decide +kernel)
set_option maxRecDepth 20000 in
theorem gX8_plan_X8_in : GoodIn wsX8_plan (va_wsS RX8 166 yX8_in wsX8_in) := goodIn_app (goodIn_of _ (by decide +kernel)) ggX8_plan_X8_in
set_option maxRecDepth 20000 in
theorem ggX8_plan_X8_isDay : GoodIn wsX8_plan wsX8_isDay := goodIn_r _ [14, 8, 9, 10, 11] (by decide +kernel) (by decide +kernel)
set_option maxRecDepth 20000 in
theorem gX8_plan_X8_isDay : GoodIn wsX8_plan (va_wsS RX8 170 yX8_isDay wsX8_isDay) := goodIn_app (goodIn_of _ (by decide +kernel)) ggX8_plan_X8_isDay
set_option maxRecDepth 20000 in
theorem ggX8_plan_X8_duties : GoodIn wsX8_plan wsX8_duties := goodIn_r _ [18, 1, 62, 63, 64, 65, 66, 67, 68, 69, 70, 71, 72, 73, 74, 75, 76, 77, 78, 79, 80, 81, 82, 83, 84, 85, 86, 87, 88, 89, 90, 91, 92, 93, 94, 95, 96, 97, 98, 99, 100, 101, 102, 103, 104, 105, 106] (by decide +kernel) (by decide +kernel)
set_option maxRecDepth 20000 in
theorem gX8_plan_X8_duties : GoodIn wsX8_plan (wsV RX8 195 RX8 yX8_duties wsX8_duties) := goodIn_app (goodIn_of _ (by decide +kernel)) ggX8_plan_X8_duties
set_option maxRecDepth 20000 in
theorem ggX8_plan_X8_tryNights : GoodIn wsX8_plan wsX8_tryNights := goodIn_r _ [22, 4, 6, 7, 23, 2, 1, 3, 24, 25, 26, 10, 27, 28, 29, 30, 31, 32, 33, 34, 35, 36, 37, 38, 39, 40, 41, 42, 43, 44, 45, 46, 47, 48, 49, 50, 51, 52, 53, 54, 55, 56, 57, 12, 13, 14, 8, 9, 11, 58, 59, 60, 61, 19, 20, 21, 62, 63, 64, 65, 66, 67, 68, 69, 70, 71, 72, 73, 74, 75, 76, 77, 78, 79, 80, 81, 82, 83, 84, 85, 86, 87, 88, 89, 90, 91, 92, 93, 94, 95, 96, 97, 98, 99, 100, 101, 102, 103, 104, 105, 106] (by decide +kernel) (by decide +kernel)
set_option maxRecDepth 20000 in
theorem gX8_plan_X8_tryNights : GoodIn wsX8_plan (wsV RX8 223 RX8 yX8_tryNights wsX8_tryNights) := goodIn_app (goodIn_of _ (by decide +kernel)) ggX8_plan_X8_tryNights
theorem dX8_plan_0 : decode cX8_plan 0 = .ok (.iload_n 1, 1) := by decide +kernel
theorem dX8_plan_1 : decode cX8_plan 1 = .ok (.iconst 0, 1) := by decide +kernel
theorem dX8_plan_2 : decode cX8_plan 2 = .ok (.iconst 5, 1) := by decide +kernel
theorem dX8_plan_3 : decode cX8_plan 3 = .ok (.invokestatic 166, 3) := by decide +kernel
theorem dX8_plan_6 : decode cX8_plan 6 = .ok (.ifCond .eq 30, 3) := by decide +kernel
theorem dX8_plan_9 : decode cX8_plan 9 = .ok (.iload_n 3, 1) := by decide +kernel
theorem dX8_plan_10 : decode cX8_plan 10 = .ok (.iconst 1, 1) := by decide +kernel
theorem dX8_plan_11 : decode cX8_plan 11 = .ok (.iconst 4, 1) := by decide +kernel
theorem dX8_plan_12 : decode cX8_plan 12 = .ok (.invokestatic 166, 3) := by decide +kernel
theorem dX8_plan_15 : decode cX8_plan 15 = .ok (.ifCond .eq 21, 3) := by decide +kernel
theorem dX8_plan_18 : decode cX8_plan 18 = .ok (.iload_n 2, 1) := by decide +kernel
theorem dX8_plan_19 : decode cX8_plan 19 = .ok (.invokestatic 170, 3) := by decide +kernel
theorem dX8_plan_22 : decode cX8_plan 22 = .ok (.ifCond .eq 14, 3) := by decide +kernel
theorem dX8_plan_25 : decode cX8_plan 25 = .ok (.iload_n 2, 1) := by decide +kernel
theorem dX8_plan_26 : decode cX8_plan 26 = .ok (.iload_n 3, 1) := by decide +kernel
theorem dX8_plan_27 : decode cX8_plan 27 = .ok (.iadd, 1) := by decide +kernel
theorem dX8_plan_28 : decode cX8_plan 28 = .ok (.iconst 1, 1) := by decide +kernel
theorem dX8_plan_29 : decode cX8_plan 29 = .ok (.isub, 1) := by decide +kernel
theorem dX8_plan_30 : decode cX8_plan 30 = .ok (.invokestatic 170, 3) := by decide +kernel
theorem dX8_plan_33 : decode cX8_plan 33 = .ok (.ifCond .ne 6, 3) := by decide +kernel
theorem dX8_plan_36 : decode cX8_plan 36 = .ok (.bipush (-2), 2) := by decide +kernel
theorem dX8_plan_38 : decode cX8_plan 38 = .ok (.ireturn, 1) := by decide +kernel
theorem dX8_plan_39 : decode cX8_plan 39 = .ok (.iconst 0, 1) := by decide +kernel
theorem dX8_plan_40 : decode cX8_plan 40 = .ok (.istore 4, 2) := by decide +kernel
theorem dX8_plan_42 : decode cX8_plan 42 = .ok (.iload 4, 2) := by decide +kernel
theorem dX8_plan_44 : decode cX8_plan 44 = .ok (.iload_n 3, 1) := by decide +kernel
theorem dX8_plan_45 : decode cX8_plan 45 = .ok (.if_icmp .ge 25, 3) := by decide +kernel
theorem dX8_plan_48 : decode cX8_plan 48 = .ok (.aload_n 0, 1) := by decide +kernel
theorem dX8_plan_49 : decode cX8_plan 49 = .ok (.getfield 46, 3) := by decide +kernel
theorem dX8_plan_52 : decode cX8_plan 52 = .ok (.sipush 1000, 3) := by decide +kernel
theorem dX8_plan_55 : decode cX8_plan 55 = .ok (.iload_n 1, 1) := by decide +kernel
theorem dX8_plan_56 : decode cX8_plan 56 = .ok (.imul, 1) := by decide +kernel
theorem dX8_plan_57 : decode cX8_plan 57 = .ok (.iload_n 2, 1) := by decide +kernel
theorem dX8_plan_58 : decode cX8_plan 58 = .ok (.iadd, 1) := by decide +kernel
theorem dX8_plan_59 : decode cX8_plan 59 = .ok (.iload 4, 2) := by decide +kernel
theorem dX8_plan_61 : decode cX8_plan 61 = .ok (.iadd, 1) := by decide +kernel
theorem dX8_plan_62 : decode cX8_plan 62 = .ok (.iconst (-1), 1) := by decide +kernel
theorem dX8_plan_63 : decode cX8_plan 63 = .ok (.iastore, 1) := by decide +kernel
theorem dX8_plan_64 : decode cX8_plan 64 = .ok (.iinc 4 1, 3) := by decide +kernel
theorem dX8_plan_67 : decode cX8_plan 67 = .ok (.goto (-25), 3) := by decide +kernel
theorem dX8_plan_70 : decode cX8_plan 70 = .ok (.iconst 0, 1) := by decide +kernel
theorem dX8_plan_71 : decode cX8_plan 71 = .ok (.istore 4, 2) := by decide +kernel
theorem dX8_plan_73 : decode cX8_plan 73 = .ok (.iconst 0, 1) := by decide +kernel
theorem dX8_plan_74 : decode cX8_plan 74 = .ok (.istore 5, 2) := by decide +kernel
theorem dX8_plan_76 : decode cX8_plan 76 = .ok (.iload 5, 2) := by decide +kernel
theorem dX8_plan_78 : decode cX8_plan 78 = .ok (.aload_n 0, 1) := by decide +kernel
theorem dX8_plan_79 : decode cX8_plan 79 = .ok (.getfield 189, 3) := by decide +kernel
theorem dX8_plan_82 : decode cX8_plan 82 = .ok (.if_icmp .ge 45, 3) := by decide +kernel
theorem dX8_plan_85 : decode cX8_plan 85 = .ok (.aload_n 0, 1) := by decide +kernel
theorem dX8_plan_86 : decode cX8_plan 86 = .ok (.getfield 55, 3) := by decide +kernel
theorem dX8_plan_89 : decode cX8_plan 89 = .ok (.iload 5, 2) := by decide +kernel
theorem dX8_plan_91 : decode cX8_plan 91 = .ok (.aload_n 0, 1) := by decide +kernel
theorem dX8_plan_92 : decode cX8_plan 92 = .ok (.iload 5, 2) := by decide +kernel
theorem dX8_plan_94 : decode cX8_plan 94 = .ok (.sipush 999, 3) := by decide +kernel
theorem dX8_plan_97 : decode cX8_plan 97 = .ok (.invokevirtual 195, 3) := by decide +kernel
theorem dX8_plan_100 : decode cX8_plan 100 = .ok (.iastore, 1) := by decide +kernel
theorem dX8_plan_101 : decode cX8_plan 101 = .ok (.iload 4, 2) := by decide +kernel
theorem dX8_plan_103 : decode cX8_plan 103 = .ok (.aload_n 0, 1) := by decide +kernel
theorem dX8_plan_104 : decode cX8_plan 104 = .ok (.getfield 55, 3) := by decide +kernel
theorem dX8_plan_107 : decode cX8_plan 107 = .ok (.iload 5, 2) := by decide +kernel
theorem dX8_plan_109 : decode cX8_plan 109 = .ok (.iaload, 1) := by decide +kernel
theorem dX8_plan_110 : decode cX8_plan 110 = .ok (.aload_n 0, 1) := by decide +kernel
theorem dX8_plan_111 : decode cX8_plan 111 = .ok (.getfield 55, 3) := by decide +kernel
theorem dX8_plan_114 : decode cX8_plan 114 = .ok (.iload 5, 2) := by decide +kernel
theorem dX8_plan_116 : decode cX8_plan 116 = .ok (.iaload, 1) := by decide +kernel
theorem dX8_plan_117 : decode cX8_plan 117 = .ok (.imul, 1) := by decide +kernel
theorem dX8_plan_118 : decode cX8_plan 118 = .ok (.iadd, 1) := by decide +kernel
theorem dX8_plan_119 : decode cX8_plan 119 = .ok (.istore 4, 2) := by decide +kernel
theorem dX8_plan_121 : decode cX8_plan 121 = .ok (.iinc 5 1, 3) := by decide +kernel
theorem dX8_plan_124 : decode cX8_plan 124 = .ok (.goto (-48), 3) := by decide +kernel
theorem dX8_plan_127 : decode cX8_plan 127 = .ok (.aload_n 0, 1) := by decide +kernel
theorem dX8_plan_128 : decode cX8_plan 128 = .ok (.iload_n 3, 1) := by decide +kernel
theorem dX8_plan_129 : decode cX8_plan 129 = .ok (.putfield 214, 3) := by decide +kernel
theorem dX8_plan_132 : decode cX8_plan 132 = .ok (.aload_n 0, 1) := by decide +kernel
theorem dX8_plan_133 : decode cX8_plan 133 = .ok (.ldc 230, 2) := by decide +kernel
theorem dX8_plan_135 : decode cX8_plan 135 = .ok (.putfield 220, 3) := by decide +kernel
theorem dX8_plan_138 : decode cX8_plan 138 = .ok (.iconst 0, 1) := by decide +kernel
theorem dX8_plan_139 : decode cX8_plan 139 = .ok (.istore 5, 2) := by decide +kernel
theorem dX8_plan_141 : decode cX8_plan 141 = .ok (.iload 5, 2) := by decide +kernel
theorem dX8_plan_143 : decode cX8_plan 143 = .ok (.iload_n 3, 1) := by decide +kernel
theorem dX8_plan_144 : decode cX8_plan 144 = .ok (.if_icmp .ge 17, 3) := by decide +kernel
theorem dX8_plan_147 : decode cX8_plan 147 = .ok (.aload_n 0, 1) := by decide +kernel
theorem dX8_plan_148 : decode cX8_plan 148 = .ok (.getfield 52, 3) := by decide +kernel
theorem dX8_plan_151 : decode cX8_plan 151 = .ok (.iload 5, 2) := by decide +kernel
theorem dX8_plan_153 : decode cX8_plan 153 = .ok (.iconst (-1), 1) := by decide +kernel
theorem dX8_plan_154 : decode cX8_plan 154 = .ok (.iastore, 1) := by decide +kernel
theorem dX8_plan_155 : decode cX8_plan 155 = .ok (.iinc 5 1, 3) := by decide +kernel
theorem dX8_plan_158 : decode cX8_plan 158 = .ok (.goto (-17), 3) := by decide +kernel
theorem dX8_plan_161 : decode cX8_plan 161 = .ok (.aload_n 0, 1) := by decide +kernel
theorem dX8_plan_162 : decode cX8_plan 162 = .ok (.iload_n 1, 1) := by decide +kernel
theorem dX8_plan_163 : decode cX8_plan 163 = .ok (.iload_n 2, 1) := by decide +kernel
theorem dX8_plan_164 : decode cX8_plan 164 = .ok (.iload_n 3, 1) := by decide +kernel
theorem dX8_plan_165 : decode cX8_plan 165 = .ok (.iconst 0, 1) := by decide +kernel
theorem dX8_plan_166 : decode cX8_plan 166 = .ok (.iconst 0, 1) := by decide +kernel
theorem dX8_plan_167 : decode cX8_plan 167 = .ok (.iload 4, 2) := by decide +kernel
theorem dX8_plan_169 : decode cX8_plan 169 = .ok (.invokevirtual 223, 3) := by decide +kernel
theorem dX8_plan_172 : decode cX8_plan 172 = .ok (.iconst 0, 1) := by decide +kernel
theorem dX8_plan_173 : decode cX8_plan 173 = .ok (.istore 5, 2) := by decide +kernel
theorem dX8_plan_175 : decode cX8_plan 175 = .ok (.iload 5, 2) := by decide +kernel
theorem dX8_plan_177 : decode cX8_plan 177 = .ok (.iload_n 3, 1) := by decide +kernel
theorem dX8_plan_178 : decode cX8_plan 178 = .ok (.if_icmp .ge 31, 3) := by decide +kernel
theorem dX8_plan_181 : decode cX8_plan 181 = .ok (.aload_n 0, 1) := by decide +kernel
theorem dX8_plan_182 : decode cX8_plan 182 = .ok (.getfield 46, 3) := by decide +kernel
theorem dX8_plan_185 : decode cX8_plan 185 = .ok (.sipush 1000, 3) := by decide +kernel
