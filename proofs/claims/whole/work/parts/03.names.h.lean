theorem dX9_carryOut_0 : decode cX9_carryOut 0 = .ok (.aload_n 0, 1) := by decide +kernel
theorem dX9_carryOut_1 : decode cX9_carryOut 1 = .ok (.getfield 269, 3) := by decide +kernel
theorem dX9_carryOut_4 : decode cX9_carryOut 4 = .ok (.tableswitch 232 0 10 #[60, 71, 71, 101, 125, 125, 163, 175, 175, 205, 215], 60) := by decide +kernel
theorem dX9_carryOut_64 : decode cX9_carryOut 64 = .ok (.aload_n 0, 1) := by decide +kernel
theorem dX9_carryOut_65 : decode cX9_carryOut 65 = .ok (.aload_n 0, 1) := by decide +kernel
theorem dX9_carryOut_66 : decode cX9_carryOut 66 = .ok (.getfield 23, 3) := by decide +kernel
theorem dX9_carryOut_69 : decode cX9_carryOut 69 = .ok (.iconst 0, 1) := by decide +kernel
theorem dX9_carryOut_70 : decode cX9_carryOut 70 = .ok (.iaload, 1) := by decide +kernel
theorem dX9_carryOut_71 : decode cX9_carryOut 71 = .ok (.invokevirtual 71, 3) := by decide +kernel
theorem dX9_carryOut_74 : decode cX9_carryOut 74 = .ok (.ireturn, 1) := by decide +kernel
theorem dX9_carryOut_75 : decode cX9_carryOut 75 = .ok (.aload_n 0, 1) := by decide +kernel
theorem dX9_carryOut_76 : decode cX9_carryOut 76 = .ok (.aload_n 0, 1) := by decide +kernel
theorem dX9_carryOut_77 : decode cX9_carryOut 77 = .ok (.getfield 23, 3) := by decide +kernel
theorem dX9_carryOut_80 : decode cX9_carryOut 80 = .ok (.iconst 0, 1) := by decide +kernel
theorem dX9_carryOut_81 : decode cX9_carryOut 81 = .ok (.iaload, 1) := by decide +kernel
theorem dX9_carryOut_82 : decode cX9_carryOut 82 = .ok (.aload_n 0, 1) := by decide +kernel
theorem dX9_carryOut_83 : decode cX9_carryOut 83 = .ok (.getfield 269, 3) := by decide +kernel
theorem dX9_carryOut_86 : decode cX9_carryOut 86 = .ok (.iconst 1, 1) := by decide +kernel
theorem dX9_carryOut_87 : decode cX9_carryOut 87 = .ok (.if_icmp .ne 7, 3) := by decide +kernel
theorem dX9_carryOut_90 : decode cX9_carryOut 90 = .ok (.iconst 1, 1) := by decide +kernel
theorem dX9_carryOut_91 : decode cX9_carryOut 91 = .ok (.goto 4, 3) := by decide +kernel
theorem dX9_carryOut_94 : decode cX9_carryOut 94 = .ok (.iconst (-1), 1) := by decide +kernel
theorem dX9_carryOut_95 : decode cX9_carryOut 95 = .ok (.aload_n 0, 1) := by decide +kernel
theorem dX9_carryOut_96 : decode cX9_carryOut 96 = .ok (.getfield 23, 3) := by decide +kernel
theorem dX9_carryOut_99 : decode cX9_carryOut 99 = .ok (.iconst 1, 1) := by decide +kernel
theorem dX9_carryOut_100 : decode cX9_carryOut 100 = .ok (.iaload, 1) := by decide +kernel
theorem dX9_carryOut_101 : decode cX9_carryOut 101 = .ok (.invokevirtual 89, 3) := by decide +kernel
theorem dX9_carryOut_104 : decode cX9_carryOut 104 = .ok (.ireturn, 1) := by decide +kernel
theorem dX9_carryOut_105 : decode cX9_carryOut 105 = .ok (.aload_n 0, 1) := by decide +kernel
theorem dX9_carryOut_106 : decode cX9_carryOut 106 = .ok (.bipush 22, 2) := by decide +kernel
theorem dX9_carryOut_108 : decode cX9_carryOut 108 = .ok (.iconst 3, 1) := by decide +kernel
theorem dX9_carryOut_109 : decode cX9_carryOut 109 = .ok (.aload_n 0, 1) := by decide +kernel
theorem dX9_carryOut_110 : decode cX9_carryOut 110 = .ok (.getfield 23, 3) := by decide +kernel
theorem dX9_carryOut_113 : decode cX9_carryOut 113 = .ok (.iconst 0, 1) := by decide +kernel
theorem dX9_carryOut_114 : decode cX9_carryOut 114 = .ok (.iaload, 1) := by decide +kernel
theorem dX9_carryOut_115 : decode cX9_carryOut 115 = .ok (.imul, 1) := by decide +kernel
theorem dX9_carryOut_116 : decode cX9_carryOut 116 = .ok (.iadd, 1) := by decide +kernel
theorem dX9_carryOut_117 : decode cX9_carryOut 117 = .ok (.iconst 2, 1) := by decide +kernel
theorem dX9_carryOut_118 : decode cX9_carryOut 118 = .ok (.iadd, 1) := by decide +kernel
theorem dX9_carryOut_119 : decode cX9_carryOut 119 = .ok (.aload_n 0, 1) := by decide +kernel
theorem dX9_carryOut_120 : decode cX9_carryOut 120 = .ok (.getfield 23, 3) := by decide +kernel
theorem dX9_carryOut_123 : decode cX9_carryOut 123 = .ok (.iconst 1, 1) := by decide +kernel
theorem dX9_carryOut_124 : decode cX9_carryOut 124 = .ok (.iaload, 1) := by decide +kernel
theorem dX9_carryOut_125 : decode cX9_carryOut 125 = .ok (.invokevirtual 77, 3) := by decide +kernel
theorem dX9_carryOut_128 : decode cX9_carryOut 128 = .ok (.ireturn, 1) := by decide +kernel
theorem dX9_carryOut_129 : decode cX9_carryOut 129 = .ok (.aload_n 0, 1) := by decide +kernel
theorem dX9_carryOut_130 : decode cX9_carryOut 130 = .ok (.bipush 49, 2) := by decide +kernel
theorem dX9_carryOut_132 : decode cX9_carryOut 132 = .ok (.aload_n 0, 1) := by decide +kernel
theorem dX9_carryOut_133 : decode cX9_carryOut 133 = .ok (.getfield 23, 3) := by decide +kernel
theorem dX9_carryOut_136 : decode cX9_carryOut 136 = .ok (.iconst 0, 1) := by decide +kernel
theorem dX9_carryOut_137 : decode cX9_carryOut 137 = .ok (.iaload, 1) := by decide +kernel
theorem dX9_carryOut_138 : decode cX9_carryOut 138 = .ok (.iadd, 1) := by decide +kernel
theorem dX9_carryOut_139 : decode cX9_carryOut 139 = .ok (.aload_n 0, 1) := by decide +kernel
theorem dX9_carryOut_140 : decode cX9_carryOut 140 = .ok (.getfield 269, 3) := by decide +kernel
theorem dX9_carryOut_143 : decode cX9_carryOut 143 = .ok (.iconst 4, 1) := by decide +kernel
theorem dX9_carryOut_144 : decode cX9_carryOut 144 = .ok (.if_icmp .ne 12, 3) := by decide +kernel
theorem dX9_carryOut_147 : decode cX9_carryOut 147 = .ok (.aload_n 0, 1) := by decide +kernel
theorem dX9_carryOut_148 : decode cX9_carryOut 148 = .ok (.getfield 23, 3) := by decide +kernel
theorem dX9_carryOut_151 : decode cX9_carryOut 151 = .ok (.iconst 1, 1) := by decide +kernel
theorem dX9_carryOut_152 : decode cX9_carryOut 152 = .ok (.iaload, 1) := by decide +kernel
theorem dX9_carryOut_153 : decode cX9_carryOut 153 = .ok (.goto 10, 3) := by decide +kernel
theorem dX9_carryOut_156 : decode cX9_carryOut 156 = .ok (.aload_n 0, 1) := by decide +kernel
theorem dX9_carryOut_157 : decode cX9_carryOut 157 = .ok (.getfield 23, 3) := by decide +kernel
theorem dX9_carryOut_160 : decode cX9_carryOut 160 = .ok (.iconst 1, 1) := by decide +kernel
theorem dX9_carryOut_161 : decode cX9_carryOut 161 = .ok (.iaload, 1) := by decide +kernel
theorem dX9_carryOut_162 : decode cX9_carryOut 162 = .ok (.ineg, 1) := by decide +kernel
theorem dX9_carryOut_163 : decode cX9_carryOut 163 = .ok (.invokevirtual 77, 3) := by decide +kernel
theorem dX9_carryOut_166 : decode cX9_carryOut 166 = .ok (.ireturn, 1) := by decide +kernel
theorem dX9_carryOut_167 : decode cX9_carryOut 167 = .ok (.aload_n 0, 1) := by decide +kernel
theorem dX9_carryOut_168 : decode cX9_carryOut 168 = .ok (.iconst 5, 1) := by decide +kernel
theorem dX9_carryOut_169 : decode cX9_carryOut 169 = .ok (.aload_n 0, 1) := by decide +kernel
theorem dX9_carryOut_170 : decode cX9_carryOut 170 = .ok (.getfield 23, 3) := by decide +kernel
theorem dX9_carryOut_173 : decode cX9_carryOut 173 = .ok (.iconst 0, 1) := by decide +kernel
theorem dX9_carryOut_174 : decode cX9_carryOut 174 = .ok (.iaload, 1) := by decide +kernel
theorem dX9_carryOut_175 : decode cX9_carryOut 175 = .ok (.invokevirtual 77, 3) := by decide +kernel
theorem dX9_carryOut_178 : decode cX9_carryOut 178 = .ok (.ireturn, 1) := by decide +kernel
theorem dX9_carryOut_179 : decode cX9_carryOut 179 = .ok (.aload_n 0, 1) := by decide +kernel
theorem dX9_carryOut_180 : decode cX9_carryOut 180 = .ok (.aload_n 0, 1) := by decide +kernel
theorem dX9_carryOut_181 : decode cX9_carryOut 181 = .ok (.getfield 269, 3) := by decide +kernel
theorem dX9_carryOut_184 : decode cX9_carryOut 184 = .ok (.bipush 7, 2) := by decide +kernel
theorem dX9_carryOut_186 : decode cX9_carryOut 186 = .ok (.if_icmp .ne 12, 3) := by decide +kernel
theorem dX9_carryOut_189 : decode cX9_carryOut 189 = .ok (.aload_n 0, 1) := by decide +kernel
theorem dX9_carryOut_190 : decode cX9_carryOut 190 = .ok (.getfield 23, 3) := by decide +kernel
theorem dX9_carryOut_193 : decode cX9_carryOut 193 = .ok (.iconst 0, 1) := by decide +kernel
theorem dX9_carryOut_194 : decode cX9_carryOut 194 = .ok (.iaload, 1) := by decide +kernel
theorem dX9_carryOut_195 : decode cX9_carryOut 195 = .ok (.goto 10, 3) := by decide +kernel
theorem dX9_carryOut_198 : decode cX9_carryOut 198 = .ok (.aload_n 0, 1) := by decide +kernel
theorem dX9_carryOut_199 : decode cX9_carryOut 199 = .ok (.getfield 23, 3) := by decide +kernel
theorem dX9_carryOut_202 : decode cX9_carryOut 202 = .ok (.iconst 0, 1) := by decide +kernel
theorem dX9_carryOut_203 : decode cX9_carryOut 203 = .ok (.iaload, 1) := by decide +kernel
theorem dX9_carryOut_204 : decode cX9_carryOut 204 = .ok (.ineg, 1) := by decide +kernel
theorem dX9_carryOut_205 : decode cX9_carryOut 205 = .ok (.invokevirtual 113, 3) := by decide +kernel
theorem dX9_carryOut_208 : decode cX9_carryOut 208 = .ok (.ireturn, 1) := by decide +kernel
theorem dX9_carryOut_209 : decode cX9_carryOut 209 = .ok (.aload_n 0, 1) := by decide +kernel
theorem dX9_carryOut_210 : decode cX9_carryOut 210 = .ok (.bipush 8, 2) := by decide +kernel
theorem dX9_carryOut_212 : decode cX9_carryOut 212 = .ok (.sipush 192, 3) := by decide +kernel
theorem dX9_carryOut_215 : decode cX9_carryOut 215 = .ok (.invokevirtual 77, 3) := by decide +kernel
theorem dX9_carryOut_218 : decode cX9_carryOut 218 = .ok (.ireturn, 1) := by decide +kernel
theorem dX9_carryOut_219 : decode cX9_carryOut 219 = .ok (.aload_n 0, 1) := by decide +kernel
theorem dX9_carryOut_220 : decode cX9_carryOut 220 = .ok (.aload_n 0, 1) := by decide +kernel
theorem dX9_carryOut_221 : decode cX9_carryOut 221 = .ok (.getfield 23, 3) := by decide +kernel
theorem dX9_carryOut_224 : decode cX9_carryOut 224 = .ok (.iconst 0, 1) := by decide +kernel
theorem dX9_carryOut_225 : decode cX9_carryOut 225 = .ok (.iaload, 1) := by decide +kernel
theorem dX9_carryOut_226 : decode cX9_carryOut 226 = .ok (.aload_n 0, 1) := by decide +kernel
theorem dX9_carryOut_227 : decode cX9_carryOut 227 = .ok (.getfield 23, 3) := by decide +kernel
theorem dX9_carryOut_230 : decode cX9_carryOut 230 = .ok (.iconst 1, 1) := by decide +kernel
theorem dX9_carryOut_231 : decode cX9_carryOut 231 = .ok (.iaload, 1) := by decide +kernel
theorem dX9_carryOut_232 : decode cX9_carryOut 232 = .ok (.invokevirtual 77, 3) := by decide +kernel
theorem dX9_carryOut_235 : decode cX9_carryOut 235 = .ok (.ireturn, 1) := by decide +kernel
theorem dX9_carryOut_236 : decode cX9_carryOut 236 = .ok (.aload_n 0, 1) := by decide +kernel
theorem dX9_carryOut_237 : decode cX9_carryOut 237 = .ok (.aload_n 0, 1) := by decide +kernel
theorem dX9_carryOut_238 : decode cX9_carryOut 238 = .ok (.getfield 23, 3) := by decide +kernel
theorem dX9_carryOut_241 : decode cX9_carryOut 241 = .ok (.iconst 0, 1) := by decide +kernel
theorem dX9_carryOut_242 : decode cX9_carryOut 242 = .ok (.iaload, 1) := by decide +kernel
theorem dX9_carryOut_243 : decode cX9_carryOut 243 = .ok (.invokevirtual 191, 3) := by decide +kernel
theorem dX9_carryOut_246 : decode cX9_carryOut 246 = .ok (.ireturn, 1) := by decide +kernel
set_option maxRecDepth 20000 in
theorem ggX9_runCommands_X9_isText : GoodIn wsX9_runCommands wsX9_isText := goodIn_r _ [8, 2, 3, 9, 10, 11, 7, 12, 13, 14, 15, 16, 17, 18, 19, 20, 21, 22, 23, 24, 25, 26, 27, 28, 29, 30, 31, 32, 33, 34, 35, 36, 37, 38, 39, 40, 41, 42, 43, 44, 45, 46, 47, 48, 49, 50, 51, 52, 53, 54, 55, 56, 57, 211, 212, 213, 214, 215, 216, 217, 218, 219, 220, 221] (by decide +kernel) (by decide +kernel)
set_option maxRecDepth 20000 in
theorem gX9_runCommands_X9_isText : GoodIn wsX9_runCommands (wsV RX9 288 RX9 yX9_isText wsX9_isText) := goodIn_app (goodIn_of _ (by decide +kernel)) ggX9_runCommands_X9_isText
set_option maxRecDepth 20000 in
theorem ggX9_runCommands_X9_keep : GoodIn wsX9_runCommands wsX9_keep := goodIn_r _ [61, 62, 63, 64, 65, 66, 7, 67, 211, 212, 213, 214, 215, 216, 217, 218, 219, 220, 221] (by decide +kernel) (by decide +kernel)
set_option maxRecDepth 20000 in
theorem gX9_runCommands_X9_keep : GoodIn wsX9_runCommands (wsV RX9 68 RX9 yX9_keep wsX9_keep) := goodIn_app (goodIn_of _ (by decide +kernel)) ggX9_runCommands_X9_keep
set_option maxRecDepth 20000 in
theorem ggX9_runCommands_X9_skips : GoodIn wsX9_runCommands wsX9_skips := goodIn_r _ [12, 2, 13, 14, 15, 7, 16, 3, 17, 18, 211, 212, 213, 214, 215, 216, 217, 218, 219, 220, 221] (by decide +kernel) (by decide +kernel)
set_option maxRecDepth 20000 in
theorem gX9_runCommands_X9_skips : GoodIn wsX9_runCommands (wsV RX9 272 RX9 yX9_skips wsX9_skips) := goodIn_app (goodIn_of _ (by decide +kernel)) ggX9_runCommands_X9_skips
set_option maxRecDepth 20000 in
theorem ggX9_runCommands_X9_readCommand : GoodIn wsX9_runCommands wsX9_readCommand := goodIn_r _ [22, 2, 23, 24, 25, 7, 26, 27, 28, 29, 18, 30, 13, 14, 15, 16, 3, 17, 31, 32, 33, 34, 35, 36, 37, 38, 39, 40, 41, 42, 43, 44, 45, 46, 47, 48, 49, 50, 51, 52, 53, 54, 55, 56, 57, 9, 10, 11, 12, 211, 212, 213, 214, 215, 216, 217, 218, 219, 220, 221] (by decide +kernel) (by decide +kernel)
set_option maxRecDepth 20000 in
theorem gX9_runCommands_X9_readCommand : GoodIn wsX9_runCommands (wsV RX9 285 RX9 yX9_readCommand wsX9_readCommand) := goodIn_app (goodIn_of _ (by decide +kernel)) ggX9_runCommands_X9_readCommand
set_option maxRecDepth 20000 in
theorem ggX9_runCommands_X9_whyNot : GoodIn wsX9_runCommands wsX9_whyNot := goodIn_r _ [71, 30, 57, 72, 73, 74, 7, 75, 76, 77, 78, 31, 32, 33, 79, 80, 81, 82, 64, 83, 84, 85, 86, 87, 88, 89, 90, 91, 92, 93, 94, 95, 96, 97, 98, 99, 100, 101, 102, 103, 104, 105, 106, 107, 108, 109, 110, 111, 112, 113, 114, 115, 116, 117, 118, 119, 120, 121, 122, 123, 124, 125, 126, 127, 128, 211, 212, 213, 214, 215, 216, 217, 218, 219, 220, 221] (by decide +kernel) (by decide +kernel)
set_option maxRecDepth 20000 in
theorem gX9_runCommands_X9_whyNot : GoodIn wsX9_runCommands (wsV RX9 291 RX9 yX9_whyNot wsX9_whyNot) := goodIn_app (goodIn_of _ (by decide +kernel)) ggX9_runCommands_X9_whyNot
set_option maxRecDepth 20000 in
theorem ggX9_runCommands_X9_carryOut : GoodIn wsX9_runCommands wsX9_carryOut := goodIn_r _ [132, 30, 57, 133, 134, 135, 7, 136, 64, 79, 80, 81, 82, 137, 138, 139, 140, 141, 142, 143, 144, 145, 146, 147, 148, 149, 150, 151, 152, 153, 154, 155, 156, 157, 158, 159, 160, 161, 162, 163, 29, 164, 165, 166, 167, 168, 169, 170, 171, 172, 173, 174, 175, 176, 177, 178, 179, 180, 181, 182, 183, 184, 185, 186, 187, 188, 189, 190, 191, 192, 193, 194, 195, 196, 197, 198, 199, 200, 201, 202, 203, 204, 205, 206, 207, 208, 209, 210, 211, 212, 213, 214, 215, 216, 217, 218, 219, 220, 221] (by decide +kernel) (by decide +kernel)
set_option maxRecDepth 20000 in
theorem gX9_runCommands_X9_carryOut : GoodIn wsX9_runCommands (wsV RX9 294 RX9 yX9_carryOut wsX9_carryOut) := goodIn_app (goodIn_of _ (by decide +kernel)) ggX9_runCommands_X9_carryOut
theorem dX9_runCommands_0 : decode cX9_runCommands 0 = .ok (.aload_n 0, 1) := by decide +kernel
theorem dX9_runCommands_1 : decode cX9_runCommands 1 = .ok (.iconst 0, 1) := by decide +kernel
theorem dX9_runCommands_2 : decode cX9_runCommands 2 = .ok (.putfield 42, 3) := by decide +kernel
theorem dX9_runCommands_5 : decode cX9_runCommands 5 = .ok (.aload_n 0, 1) := by decide +kernel
theorem dX9_runCommands_6 : decode cX9_runCommands 6 = .ok (.invokevirtual 288, 3) := by decide +kernel
theorem dX9_runCommands_9 : decode cX9_runCommands 9 = .ok (.ifCond .ne 11, 3) := by decide +kernel
theorem dX9_runCommands_12 : decode cX9_runCommands 12 = .ok (.bipush (-10), 2) := by decide +kernel
theorem dX9_runCommands_14 : decode cX9_runCommands 14 = .ok (.aload_n 0, 1) := by decide +kernel
theorem dX9_runCommands_15 : decode cX9_runCommands 15 = .ok (.getfield 230, 3) := by decide +kernel
theorem dX9_runCommands_18 : decode cX9_runCommands 18 = .ok (.isub, 1) := by decide +kernel
theorem dX9_runCommands_19 : decode cX9_runCommands 19 = .ok (.ireturn, 1) := by decide +kernel
theorem dX9_runCommands_20 : decode cX9_runCommands 20 = .ok (.aload_n 0, 1) := by decide +kernel
theorem dX9_runCommands_21 : decode cX9_runCommands 21 = .ok (.invokevirtual 68, 3) := by decide +kernel
theorem dX9_runCommands_24 : decode cX9_runCommands 24 = .ok (.aload_n 0, 1) := by decide +kernel
theorem dX9_runCommands_25 : decode cX9_runCommands 25 = .ok (.iconst 0, 1) := by decide +kernel
theorem dX9_runCommands_26 : decode cX9_runCommands 26 = .ok (.putfield 230, 3) := by decide +kernel
theorem dX9_runCommands_29 : decode cX9_runCommands 29 = .ok (.iconst 0, 1) := by decide +kernel
theorem dX9_runCommands_30 : decode cX9_runCommands 30 = .ok (.istore_n 1, 1) := by decide +kernel
theorem dX9_runCommands_31 : decode cX9_runCommands 31 = .ok (.iconst 1, 1) := by decide +kernel
theorem dX9_runCommands_32 : decode cX9_runCommands 32 = .ok (.istore_n 2, 1) := by decide +kernel
theorem dX9_runCommands_33 : decode cX9_runCommands 33 = .ok (.aload_n 0, 1) := by decide +kernel
theorem dX9_runCommands_34 : decode cX9_runCommands 34 = .ok (.invokevirtual 272, 3) := by decide +kernel
theorem dX9_runCommands_37 : decode cX9_runCommands 37 = .ok (.istore_n 3, 1) := by decide +kernel
theorem dX9_runCommands_38 : decode cX9_runCommands 38 = .ok (.iload_n 2, 1) := by decide +kernel
theorem dX9_runCommands_39 : decode cX9_runCommands 39 = .ok (.ifCond .eq 55, 3) := by decide +kernel
theorem dX9_runCommands_42 : decode cX9_runCommands 42 = .ok (.aload_n 0, 1) := by decide +kernel
theorem dX9_runCommands_43 : decode cX9_runCommands 43 = .ok (.getfield 230, 3) := by decide +kernel
theorem dX9_runCommands_46 : decode cX9_runCommands 46 = .ok (.aload_n 0, 1) := by decide +kernel
theorem dX9_runCommands_47 : decode cX9_runCommands 47 = .ok (.getfield 197, 3) := by decide +kernel
theorem dX9_runCommands_50 : decode cX9_runCommands 50 = .ok (.if_icmp .ge 44, 3) := by decide +kernel
theorem dX9_runCommands_53 : decode cX9_runCommands 53 = .ok (.aload_n 0, 1) := by decide +kernel
theorem dX9_runCommands_54 : decode cX9_runCommands 54 = .ok (.invokevirtual 285, 3) := by decide +kernel
theorem dX9_runCommands_57 : decode cX9_runCommands 57 = .ok (.ifCond .eq 37, 3) := by decide +kernel
theorem dX9_runCommands_60 : decode cX9_runCommands 60 = .ok (.aload_n 0, 1) := by decide +kernel
theorem dX9_runCommands_61 : decode cX9_runCommands 61 = .ok (.invokevirtual 291, 3) := by decide +kernel
theorem dX9_runCommands_64 : decode cX9_runCommands 64 = .ok (.ifCond .ne 7, 3) := by decide +kernel
theorem dX9_runCommands_67 : decode cX9_runCommands 67 = .ok (.iconst 1, 1) := by decide +kernel
theorem dX9_runCommands_68 : decode cX9_runCommands 68 = .ok (.goto 4, 3) := by decide +kernel
theorem dX9_runCommands_71 : decode cX9_runCommands 71 = .ok (.iconst 0, 1) := by decide +kernel
theorem dX9_runCommands_72 : decode cX9_runCommands 72 = .ok (.istore_n 2, 1) := by decide +kernel
theorem dX9_runCommands_73 : decode cX9_runCommands 73 = .ok (.iload_n 2, 1) := by decide +kernel
theorem dX9_runCommands_74 : decode cX9_runCommands 74 = .ok (.ifCond .eq 12, 3) := by decide +kernel
theorem dX9_runCommands_77 : decode cX9_runCommands 77 = .ok (.aload_n 0, 1) := by decide +kernel
theorem dX9_runCommands_78 : decode cX9_runCommands 78 = .ok (.invokevirtual 294, 3) := by decide +kernel
theorem dX9_runCommands_81 : decode cX9_runCommands 81 = .ok (.istore 4, 2) := by decide +kernel
theorem dX9_runCommands_83 : decode cX9_runCommands 83 = .ok (.iinc 1 1, 3) := by decide +kernel
theorem dX9_runCommands_86 : decode cX9_runCommands 86 = .ok (.aload_n 0, 1) := by decide +kernel
theorem dX9_runCommands_87 : decode cX9_runCommands 87 = .ok (.invokevirtual 272, 3) := by decide +kernel
theorem dX9_runCommands_90 : decode cX9_runCommands 90 = .ok (.istore_n 3, 1) := by decide +kernel
theorem dX9_runCommands_91 : decode cX9_runCommands 91 = .ok (.goto (-53), 3) := by decide +kernel
theorem dX9_runCommands_94 : decode cX9_runCommands 94 = .ok (.iload_n 1, 1) := by decide +kernel
theorem dX9_runCommands_95 : decode cX9_runCommands 95 = .ok (.ireturn, 1) := by decide +kernel
set_option maxRecDepth 20000 in
theorem ggX9_undo_X9_bring : GoodIn wsX9_undo wsX9_bring := goodIn_r _ [8] (by decide +kernel) (by decide +kernel)
set_option maxRecDepth 20000 in
theorem gX9_undo_X9_bring : GoodIn wsX9_undo (va_wsS RX9 49 yX9_bring wsX9_bring) := goodIn_app (goodIn_of _ (by decide +kernel)) ggX9_undo_X9_bring
theorem dX9_undo_0 : decode cX9_undo 0 = .ok (.aload_n 0, 1) := by decide +kernel
theorem dX9_undo_1 : decode cX9_undo 1 = .ok (.aload_n 0, 1) := by decide +kernel
theorem dX9_undo_2 : decode cX9_undo 2 = .ok (.getfield 46, 3) := by decide +kernel
theorem dX9_undo_5 : decode cX9_undo 5 = .ok (.ifCond .ne 7, 3) := by decide +kernel
theorem dX9_undo_8 : decode cX9_undo 8 = .ok (.iconst 1, 1) := by decide +kernel
theorem dX9_undo_9 : decode cX9_undo 9 = .ok (.goto 4, 3) := by decide +kernel
theorem dX9_undo_12 : decode cX9_undo 12 = .ok (.iconst 0, 1) := by decide +kernel
theorem dX9_undo_13 : decode cX9_undo 13 = .ok (.putfield 42, 3) := by decide +kernel
theorem dX9_undo_16 : decode cX9_undo 16 = .ok (.aload_n 0, 1) := by decide +kernel
theorem dX9_undo_17 : decode cX9_undo 17 = .ok (.getfield 42, 3) := by decide +kernel
theorem dX9_undo_20 : decode cX9_undo 20 = .ok (.ifCond .eq 5, 3) := by decide +kernel
theorem dX9_undo_23 : decode cX9_undo 23 = .ok (.iconst 0, 1) := by decide +kernel
theorem dX9_undo_24 : decode cX9_undo 24 = .ok (.ireturn, 1) := by decide +kernel
theorem dX9_undo_25 : decode cX9_undo 25 = .ok (.aload_n 0, 1) := by decide +kernel
theorem dX9_undo_26 : decode cX9_undo 26 = .ok (.dup, 1) := by decide +kernel
theorem dX9_undo_27 : decode cX9_undo 27 = .ok (.getfield 46, 3) := by decide +kernel
theorem dX9_undo_30 : decode cX9_undo 30 = .ok (.iconst 1, 1) := by decide +kernel
theorem dX9_undo_31 : decode cX9_undo 31 = .ok (.isub, 1) := by decide +kernel
theorem dX9_undo_32 : decode cX9_undo 32 = .ok (.putfield 46, 3) := by decide +kernel
theorem dX9_undo_35 : decode cX9_undo 35 = .ok (.aload_n 0, 1) := by decide +kernel
theorem dX9_undo_36 : decode cX9_undo 36 = .ok (.getfield 16, 3) := by decide +kernel
theorem dX9_undo_39 : decode cX9_undo 39 = .ok (.bipush 94, 2) := by decide +kernel
theorem dX9_undo_41 : decode cX9_undo 41 = .ok (.aload_n 0, 1) := by decide +kernel
theorem dX9_undo_42 : decode cX9_undo 42 = .ok (.getfield 46, 3) := by decide +kernel
theorem dX9_undo_45 : decode cX9_undo 45 = .ok (.imul, 1) := by decide +kernel
theorem dX9_undo_46 : decode cX9_undo 46 = .ok (.aload_n 0, 1) := by decide +kernel
theorem dX9_undo_47 : decode cX9_undo 47 = .ok (.getfield 7, 3) := by decide +kernel
theorem dX9_undo_50 : decode cX9_undo 50 = .ok (.iconst 0, 1) := by decide +kernel
theorem dX9_undo_51 : decode cX9_undo 51 = .ok (.invokestatic 49, 3) := by decide +kernel
theorem dX9_undo_54 : decode cX9_undo 54 = .ok (.aload_n 0, 1) := by decide +kernel
theorem dX9_undo_55 : decode cX9_undo 55 = .ok (.getfield 46, 3) := by decide +kernel
theorem dX9_undo_58 : decode cX9_undo 58 = .ok (.ireturn, 1) := by decide +kernel
theorem dX9_mix_0 : decode cX9_mix 0 = .ok (.aload_n 0, 1) := by decide +kernel
theorem dX9_mix_1 : decode cX9_mix 1 = .ok (.ldc2_w 297, 3) := by decide +kernel
theorem dX9_mix_4 : decode cX9_mix 4 = .ok (.aload_n 0, 1) := by decide +kernel
theorem dX9_mix_5 : decode cX9_mix 5 = .ok (.getfield 299, 3) := by decide +kernel
theorem dX9_mix_8 : decode cX9_mix 8 = .ok (.lmul, 1) := by decide +kernel
theorem dX9_mix_9 : decode cX9_mix 9 = .ok (.lload_n 1, 1) := by decide +kernel
theorem dX9_mix_10 : decode cX9_mix 10 = .ok (.ladd, 1) := by decide +kernel
theorem dX9_mix_11 : decode cX9_mix 11 = .ok (.putfield 299, 3) := by decide +kernel
theorem dX9_mix_14 : decode cX9_mix 14 = .ok (.return_, 1) := by decide +kernel
set_option maxRecDepth 20000 in
theorem ggX9_mixThings_X9_of : GoodIn wsX9_mixThings wsX9_of := goodIn_r _ [6, 1, 26, 27, 28, 29, 30, 31, 32, 33, 34, 35, 36] (by decide +kernel) (by decide +kernel)
set_option maxRecDepth 20000 in
theorem gX9_mixThings_X9_of : GoodIn wsX9_mixThings (wsV RX9 53 RX9 yX9_of wsX9_of) := goodIn_app (goodIn_of _ (by decide +kernel)) ggX9_mixThings_X9_of
set_option maxRecDepth 20000 in
theorem ggX9_mixThings_X9_mix : GoodIn wsX9_mixThings wsX9_mix := goodIn_r _ [10, 11, 12, 26, 27, 28, 29, 30, 31, 32, 33, 34, 35, 36] (by decide +kernel) (by decide +kernel)
set_option maxRecDepth 20000 in
theorem gX9_mixThings_X9_mix : GoodIn wsX9_mixThings (wsV RX9 303 RX9 yX9_mix wsX9_mix) := goodIn_app (goodIn_of _ (by decide +kernel)) ggX9_mixThings_X9_mix
set_option maxRecDepth 20000 in
theorem ggX9_mixThings_X9_rodOf : GoodIn wsX9_mixThings wsX9_rodOf := goodIn_r _ [16, 1, 17, 18, 19, 5, 20, 21, 22, 2, 3, 4, 6, 23, 24, 25, 26, 27, 28, 29, 30, 31, 32, 33, 34, 35, 36] (by decide +kernel) (by decide +kernel)
set_option maxRecDepth 20000 in
theorem gX9_mixThings_X9_rodOf : GoodIn wsX9_mixThings (wsV RX9 194 RX9 yX9_rodOf wsX9_rodOf) := goodIn_app (goodIn_of _ (by decide +kernel)) ggX9_mixThings_X9_rodOf
theorem dX9_mixThings_0 : decode cX9_mixThings 0 = .ok (.iconst 0, 1) := by decide +kernel
theorem dX9_mixThings_1 : decode cX9_mixThings 1 = .ok (.istore_n 1, 1) := by decide +kernel
theorem dX9_mixThings_2 : decode cX9_mixThings 2 = .ok (.iload_n 1, 1) := by decide +kernel
theorem dX9_mixThings_3 : decode cX9_mixThings 3 = .ok (.aload_n 0, 1) := by decide +kernel
theorem dX9_mixThings_4 : decode cX9_mixThings 4 = .ok (.iconst 3, 1) := by decide +kernel
theorem dX9_mixThings_5 : decode cX9_mixThings 5 = .ok (.invokevirtual 53, 3) := by decide +kernel
theorem dX9_mixThings_8 : decode cX9_mixThings 8 = .ok (.if_icmp .ge 22, 3) := by decide +kernel
theorem dX9_mixThings_11 : decode cX9_mixThings 11 = .ok (.aload_n 0, 1) := by decide +kernel
theorem dX9_mixThings_12 : decode cX9_mixThings 12 = .ok (.aload_n 0, 1) := by decide +kernel
theorem dX9_mixThings_13 : decode cX9_mixThings 13 = .ok (.getfield 7, 3) := by decide +kernel
theorem dX9_mixThings_16 : decode cX9_mixThings 16 = .ok (.bipush 16, 2) := by decide +kernel
theorem dX9_mixThings_18 : decode cX9_mixThings 18 = .ok (.iload_n 1, 1) := by decide +kernel
theorem dX9_mixThings_19 : decode cX9_mixThings 19 = .ok (.iadd, 1) := by decide +kernel
theorem dX9_mixThings_20 : decode cX9_mixThings 20 = .ok (.laload, 1) := by decide +kernel
theorem dX9_mixThings_21 : decode cX9_mixThings 21 = .ok (.invokevirtual 303, 3) := by decide +kernel
theorem dX9_mixThings_24 : decode cX9_mixThings 24 = .ok (.iinc 1 1, 3) := by decide +kernel
theorem dX9_mixThings_27 : decode cX9_mixThings 27 = .ok (.goto (-25), 3) := by decide +kernel
theorem dX9_mixThings_30 : decode cX9_mixThings 30 = .ok (.iconst 0, 1) := by decide +kernel
theorem dX9_mixThings_31 : decode cX9_mixThings 31 = .ok (.istore_n 1, 1) := by decide +kernel
theorem dX9_mixThings_32 : decode cX9_mixThings 32 = .ok (.iload_n 1, 1) := by decide +kernel
theorem dX9_mixThings_33 : decode cX9_mixThings 33 = .ok (.iconst 5, 1) := by decide +kernel
theorem dX9_mixThings_34 : decode cX9_mixThings 34 = .ok (.if_icmp .ge 22, 3) := by decide +kernel
theorem dX9_mixThings_37 : decode cX9_mixThings 37 = .ok (.aload_n 0, 1) := by decide +kernel
theorem dX9_mixThings_38 : decode cX9_mixThings 38 = .ok (.aload_n 0, 1) := by decide +kernel
theorem dX9_mixThings_39 : decode cX9_mixThings 39 = .ok (.getfield 7, 3) := by decide +kernel
theorem dX9_mixThings_42 : decode cX9_mixThings 42 = .ok (.bipush 49, 2) := by decide +kernel
theorem dX9_mixThings_44 : decode cX9_mixThings 44 = .ok (.iload_n 1, 1) := by decide +kernel
theorem dX9_mixThings_45 : decode cX9_mixThings 45 = .ok (.iadd, 1) := by decide +kernel
theorem dX9_mixThings_46 : decode cX9_mixThings 46 = .ok (.laload, 1) := by decide +kernel
theorem dX9_mixThings_47 : decode cX9_mixThings 47 = .ok (.invokevirtual 303, 3) := by decide +kernel
theorem dX9_mixThings_50 : decode cX9_mixThings 50 = .ok (.iinc 1 1, 3) := by decide +kernel
theorem dX9_mixThings_53 : decode cX9_mixThings 53 = .ok (.goto (-21), 3) := by decide +kernel
theorem dX9_mixThings_56 : decode cX9_mixThings 56 = .ok (.iconst 0, 1) := by decide +kernel
theorem dX9_mixThings_57 : decode cX9_mixThings 57 = .ok (.istore_n 1, 1) := by decide +kernel
theorem dX9_mixThings_58 : decode cX9_mixThings 58 = .ok (.iload_n 1, 1) := by decide +kernel
theorem dX9_mixThings_59 : decode cX9_mixThings 59 = .ok (.iconst 5, 1) := by decide +kernel
theorem dX9_mixThings_60 : decode cX9_mixThings 60 = .ok (.aload_n 0, 1) := by decide +kernel
theorem dX9_mixThings_61 : decode cX9_mixThings 61 = .ok (.iconst 4, 1) := by decide +kernel
theorem dX9_mixThings_62 : decode cX9_mixThings 62 = .ok (.invokevirtual 53, 3) := by decide +kernel
theorem dX9_mixThings_65 : decode cX9_mixThings 65 = .ok (.imul, 1) := by decide +kernel
theorem dX9_mixThings_66 : decode cX9_mixThings 66 = .ok (.if_icmp .ge 24, 3) := by decide +kernel
theorem dX9_mixThings_69 : decode cX9_mixThings 69 = .ok (.aload_n 0, 1) := by decide +kernel
theorem dX9_mixThings_70 : decode cX9_mixThings 70 = .ok (.aload_n 0, 1) := by decide +kernel
theorem dX9_mixThings_71 : decode cX9_mixThings 71 = .ok (.iload_n 1, 1) := by decide +kernel
theorem dX9_mixThings_72 : decode cX9_mixThings 72 = .ok (.iconst 5, 1) := by decide +kernel
theorem dX9_mixThings_73 : decode cX9_mixThings 73 = .ok (.idiv, 1) := by decide +kernel
theorem dX9_mixThings_74 : decode cX9_mixThings 74 = .ok (.iload_n 1, 1) := by decide +kernel
theorem dX9_mixThings_75 : decode cX9_mixThings 75 = .ok (.iconst 5, 1) := by decide +kernel
theorem dX9_mixThings_76 : decode cX9_mixThings 76 = .ok (.irem, 1) := by decide +kernel
theorem dX9_mixThings_77 : decode cX9_mixThings 77 = .ok (.invokevirtual 194, 3) := by decide +kernel
theorem dX9_mixThings_80 : decode cX9_mixThings 80 = .ok (.i2l, 1) := by decide +kernel
theorem dX9_mixThings_81 : decode cX9_mixThings 81 = .ok (.invokevirtual 303, 3) := by decide +kernel
theorem dX9_mixThings_84 : decode cX9_mixThings 84 = .ok (.iinc 1 1, 3) := by decide +kernel
theorem dX9_mixThings_87 : decode cX9_mixThings 87 = .ok (.goto (-29), 3) := by decide +kernel
theorem dX9_mixThings_90 : decode cX9_mixThings 90 = .ok (.iconst 0, 1) := by decide +kernel
theorem dX9_mixThings_91 : decode cX9_mixThings 91 = .ok (.istore_n 1, 1) := by decide +kernel
theorem dX9_mixThings_92 : decode cX9_mixThings 92 = .ok (.iload_n 1, 1) := by decide +kernel
theorem dX9_mixThings_93 : decode cX9_mixThings 93 = .ok (.iconst 4, 1) := by decide +kernel
theorem dX9_mixThings_94 : decode cX9_mixThings 94 = .ok (.aload_n 0, 1) := by decide +kernel
theorem dX9_mixThings_95 : decode cX9_mixThings 95 = .ok (.bipush 15, 2) := by decide +kernel
theorem dX9_mixThings_97 : decode cX9_mixThings 97 = .ok (.invokevirtual 53, 3) := by decide +kernel
theorem dX9_mixThings_100 : decode cX9_mixThings 100 = .ok (.imul, 1) := by decide +kernel
theorem dX9_mixThings_101 : decode cX9_mixThings 101 = .ok (.if_icmp .ge 22, 3) := by decide +kernel
theorem dX9_mixThings_104 : decode cX9_mixThings 104 = .ok (.aload_n 0, 1) := by decide +kernel
theorem dX9_mixThings_105 : decode cX9_mixThings 105 = .ok (.aload_n 0, 1) := by decide +kernel
theorem dX9_mixThings_106 : decode cX9_mixThings 106 = .ok (.getfield 7, 3) := by decide +kernel
theorem dX9_mixThings_109 : decode cX9_mixThings 109 = .ok (.bipush 54, 2) := by decide +kernel
theorem dX9_mixThings_111 : decode cX9_mixThings 111 = .ok (.iload_n 1, 1) := by decide +kernel
theorem dX9_mixThings_112 : decode cX9_mixThings 112 = .ok (.iadd, 1) := by decide +kernel
theorem dX9_mixThings_113 : decode cX9_mixThings 113 = .ok (.laload, 1) := by decide +kernel
theorem dX9_mixThings_114 : decode cX9_mixThings 114 = .ok (.invokevirtual 303, 3) := by decide +kernel
theorem dX9_mixThings_117 : decode cX9_mixThings 117 = .ok (.iinc 1 1, 3) := by decide +kernel
theorem dX9_mixThings_120 : decode cX9_mixThings 120 = .ok (.goto (-28), 3) := by decide +kernel
theorem dX9_mixThings_123 : decode cX9_mixThings 123 = .ok (.return_, 1) := by decide +kernel
set_option maxRecDepth 20000 in
theorem ggX9_digest_X9_mix : GoodIn wsX9_digest wsX9_mix := goodIn_r _ [10, 11, 3, 103, 104, 105, 106, 107, 108, 109, 110, 111, 112, 113] (by decide +kernel) (by decide +kernel)
set_option maxRecDepth 20000 in
theorem gX9_digest_X9_mix : GoodIn wsX9_digest (wsV RX9 303 RX9 yX9_mix wsX9_mix) := goodIn_app (goodIn_of _ (by decide +kernel)) ggX9_digest_X9_mix
set_option maxRecDepth 20000 in
theorem ggX9_digest_X9_wholeOf : GoodIn wsX9_digest wsX9_wholeOf := goodIn_r _ [15, 5, 16, 17, 18, 19, 9, 20, 21, 22, 23, 24, 25, 26, 27, 28, 29, 30, 31, 32, 33, 34, 35, 36, 37, 38, 39, 40, 41, 42, 43, 44, 45, 46, 47, 48, 49, 50, 51, 52, 53, 54, 55, 56, 57, 58, 59, 60, 61, 62, 63, 103, 104, 105, 106, 107, 108, 109, 110, 111, 112, 113] (by decide +kernel) (by decide +kernel)
set_option maxRecDepth 20000 in
theorem gX9_digest_X9_wholeOf : GoodIn wsX9_digest (wsV RX9 200 RX9 yX9_wholeOf wsX9_wholeOf) := goodIn_app (goodIn_of _ (by decide +kernel)) ggX9_digest_X9_wholeOf
set_option maxRecDepth 20000 in
theorem ggX9_digest_X9_balanceNow : GoodIn wsX9_digest wsX9_balanceNow := goodIn_r _ [67, 37, 38, 39, 9, 40, 5, 68, 69, 70, 71, 103, 104, 105, 106, 107, 108, 109, 110, 111, 112, 113] (by decide +kernel) (by decide +kernel)
set_option maxRecDepth 20000 in
theorem gX9_digest_X9_balanceNow : GoodIn wsX9_digest (wsV RX9 207 RX9 yX9_balanceNow wsX9_balanceNow) := goodIn_app (goodIn_of _ (by decide +kernel)) ggX9_digest_X9_balanceNow
set_option maxRecDepth 20000 in
theorem ggX9_digest_X9_bitsNow : GoodIn wsX9_digest wsX9_bitsNow := goodIn_r _ [75, 5, 37, 38, 39, 9, 40, 64, 65, 66, 67, 68, 69, 70, 71, 76, 77, 78, 79, 80, 81, 82, 83, 84, 85, 86, 87, 103, 104, 105, 106, 107, 108, 109, 110, 111, 112, 113] (by decide +kernel) (by decide +kernel)
set_option maxRecDepth 20000 in
theorem gX9_digest_X9_bitsNow : GoodIn wsX9_digest (wsV RX9 216 RX9 yX9_bitsNow wsX9_bitsNow) := goodIn_app (goodIn_of _ (by decide +kernel)) ggX9_digest_X9_bitsNow
set_option maxRecDepth 20000 in
theorem ggX9_digest_X9_mixThings : GoodIn wsX9_digest wsX9_mixThings := goodIn_r _ [91, 5, 37, 38, 39, 9, 40, 6, 7, 8, 10, 11, 3, 92, 93, 94, 95, 41, 42, 43, 44, 45, 46, 47, 48, 49, 103, 104, 105, 106, 107, 108, 109, 110, 111, 112, 113] (by decide +kernel) (by decide +kernel)
set_option maxRecDepth 20000 in
theorem gX9_digest_X9_mixThings : GoodIn wsX9_digest (wsV RX9 309 RX9 yX9_mixThings wsX9_mixThings) := goodIn_app (goodIn_of _ (by decide +kernel)) ggX9_digest_X9_mixThings
set_option maxRecDepth 20000 in
theorem ggX9_digest_X9_bestNutNow : GoodIn wsX9_digest wsX9_bestNutNow := goodIn_r _ [99, 5, 32, 33, 34, 35, 9, 36, 37, 38, 39, 40, 41, 42, 43, 44, 45, 46, 47, 48, 49, 54, 55, 56, 57, 58, 59, 60, 61, 62, 63, 22, 23, 24, 25, 26, 27, 17, 18, 19, 20, 21, 100, 101, 102, 103, 104, 105, 106, 107, 108, 109, 110, 111, 112, 113] (by decide +kernel) (by decide +kernel)
set_option maxRecDepth 20000 in
theorem gX9_digest_X9_bestNutNow : GoodIn wsX9_digest (wsV RX9 227 RX9 yX9_bestNutNow wsX9_bestNutNow) := goodIn_app (goodIn_of _ (by decide +kernel)) ggX9_digest_X9_bestNutNow
theorem dX9_digest_0 : decode cX9_digest 0 = .ok (.aload_n 0, 1) := by decide +kernel
theorem dX9_digest_1 : decode cX9_digest 1 = .ok (.iconst 0, 1) := by decide +kernel
theorem dX9_digest_2 : decode cX9_digest 2 = .ok (.putfield 42, 3) := by decide +kernel
theorem dX9_digest_5 : decode cX9_digest 5 = .ok (.aload_n 0, 1) := by decide +kernel
theorem dX9_digest_6 : decode cX9_digest 6 = .ok (.ldc2_w 307, 3) := by decide +kernel
theorem dX9_digest_9 : decode cX9_digest 9 = .ok (.putfield 299, 3) := by decide +kernel
theorem dX9_digest_12 : decode cX9_digest 12 = .ok (.aload_n 0, 1) := by decide +kernel
theorem dX9_digest_13 : decode cX9_digest 13 = .ok (.aload_n 0, 1) := by decide +kernel
theorem dX9_digest_14 : decode cX9_digest 14 = .ok (.getfield 46, 3) := by decide +kernel
theorem dX9_digest_17 : decode cX9_digest 17 = .ok (.i2l, 1) := by decide +kernel
theorem dX9_digest_18 : decode cX9_digest 18 = .ok (.invokevirtual 303, 3) := by decide +kernel
theorem dX9_digest_21 : decode cX9_digest 21 = .ok (.iconst 0, 1) := by decide +kernel
theorem dX9_digest_22 : decode cX9_digest 22 = .ok (.istore_n 1, 1) := by decide +kernel
theorem dX9_digest_23 : decode cX9_digest 23 = .ok (.iload_n 1, 1) := by decide +kernel
theorem dX9_digest_24 : decode cX9_digest 24 = .ok (.bipush 18, 2) := by decide +kernel
theorem dX9_digest_26 : decode cX9_digest 26 = .ok (.if_icmp .ge 19, 3) := by decide +kernel
theorem dX9_digest_29 : decode cX9_digest 29 = .ok (.aload_n 0, 1) := by decide +kernel
theorem dX9_digest_30 : decode cX9_digest 30 = .ok (.aload_n 0, 1) := by decide +kernel
theorem dX9_digest_31 : decode cX9_digest 31 = .ok (.iload_n 1, 1) := by decide +kernel
theorem dX9_digest_32 : decode cX9_digest 32 = .ok (.invokevirtual 200, 3) := by decide +kernel
theorem dX9_digest_35 : decode cX9_digest 35 = .ok (.i2l, 1) := by decide +kernel
theorem dX9_digest_36 : decode cX9_digest 36 = .ok (.invokevirtual 303, 3) := by decide +kernel
theorem dX9_digest_39 : decode cX9_digest 39 = .ok (.iinc 1 1, 3) := by decide +kernel
theorem dX9_digest_42 : decode cX9_digest 42 = .ok (.goto (-19), 3) := by decide +kernel
theorem dX9_digest_45 : decode cX9_digest 45 = .ok (.aload_n 0, 1) := by decide +kernel
theorem dX9_digest_46 : decode cX9_digest 46 = .ok (.aload_n 0, 1) := by decide +kernel
theorem dX9_digest_47 : decode cX9_digest 47 = .ok (.invokevirtual 207, 3) := by decide +kernel
theorem dX9_digest_50 : decode cX9_digest 50 = .ok (.invokevirtual 303, 3) := by decide +kernel
theorem dX9_digest_53 : decode cX9_digest 53 = .ok (.aload_n 0, 1) := by decide +kernel
theorem dX9_digest_54 : decode cX9_digest 54 = .ok (.aload_n 0, 1) := by decide +kernel
theorem dX9_digest_55 : decode cX9_digest 55 = .ok (.getfield 7, 3) := by decide +kernel
theorem dX9_digest_58 : decode cX9_digest 58 = .ok (.bipush 12, 2) := by decide +kernel
theorem dX9_digest_60 : decode cX9_digest 60 = .ok (.laload, 1) := by decide +kernel
theorem dX9_digest_61 : decode cX9_digest 61 = .ok (.invokevirtual 303, 3) := by decide +kernel
theorem dX9_digest_64 : decode cX9_digest 64 = .ok (.aload_n 0, 1) := by decide +kernel
theorem dX9_digest_65 : decode cX9_digest 65 = .ok (.aload_n 0, 1) := by decide +kernel
theorem dX9_digest_66 : decode cX9_digest 66 = .ok (.invokevirtual 216, 3) := by decide +kernel
theorem dX9_digest_69 : decode cX9_digest 69 = .ok (.i2l, 1) := by decide +kernel
theorem dX9_digest_70 : decode cX9_digest 70 = .ok (.invokevirtual 303, 3) := by decide +kernel
theorem dX9_digest_73 : decode cX9_digest 73 = .ok (.aload_n 0, 1) := by decide +kernel
theorem dX9_digest_74 : decode cX9_digest 74 = .ok (.invokevirtual 309, 3) := by decide +kernel
theorem dX9_digest_77 : decode cX9_digest 77 = .ok (.aload_n 0, 1) := by decide +kernel
theorem dX9_digest_78 : decode cX9_digest 78 = .ok (.aload_n 0, 1) := by decide +kernel
theorem dX9_digest_79 : decode cX9_digest 79 = .ok (.invokevirtual 227, 3) := by decide +kernel
theorem dX9_digest_82 : decode cX9_digest 82 = .ok (.i2l, 1) := by decide +kernel
theorem dX9_digest_83 : decode cX9_digest 83 = .ok (.invokevirtual 303, 3) := by decide +kernel
theorem dX9_digest_86 : decode cX9_digest 86 = .ok (.aload_n 0, 1) := by decide +kernel
theorem dX9_digest_87 : decode cX9_digest 87 = .ok (.getfield 299, 3) := by decide +kernel
theorem dX9_digest_90 : decode cX9_digest 90 = .ok (.lreturn, 1) := by decide +kernel
theorem dJx29ce0_ordinal_8abf5_0 : decode cJx29ce0_ordinal_8abf5 0 = .ok (.aload_n 0, 1) := by decide +kernel
theorem dJx29ce0_ordinal_8abf5_1 : decode cJx29ce0_ordinal_8abf5 1 = .ok (.getfield 7, 3) := by decide +kernel
theorem dJx29ce0_ordinal_8abf5_4 : decode cJx29ce0_ordinal_8abf5 4 = .ok (.ireturn, 1) := by decide +kernel
theorem dJxf58ca_isNaN_12338_0 : decode cJxf58ca_isNaN_12338 0 = .ok (.fload_n 0, 1) := by decide +kernel
theorem dJxf58ca_isNaN_12338_1 : decode cJxf58ca_isNaN_12338 1 = .ok (.fload_n 0, 1) := by decide +kernel
theorem dJxf58ca_isNaN_12338_2 : decode cJxf58ca_isNaN_12338 2 = .ok (.fcmp .l, 1) := by decide +kernel
theorem dJxf58ca_isNaN_12338_3 : decode cJxf58ca_isNaN_12338 3 = .ok (.ifCond .eq 7, 3) := by decide +kernel
theorem dJxf58ca_isNaN_12338_6 : decode cJxf58ca_isNaN_12338 6 = .ok (.iconst 1, 1) := by decide +kernel
theorem dJxf58ca_isNaN_12338_7 : decode cJxf58ca_isNaN_12338 7 = .ok (.goto 4, 3) := by decide +kernel
theorem dJxf58ca_isNaN_12338_10 : decode cJxf58ca_isNaN_12338 10 = .ok (.iconst 0, 1) := by decide +kernel
theorem dJxf58ca_isNaN_12338_11 : decode cJxf58ca_isNaN_12338 11 = .ok (.ireturn, 1) := by decide +kernel
set_option maxRecDepth 20000 in
theorem ggJxf58ca_floatToIntBits_5c35a_Jxf58ca_isNaN_12338 : GoodIn wsJxf58ca_floatToIntBits_5c35a wsJxf58ca_isNaN_12338 := goodIn_r _ [9] (by decide +kernel) (by decide +kernel)
set_option maxRecDepth 20000 in
theorem gJxf58ca_floatToIntBits_5c35a_Jxf58ca_isNaN_12338 : GoodIn wsJxf58ca_floatToIntBits_5c35a (va_wsS RJxf58ca 59 yJxf58ca_isNaN_12338 wsJxf58ca_isNaN_12338) := goodIn_app (goodIn_of _ (by decide +kernel)) ggJxf58ca_floatToIntBits_5c35a_Jxf58ca_isNaN_12338
theorem dJxf58ca_floatToIntBits_5c35a_0 : decode cJxf58ca_floatToIntBits_5c35a 0 = .ok (.fload_n 0, 1) := by decide +kernel
theorem dJxf58ca_floatToIntBits_5c35a_1 : decode cJxf58ca_floatToIntBits_5c35a 1 = .ok (.invokestatic 59, 3) := by decide +kernel
theorem dJxf58ca_floatToIntBits_5c35a_4 : decode cJxf58ca_floatToIntBits_5c35a 4 = .ok (.ifCond .ne 8, 3) := by decide +kernel
theorem dJxf58ca_floatToIntBits_5c35a_7 : decode cJxf58ca_floatToIntBits_5c35a 7 = .ok (.fload_n 0, 1) := by decide +kernel
theorem dJxf58ca_floatToIntBits_5c35a_8 : decode cJxf58ca_floatToIntBits_5c35a 8 = .ok (.invokestatic 74, 3) := by decide +kernel
theorem dJxf58ca_floatToIntBits_5c35a_11 : decode cJxf58ca_floatToIntBits_5c35a 11 = .ok (.ireturn, 1) := by decide +kernel
theorem dJxf58ca_floatToIntBits_5c35a_12 : decode cJxf58ca_floatToIntBits_5c35a 12 = .ok (.ldc 77, 2) := by decide +kernel
theorem dJxf58ca_floatToIntBits_5c35a_14 : decode cJxf58ca_floatToIntBits_5c35a 14 = .ok (.ireturn, 1) := by decide +kernel
theorem dJ9_floorDiv_f86c9_0 : decode cJ9_floorDiv_f86c9 0 = .ok (.lload_n 0, 1) := by decide +kernel
theorem dJ9_floorDiv_f86c9_1 : decode cJ9_floorDiv_f86c9 1 = .ok (.lload_n 2, 1) := by decide +kernel
theorem dJ9_floorDiv_f86c9_2 : decode cJ9_floorDiv_f86c9 2 = .ok (.ldiv, 1) := by decide +kernel
theorem dJ9_floorDiv_f86c9_3 : decode cJ9_floorDiv_f86c9 3 = .ok (.lstore 4, 2) := by decide +kernel
theorem dJ9_floorDiv_f86c9_5 : decode cJ9_floorDiv_f86c9 5 = .ok (.lload_n 0, 1) := by decide +kernel
theorem dJ9_floorDiv_f86c9_6 : decode cJ9_floorDiv_f86c9 6 = .ok (.lload_n 2, 1) := by decide +kernel
theorem dJ9_floorDiv_f86c9_7 : decode cJ9_floorDiv_f86c9 7 = .ok (.lxor, 1) := by decide +kernel
theorem dJ9_floorDiv_f86c9_8 : decode cJ9_floorDiv_f86c9 8 = .ok (.lconst 0, 1) := by decide +kernel
theorem dJ9_floorDiv_f86c9_9 : decode cJ9_floorDiv_f86c9 9 = .ok (.lcmp, 1) := by decide +kernel
theorem dJ9_floorDiv_f86c9_10 : decode cJ9_floorDiv_f86c9 10 = .ok (.ifCond .ge 17, 3) := by decide +kernel
theorem dJ9_floorDiv_f86c9_13 : decode cJ9_floorDiv_f86c9 13 = .ok (.lload 4, 2) := by decide +kernel
theorem dJ9_floorDiv_f86c9_15 : decode cJ9_floorDiv_f86c9 15 = .ok (.lload_n 2, 1) := by decide +kernel
theorem dJ9_floorDiv_f86c9_16 : decode cJ9_floorDiv_f86c9 16 = .ok (.lmul, 1) := by decide +kernel
theorem dJ9_floorDiv_f86c9_17 : decode cJ9_floorDiv_f86c9 17 = .ok (.lload_n 0, 1) := by decide +kernel
theorem dJ9_floorDiv_f86c9_18 : decode cJ9_floorDiv_f86c9 18 = .ok (.lcmp, 1) := by decide +kernel
theorem dJ9_floorDiv_f86c9_19 : decode cJ9_floorDiv_f86c9 19 = .ok (.ifCond .eq 8, 3) := by decide +kernel
theorem dJ9_floorDiv_f86c9_22 : decode cJ9_floorDiv_f86c9 22 = .ok (.lload 4, 2) := by decide +kernel
theorem dJ9_floorDiv_f86c9_24 : decode cJ9_floorDiv_f86c9 24 = .ok (.lconst 1, 1) := by decide +kernel
theorem dJ9_floorDiv_f86c9_25 : decode cJ9_floorDiv_f86c9 25 = .ok (.lsub, 1) := by decide +kernel
theorem dJ9_floorDiv_f86c9_26 : decode cJ9_floorDiv_f86c9 26 = .ok (.lreturn, 1) := by decide +kernel
theorem dJ9_floorDiv_f86c9_27 : decode cJ9_floorDiv_f86c9 27 = .ok (.lload 4, 2) := by decide +kernel
theorem dJ9_floorDiv_f86c9_29 : decode cJ9_floorDiv_f86c9 29 = .ok (.lreturn, 1) := by decide +kernel
theorem dJ9_abs_067f4_0 : decode cJ9_abs_067f4 0 = .ok (.lload_n 0, 1) := by decide +kernel
theorem dJ9_abs_067f4_1 : decode cJ9_abs_067f4 1 = .ok (.lconst 0, 1) := by decide +kernel
theorem dJ9_abs_067f4_2 : decode cJ9_abs_067f4 2 = .ok (.lcmp, 1) := by decide +kernel
theorem dJ9_abs_067f4_3 : decode cJ9_abs_067f4 3 = .ok (.ifCond .ge 8, 3) := by decide +kernel
theorem dJ9_abs_067f4_6 : decode cJ9_abs_067f4 6 = .ok (.lload_n 0, 1) := by decide +kernel
theorem dJ9_abs_067f4_7 : decode cJ9_abs_067f4 7 = .ok (.lneg, 1) := by decide +kernel
theorem dJ9_abs_067f4_8 : decode cJ9_abs_067f4 8 = .ok (.goto 4, 3) := by decide +kernel
theorem dJ9_abs_067f4_11 : decode cJ9_abs_067f4 11 = .ok (.lload_n 0, 1) := by decide +kernel
theorem dJ9_abs_067f4_12 : decode cJ9_abs_067f4 12 = .ok (.lreturn, 1) := by decide +kernel
theorem dJ9_max_7cf53_0 : decode cJ9_max_7cf53 0 = .ok (.iload_n 0, 1) := by decide +kernel
theorem dJ9_max_7cf53_1 : decode cJ9_max_7cf53 1 = .ok (.iload_n 1, 1) := by decide +kernel
theorem dJ9_max_7cf53_2 : decode cJ9_max_7cf53 2 = .ok (.if_icmp .lt 7, 3) := by decide +kernel
theorem dJ9_max_7cf53_5 : decode cJ9_max_7cf53 5 = .ok (.iload_n 0, 1) := by decide +kernel
theorem dJ9_max_7cf53_6 : decode cJ9_max_7cf53 6 = .ok (.goto 4, 3) := by decide +kernel
theorem dJ9_max_7cf53_9 : decode cJ9_max_7cf53 9 = .ok (.iload_n 1, 1) := by decide +kernel
theorem dJ9_max_7cf53_10 : decode cJ9_max_7cf53 10 = .ok (.ireturn, 1) := by decide +kernel
theorem dJ9_max_f86c9_0 : decode cJ9_max_f86c9 0 = .ok (.lload_n 0, 1) := by decide +kernel
theorem dJ9_max_f86c9_1 : decode cJ9_max_f86c9 1 = .ok (.lload_n 2, 1) := by decide +kernel
theorem dJ9_max_f86c9_2 : decode cJ9_max_f86c9 2 = .ok (.lcmp, 1) := by decide +kernel
theorem dJ9_max_f86c9_3 : decode cJ9_max_f86c9 3 = .ok (.ifCond .lt 7, 3) := by decide +kernel
theorem dJ9_max_f86c9_6 : decode cJ9_max_f86c9 6 = .ok (.lload_n 0, 1) := by decide +kernel
theorem dJ9_max_f86c9_7 : decode cJ9_max_f86c9 7 = .ok (.goto 4, 3) := by decide +kernel
theorem dJ9_max_f86c9_10 : decode cJ9_max_f86c9 10 = .ok (.lload_n 2, 1) := by decide +kernel
theorem dJ9_max_f86c9_11 : decode cJ9_max_f86c9 11 = .ok (.lreturn, 1) := by decide +kernel
theorem dJ9_min_7cf53_0 : decode cJ9_min_7cf53 0 = .ok (.iload_n 0, 1) := by decide +kernel
theorem dJ9_min_7cf53_1 : decode cJ9_min_7cf53 1 = .ok (.iload_n 1, 1) := by decide +kernel
theorem dJ9_min_7cf53_2 : decode cJ9_min_7cf53 2 = .ok (.if_icmp .gt 7, 3) := by decide +kernel
theorem dJ9_min_7cf53_5 : decode cJ9_min_7cf53 5 = .ok (.iload_n 0, 1) := by decide +kernel
theorem dJ9_min_7cf53_6 : decode cJ9_min_7cf53 6 = .ok (.goto 4, 3) := by decide +kernel
theorem dJ9_min_7cf53_9 : decode cJ9_min_7cf53 9 = .ok (.iload_n 1, 1) := by decide +kernel
theorem dJ9_min_7cf53_10 : decode cJ9_min_7cf53 10 = .ok (.ireturn, 1) := by decide +kernel
theorem dJ9_min_f86c9_0 : decode cJ9_min_f86c9 0 = .ok (.lload_n 0, 1) := by decide +kernel
theorem dJ9_min_f86c9_1 : decode cJ9_min_f86c9 1 = .ok (.lload_n 2, 1) := by decide +kernel
theorem dJ9_min_f86c9_2 : decode cJ9_min_f86c9 2 = .ok (.lcmp, 1) := by decide +kernel
theorem dJ9_min_f86c9_3 : decode cJ9_min_f86c9 3 = .ok (.ifCond .gt 7, 3) := by decide +kernel
theorem dJ9_min_f86c9_6 : decode cJ9_min_f86c9 6 = .ok (.lload_n 0, 1) := by decide +kernel
theorem dJ9_min_f86c9_7 : decode cJ9_min_f86c9 7 = .ok (.goto 4, 3) := by decide +kernel
theorem dJ9_min_f86c9_10 : decode cJ9_min_f86c9 10 = .ok (.lload_n 2, 1) := by decide +kernel
theorem dJ9_min_f86c9_11 : decode cJ9_min_f86c9 11 = .ok (.lreturn, 1) := by decide +kernel
set_option maxRecDepth 20000 in
theorem ggJ0_length_8abf5_J0_coder_7d493 : GoodIn wsJ0_length_8abf5 wsJ0_coder_7d493 := goodIn_r _ [6, 7, 8] (by decide +kernel) (by decide +kernel)
set_option maxRecDepth 20000 in
theorem gJ0_length_8abf5_J0_coder_7d493 : GoodIn wsJ0_length_8abf5 (wsV RJ0 335 RJ0 yJ0_coder_7d493 wsJ0_coder_7d493) := goodIn_app (goodIn_of _ (by decide +kernel)) ggJ0_length_8abf5_J0_coder_7d493
theorem dJ0_length_8abf5_0 : decode cJ0_length_8abf5 0 = .ok (.aload_n 0, 1) := by decide +kernel
theorem dJ0_length_8abf5_1 : decode cJ0_length_8abf5 1 = .ok (.getfield 9, 3) := by decide +kernel
theorem dJ0_length_8abf5_4 : decode cJ0_length_8abf5 4 = .ok (.arraylength, 1) := by decide +kernel
theorem dJ0_length_8abf5_5 : decode cJ0_length_8abf5 5 = .ok (.aload_n 0, 1) := by decide +kernel
theorem dJ0_length_8abf5_6 : decode cJ0_length_8abf5 6 = .ok (.invokevirtual 335, 3) := by decide +kernel
theorem dJ0_length_8abf5_9 : decode cJ0_length_8abf5 9 = .ok (.ishr, 1) := by decide +kernel
theorem dJ0_length_8abf5_10 : decode cJ0_length_8abf5 10 = .ok (.ireturn, 1) := by decide +kernel
set_option maxRecDepth 20000 in
theorem ggJ0_charAt_5068e_J0_isLatin1_aae02 : GoodIn wsJ0_charAt_5068e wsJ0_isLatin1_aae02 := goodIn_r _ [6, 7, 8] (by decide +kernel) (by decide +kernel)
set_option maxRecDepth 20000 in
theorem gJ0_charAt_5068e_J0_isLatin1_aae02 : GoodIn wsJ0_charAt_5068e (wsV RJ0 492 RJ0 yJ0_isLatin1_aae02 wsJ0_isLatin1_aae02) := goodIn_app (goodIn_of _ (by decide +kernel)) ggJ0_charAt_5068e_J0_isLatin1_aae02
set_option maxRecDepth 20000 in
theorem ggJ0_charAt_5068e_J1_charAt_3b067 : GoodIn wsJ0_charAt_5068e wsJ1_charAt_3b067 := goodIn_r _ [12, 13, 14, 5, 15, 16, 17, 18, 19, 20] (by decide +kernel) (by decide +kernel)
set_option maxRecDepth 20000 in
theorem gJ0_charAt_5068e_J1_charAt_3b067 : GoodIn wsJ0_charAt_5068e (va_wsS RJ0 495 yJ1_charAt_3b067 wsJ1_charAt_3b067) := goodIn_app (goodIn_of _ (by decide +kernel)) ggJ0_charAt_5068e_J1_charAt_3b067
set_option maxRecDepth 20000 in
theorem ggJ0_charAt_5068e_J2_charAt_3b067 : GoodIn wsJ0_charAt_5068e wsJ2_charAt_3b067 := goodIn_r _ [24, 25, 26, 23, 27, 28, 29, 30, 31, 14, 5, 15, 16, 17, 18, 19, 20, 32, 33, 34, 35, 36, 37] (by decide +kernel) (by decide +kernel)
set_option maxRecDepth 20000 in
theorem gJ0_charAt_5068e_J2_charAt_3b067 : GoodIn wsJ0_charAt_5068e (va_wsS RJ0 498 yJ2_charAt_3b067 wsJ2_charAt_3b067) := goodIn_app (goodIn_of _ (by decide +kernel)) ggJ0_charAt_5068e_J2_charAt_3b067
theorem dJ0_charAt_5068e_0 : decode cJ0_charAt_5068e 0 = .ok (.aload_n 0, 1) := by decide +kernel
theorem dJ0_charAt_5068e_1 : decode cJ0_charAt_5068e 1 = .ok (.invokevirtual 492, 3) := by decide +kernel
theorem dJ0_charAt_5068e_4 : decode cJ0_charAt_5068e 4 = .ok (.ifCond .eq 12, 3) := by decide +kernel
theorem dJ0_charAt_5068e_7 : decode cJ0_charAt_5068e 7 = .ok (.aload_n 0, 1) := by decide +kernel
theorem dJ0_charAt_5068e_8 : decode cJ0_charAt_5068e 8 = .ok (.getfield 9, 3) := by decide +kernel
theorem dJ0_charAt_5068e_11 : decode cJ0_charAt_5068e 11 = .ok (.iload_n 1, 1) := by decide +kernel
theorem dJ0_charAt_5068e_12 : decode cJ0_charAt_5068e 12 = .ok (.invokestatic 495, 3) := by decide +kernel
theorem dJ0_charAt_5068e_15 : decode cJ0_charAt_5068e 15 = .ok (.ireturn, 1) := by decide +kernel
theorem dJ0_charAt_5068e_16 : decode cJ0_charAt_5068e 16 = .ok (.aload_n 0, 1) := by decide +kernel
theorem dJ0_charAt_5068e_17 : decode cJ0_charAt_5068e 17 = .ok (.getfield 9, 3) := by decide +kernel
theorem dJ0_charAt_5068e_20 : decode cJ0_charAt_5068e 20 = .ok (.iload_n 1, 1) := by decide +kernel
theorem dJ0_charAt_5068e_21 : decode cJ0_charAt_5068e 21 = .ok (.invokestatic 498, 3) := by decide +kernel
theorem dJ0_charAt_5068e_24 : decode cJ0_charAt_5068e 24 = .ok (.ireturn, 1) := by decide +kernel
theorem dJ0_coder_7d493_0 : decode cJ0_coder_7d493 0 = .ok (.getstatic 38, 3) := by decide +kernel
theorem dJ0_coder_7d493_3 : decode cJ0_coder_7d493 3 = .ok (.ifCond .eq 10, 3) := by decide +kernel
theorem dJ0_coder_7d493_6 : decode cJ0_coder_7d493 6 = .ok (.aload_n 0, 1) := by decide +kernel
theorem dJ0_coder_7d493_7 : decode cJ0_coder_7d493 7 = .ok (.getfield 15, 3) := by decide +kernel
theorem dJ0_coder_7d493_10 : decode cJ0_coder_7d493 10 = .ok (.goto 4, 3) := by decide +kernel
theorem dJ0_coder_7d493_13 : decode cJ0_coder_7d493 13 = .ok (.iconst 1, 1) := by decide +kernel
theorem dJ0_coder_7d493_14 : decode cJ0_coder_7d493 14 = .ok (.ireturn, 1) := by decide +kernel
theorem dJ0_isLatin1_aae02_0 : decode cJ0_isLatin1_aae02 0 = .ok (.getstatic 38, 3) := by decide +kernel
theorem dJ0_isLatin1_aae02_3 : decode cJ0_isLatin1_aae02 3 = .ok (.ifCond .eq 14, 3) := by decide +kernel
theorem dJ0_isLatin1_aae02_6 : decode cJ0_isLatin1_aae02 6 = .ok (.aload_n 0, 1) := by decide +kernel
theorem dJ0_isLatin1_aae02_7 : decode cJ0_isLatin1_aae02 7 = .ok (.getfield 15, 3) := by decide +kernel
theorem dJ0_isLatin1_aae02_10 : decode cJ0_isLatin1_aae02 10 = .ok (.ifCond .ne 7, 3) := by decide +kernel
theorem dJ0_isLatin1_aae02_13 : decode cJ0_isLatin1_aae02 13 = .ok (.iconst 1, 1) := by decide +kernel
theorem dJ0_isLatin1_aae02_14 : decode cJ0_isLatin1_aae02 14 = .ok (.goto 4, 3) := by decide +kernel
theorem dJ0_isLatin1_aae02_17 : decode cJ0_isLatin1_aae02 17 = .ok (.iconst 0, 1) := by decide +kernel
theorem dJ0_isLatin1_aae02_18 : decode cJ0_isLatin1_aae02 18 = .ok (.ireturn, 1) := by decide +kernel
set_option maxRecDepth 20000 in
theorem ggJ0_checkIndex_df160_J3_checkIndex_8e157 : GoodIn wsJ0_checkIndex_df160 wsJ3_checkIndex_8e157 := goodIn_r _ [5] (by decide +kernel) (by decide +kernel)
set_option maxRecDepth 20000 in
theorem gJ0_checkIndex_df160_J3_checkIndex_8e157 : GoodIn wsJ0_checkIndex_df160 (va_wsS RJ0 1059 yJ3_checkIndex_8e157 wsJ3_checkIndex_8e157) := goodIn_app (goodIn_of _ (by decide +kernel)) ggJ0_checkIndex_df160_J3_checkIndex_8e157
theorem dJ0_checkIndex_df160_0 : decode cJ0_checkIndex_df160 0 = .ok (.iload_n 0, 1) := by decide +kernel
theorem dJ0_checkIndex_df160_1 : decode cJ0_checkIndex_df160 1 = .ok (.iload_n 1, 1) := by decide +kernel
theorem dJ0_checkIndex_df160_2 : decode cJ0_checkIndex_df160 2 = .ok (.getstatic 1053, 3) := by decide +kernel
theorem dJ0_checkIndex_df160_5 : decode cJ0_checkIndex_df160 5 = .ok (.invokestatic 1059, 3) := by decide +kernel
theorem dJ0_checkIndex_df160_8 : decode cJ0_checkIndex_df160 8 = .ok (.pop, 1) := by decide +kernel
theorem dJ0_checkIndex_df160_9 : decode cJ0_checkIndex_df160 9 = .ok (.return_, 1) := by decide +kernel
set_option maxRecDepth 20000 in
theorem ggJ1_charAt_3b067_J0_checkIndex_df160 : GoodIn wsJ1_charAt_3b067 wsJ0_checkIndex_df160 := goodIn_r _ [4, 5, 6, 7, 8, 9] (by decide +kernel) (by decide +kernel)
set_option maxRecDepth 20000 in
theorem gJ1_charAt_3b067_J0_checkIndex_df160 : GoodIn wsJ1_charAt_3b067 (va_wsS RJ1 9 yJ0_checkIndex_df160 wsJ0_checkIndex_df160) := goodIn_app (goodIn_of _ (by decide +kernel)) ggJ1_charAt_3b067_J0_checkIndex_df160
theorem dJ1_charAt_3b067_0 : decode cJ1_charAt_3b067 0 = .ok (.iload_n 1, 1) := by decide +kernel
theorem dJ1_charAt_3b067_1 : decode cJ1_charAt_3b067 1 = .ok (.aload_n 0, 1) := by decide +kernel
theorem dJ1_charAt_3b067_2 : decode cJ1_charAt_3b067 2 = .ok (.arraylength, 1) := by decide +kernel
theorem dJ1_charAt_3b067_3 : decode cJ1_charAt_3b067 3 = .ok (.invokestatic 9, 3) := by decide +kernel
theorem dJ1_charAt_3b067_6 : decode cJ1_charAt_3b067 6 = .ok (.aload_n 0, 1) := by decide +kernel
theorem dJ1_charAt_3b067_7 : decode cJ1_charAt_3b067 7 = .ok (.iload_n 1, 1) := by decide +kernel
theorem dJ1_charAt_3b067_8 : decode cJ1_charAt_3b067 8 = .ok (.baload, 1) := by decide +kernel
theorem dJ1_charAt_3b067_9 : decode cJ1_charAt_3b067 9 = .ok (.sipush 255, 3) := by decide +kernel
theorem dJ1_charAt_3b067_12 : decode cJ1_charAt_3b067 12 = .ok (.iand, 1) := by decide +kernel
theorem dJ1_charAt_3b067_13 : decode cJ1_charAt_3b067 13 = .ok (.i2c, 1) := by decide +kernel
theorem dJ1_charAt_3b067_14 : decode cJ1_charAt_3b067 14 = .ok (.ireturn, 1) := by decide +kernel
set_option maxRecDepth 20000 in
theorem ggJ2_getChar_3b067_J2_length_9d52b : GoodIn wsJ2_getChar_3b067 wsJ2_length_9d52b := goodIn_r _ [7] (by decide +kernel) (by decide +kernel)
set_option maxRecDepth 20000 in
theorem gJ2_getChar_3b067_J2_length_9d52b : GoodIn wsJ2_getChar_3b067 (va_wsS RJ2 48 yJ2_length_9d52b wsJ2_length_9d52b) := goodIn_app (goodIn_of _ (by decide +kernel)) ggJ2_getChar_3b067_J2_length_9d52b
theorem dJ2_getChar_3b067_0 : decode cJ2_getChar_3b067 0 = .ok (.getstatic 44, 3) := by decide +kernel
theorem dJ2_getChar_3b067_3 : decode cJ2_getChar_3b067 3 = .ok (.ifCond .ne 25, 3) := by decide +kernel
theorem dJ2_getChar_3b067_6 : decode cJ2_getChar_3b067 6 = .ok (.iload_n 1, 1) := by decide +kernel
theorem dJ2_getChar_3b067_7 : decode cJ2_getChar_3b067 7 = .ok (.ifCond .lt 11, 3) := by decide +kernel
theorem dJ2_getChar_3b067_10 : decode cJ2_getChar_3b067 10 = .ok (.iload_n 1, 1) := by decide +kernel
theorem dJ2_getChar_3b067_11 : decode cJ2_getChar_3b067 11 = .ok (.aload_n 0, 1) := by decide +kernel
theorem dJ2_getChar_3b067_12 : decode cJ2_getChar_3b067 12 = .ok (.invokestatic 48, 3) := by decide +kernel
theorem dJ2_getChar_3b067_15 : decode cJ2_getChar_3b067 15 = .ok (.if_icmp .lt 13, 3) := by decide +kernel
theorem dJ2_getChar_3b067_18 : decode cJ2_getChar_3b067 18 = .ok (.new 52, 3) := by decide +kernel
theorem dJ2_getChar_3b067_21 : decode cJ2_getChar_3b067 21 = .ok (.dup, 1) := by decide +kernel
theorem dJ2_getChar_3b067_22 : decode cJ2_getChar_3b067 22 = .ok (.ldc 54, 2) := by decide +kernel
theorem dJ2_getChar_3b067_24 : decode cJ2_getChar_3b067 24 = .ok (.invokespecial 56, 3) := by decide +kernel
theorem dJ2_getChar_3b067_27 : decode cJ2_getChar_3b067 27 = .ok (.athrow, 1) := by decide +kernel
theorem dJ2_getChar_3b067_28 : decode cJ2_getChar_3b067 28 = .ok (.iload_n 1, 1) := by decide +kernel
theorem dJ2_getChar_3b067_29 : decode cJ2_getChar_3b067 29 = .ok (.iconst 1, 1) := by decide +kernel
theorem dJ2_getChar_3b067_30 : decode cJ2_getChar_3b067 30 = .ok (.ishl, 1) := by decide +kernel
theorem dJ2_getChar_3b067_31 : decode cJ2_getChar_3b067 31 = .ok (.istore_n 1, 1) := by decide +kernel
theorem dJ2_getChar_3b067_32 : decode cJ2_getChar_3b067 32 = .ok (.aload_n 0, 1) := by decide +kernel
theorem dJ2_getChar_3b067_33 : decode cJ2_getChar_3b067 33 = .ok (.iload_n 1, 1) := by decide +kernel
theorem dJ2_getChar_3b067_34 : decode cJ2_getChar_3b067 34 = .ok (.iinc 1 1, 3) := by decide +kernel
theorem dJ2_getChar_3b067_37 : decode cJ2_getChar_3b067 37 = .ok (.baload, 1) := by decide +kernel
theorem dJ2_getChar_3b067_38 : decode cJ2_getChar_3b067 38 = .ok (.sipush 255, 3) := by decide +kernel
theorem dJ2_getChar_3b067_41 : decode cJ2_getChar_3b067 41 = .ok (.iand, 1) := by decide +kernel
theorem dJ2_getChar_3b067_42 : decode cJ2_getChar_3b067 42 = .ok (.getstatic 59, 3) := by decide +kernel
theorem dJ2_getChar_3b067_45 : decode cJ2_getChar_3b067 45 = .ok (.ishl, 1) := by decide +kernel
theorem dJ2_getChar_3b067_46 : decode cJ2_getChar_3b067 46 = .ok (.aload_n 0, 1) := by decide +kernel
theorem dJ2_getChar_3b067_47 : decode cJ2_getChar_3b067 47 = .ok (.iload_n 1, 1) := by decide +kernel
theorem dJ2_getChar_3b067_48 : decode cJ2_getChar_3b067 48 = .ok (.baload, 1) := by decide +kernel
theorem dJ2_getChar_3b067_49 : decode cJ2_getChar_3b067 49 = .ok (.sipush 255, 3) := by decide +kernel
theorem dJ2_getChar_3b067_52 : decode cJ2_getChar_3b067 52 = .ok (.iand, 1) := by decide +kernel
theorem dJ2_getChar_3b067_53 : decode cJ2_getChar_3b067 53 = .ok (.getstatic 63, 3) := by decide +kernel
theorem dJ2_getChar_3b067_56 : decode cJ2_getChar_3b067 56 = .ok (.ishl, 1) := by decide +kernel
theorem dJ2_getChar_3b067_57 : decode cJ2_getChar_3b067 57 = .ok (.ior, 1) := by decide +kernel
theorem dJ2_getChar_3b067_58 : decode cJ2_getChar_3b067 58 = .ok (.i2c, 1) := by decide +kernel
theorem dJ2_getChar_3b067_59 : decode cJ2_getChar_3b067 59 = .ok (.ireturn, 1) := by decide +kernel
theorem dJ2_length_9d52b_0 : decode cJ2_length_9d52b 0 = .ok (.aload_n 0, 1) := by decide +kernel
theorem dJ2_length_9d52b_1 : decode cJ2_length_9d52b 1 = .ok (.arraylength, 1) := by decide +kernel
theorem dJ2_length_9d52b_2 : decode cJ2_length_9d52b 2 = .ok (.iconst 1, 1) := by decide +kernel
theorem dJ2_length_9d52b_3 : decode cJ2_length_9d52b 3 = .ok (.ishr, 1) := by decide +kernel
theorem dJ2_length_9d52b_4 : decode cJ2_length_9d52b 4 = .ok (.ireturn, 1) := by decide +kernel
set_option maxRecDepth 20000 in
theorem ggJ2_charAt_3b067_J2_checkIndex_2214a : GoodIn wsJ2_charAt_3b067 wsJ2_checkIndex_2214a := goodIn_r _ [4, 5, 6, 3, 7, 8, 9, 10, 11, 12, 13, 14, 15, 16] (by decide +kernel) (by decide +kernel)
set_option maxRecDepth 20000 in
theorem gJ2_charAt_3b067_J2_checkIndex_2214a : GoodIn wsJ2_charAt_3b067 (va_wsS RJ2 67 yJ2_checkIndex_2214a wsJ2_checkIndex_2214a) := goodIn_app (goodIn_of _ (by decide +kernel)) ggJ2_charAt_3b067_J2_checkIndex_2214a
set_option maxRecDepth 20000 in
theorem ggJ2_charAt_3b067_J2_getChar_3b067 : GoodIn wsJ2_charAt_3b067 wsJ2_getChar_3b067 := goodIn_r _ [19, 20, 21, 22, 5, 6, 3, 7] (by decide +kernel) (by decide +kernel)
set_option maxRecDepth 20000 in
theorem gJ2_charAt_3b067_J2_getChar_3b067 : GoodIn wsJ2_charAt_3b067 (va_wsS RJ2 71 yJ2_getChar_3b067 wsJ2_getChar_3b067) := goodIn_app (goodIn_of _ (by decide +kernel)) ggJ2_charAt_3b067_J2_getChar_3b067
theorem dJ2_charAt_3b067_0 : decode cJ2_charAt_3b067 0 = .ok (.iload_n 1, 1) := by decide +kernel
theorem dJ2_charAt_3b067_1 : decode cJ2_charAt_3b067 1 = .ok (.aload_n 0, 1) := by decide +kernel
theorem dJ2_charAt_3b067_2 : decode cJ2_charAt_3b067 2 = .ok (.invokestatic 67, 3) := by decide +kernel
theorem dJ2_charAt_3b067_5 : decode cJ2_charAt_3b067 5 = .ok (.aload_n 0, 1) := by decide +kernel
theorem dJ2_charAt_3b067_6 : decode cJ2_charAt_3b067 6 = .ok (.iload_n 1, 1) := by decide +kernel
theorem dJ2_charAt_3b067_7 : decode cJ2_charAt_3b067 7 = .ok (.invokestatic 71, 3) := by decide +kernel
theorem dJ2_charAt_3b067_10 : decode cJ2_charAt_3b067 10 = .ok (.ireturn, 1) := by decide +kernel
set_option maxRecDepth 20000 in
theorem ggJ2_checkIndex_2214a_J2_length_9d52b : GoodIn wsJ2_checkIndex_2214a wsJ2_length_9d52b := goodIn_r _ [4] (by decide +kernel) (by decide +kernel)
set_option maxRecDepth 20000 in
theorem gJ2_checkIndex_2214a_J2_length_9d52b : GoodIn wsJ2_checkIndex_2214a (va_wsS RJ2 48 yJ2_length_9d52b wsJ2_length_9d52b) := goodIn_app (goodIn_of _ (by decide +kernel)) ggJ2_checkIndex_2214a_J2_length_9d52b
set_option maxRecDepth 20000 in
theorem ggJ2_checkIndex_2214a_J0_checkIndex_df160 : GoodIn wsJ2_checkIndex_2214a wsJ0_checkIndex_df160 := goodIn_r _ [8, 9, 10, 11, 12, 13] (by decide +kernel) (by decide +kernel)
set_option maxRecDepth 20000 in
theorem gJ2_checkIndex_2214a_J0_checkIndex_df160 : GoodIn wsJ2_checkIndex_2214a (va_wsS RJ2 414 yJ0_checkIndex_df160 wsJ0_checkIndex_df160) := goodIn_app (goodIn_of _ (by decide +kernel)) ggJ2_checkIndex_2214a_J0_checkIndex_df160
theorem dJ2_checkIndex_2214a_0 : decode cJ2_checkIndex_2214a 0 = .ok (.iload_n 0, 1) := by decide +kernel
theorem dJ2_checkIndex_2214a_1 : decode cJ2_checkIndex_2214a 1 = .ok (.aload_n 1, 1) := by decide +kernel
theorem dJ2_checkIndex_2214a_2 : decode cJ2_checkIndex_2214a 2 = .ok (.invokestatic 48, 3) := by decide +kernel
theorem dJ2_checkIndex_2214a_5 : decode cJ2_checkIndex_2214a 5 = .ok (.invokestatic 414, 3) := by decide +kernel
theorem dJ2_checkIndex_2214a_8 : decode cJ2_checkIndex_2214a 8 = .ok (.return_, 1) := by decide +kernel
theorem dJ3_checkIndex_8e157_0 : decode cJ3_checkIndex_8e157 0 = .ok (.iload_n 0, 1) := by decide +kernel
theorem dJ3_checkIndex_8e157_1 : decode cJ3_checkIndex_8e157 1 = .ok (.ifCond .lt 8, 3) := by decide +kernel
theorem dJ3_checkIndex_8e157_4 : decode cJ3_checkIndex_8e157 4 = .ok (.iload_n 0, 1) := by decide +kernel
theorem dJ3_checkIndex_8e157_5 : decode cJ3_checkIndex_8e157 5 = .ok (.iload_n 1, 1) := by decide +kernel
theorem dJ3_checkIndex_8e157_6 : decode cJ3_checkIndex_8e157 6 = .ok (.if_icmp .lt 10, 3) := by decide +kernel
theorem dJ3_checkIndex_8e157_9 : decode cJ3_checkIndex_8e157 9 = .ok (.aload_n 2, 1) := by decide +kernel
theorem dJ3_checkIndex_8e157_10 : decode cJ3_checkIndex_8e157 10 = .ok (.iload_n 0, 1) := by decide +kernel
theorem dJ3_checkIndex_8e157_11 : decode cJ3_checkIndex_8e157 11 = .ok (.iload_n 1, 1) := by decide +kernel
theorem dJ3_checkIndex_8e157_12 : decode cJ3_checkIndex_8e157 12 = .ok (.invokestatic 95, 3) := by decide +kernel
theorem dJ3_checkIndex_8e157_15 : decode cJ3_checkIndex_8e157 15 = .ok (.athrow, 1) := by decide +kernel
theorem dJ3_checkIndex_8e157_16 : decode cJ3_checkIndex_8e157 16 = .ok (.iload_n 0, 1) := by decide +kernel
theorem dJ3_checkIndex_8e157_17 : decode cJ3_checkIndex_8e157 17 = .ok (.ireturn, 1) := by decide +kernel
set_option maxRecDepth 20000 in
theorem ggL_addMetal_X8_addMetal : GoodIn wsL_addMetal wsX8_addMetal := goodIn_ca (goodIn_ca (goodIn_ca (goodIn_r _ [7, 8, 9, 10, 11, 12, 13, 14, 15, 16, 17, 6, 18, 19, 20, 21, 22, 23, 24, 25, 26, 27, 28, 29, 30, 31, 32, 33, 34, 35, 36, 37, 38, 39, 40, 41, 42, 43, 44, 45, 46, 47, 48, 49, 50, 51, 52, 53, 54, 55, 56, 57, 58, 59, 60, 61, 62, 63, 64, 65, 66, 67, 68, 69, 70, 71, 72, 73, 74, 75, 76, 77, 78, 79, 80, 81, 82, 83, 84, 85, 86, 87, 88, 89, 90, 91, 92, 93, 94, 95, 96, 97, 98, 99, 100, 101, 102, 103, 104, 105, 106, 107, 108, 109, 110, 111, 112, 113, 114, 115, 116, 117, 118, 119] (by decide +kernel) (by decide +kernel)) (goodIn_sub (fun _ h => List.mem_cons_of_mem _ (List.mem_append_left _ (List.mem_append_left _ (List.mem_append_right _ h)))) (by decide +kernel))) (goodIn_sub (fun _ h => List.mem_cons_of_mem _ (List.mem_append_left _ (List.mem_append_right _ h))) (by decide +kernel))) (goodIn_sub (fun _ h => List.mem_cons_of_mem _ (List.mem_append_right _ h)) (by decide +kernel))
set_option maxRecDepth 20000 in
theorem gL_addMetal_X8_addMetal : GoodIn wsL_addMetal (wsV RL 7 RX8 yX8_addMetal wsX8_addMetal) := goodIn_app (goodIn_of _ (by decide +kernel)) ggL_addMetal_X8_addMetal
theorem dL_addMetal_0 : decode cL_addMetal 0 = .ok (.aload_n 2, 1) := by decide +kernel
theorem dL_addMetal_1 : decode cL_addMetal 1 = .ok (.iconst 0, 1) := by decide +kernel
theorem dL_addMetal_2 : decode cL_addMetal 2 = .ok (.aload_n 0, 1) := by decide +kernel
theorem dL_addMetal_3 : decode cL_addMetal 3 = .ok (.iload_n 1, 1) := by decide +kernel
theorem dL_addMetal_4 : decode cL_addMetal 4 = .ok (.invokevirtual 7, 3) := by decide +kernel
theorem dL_addMetal_7 : decode cL_addMetal 7 = .ok (.i2l, 1) := by decide +kernel
theorem dL_addMetal_8 : decode cL_addMetal 8 = .ok (.lastore, 1) := by decide +kernel
theorem dL_addMetal_9 : decode cL_addMetal 9 = .ok (.goto 9, 3) := by decide +kernel
theorem dL_addMetal_12 : decode cL_addMetal 12 = .ok (.astore_n 3, 1) := by decide +kernel
theorem dL_addMetal_13 : decode cL_addMetal 13 = .ok (.iconst 1, 1) := by decide +kernel
theorem dL_addMetal_14 : decode cL_addMetal 14 = .ok (.ireturn, 1) := by decide +kernel
theorem dL_addMetal_15 : decode cL_addMetal 15 = .ok (.astore_n 3, 1) := by decide +kernel
theorem dL_addMetal_16 : decode cL_addMetal 16 = .ok (.iconst 2, 1) := by decide +kernel
theorem dL_addMetal_17 : decode cL_addMetal 17 = .ok (.ireturn, 1) := by decide +kernel
theorem dL_addMetal_18 : decode cL_addMetal 18 = .ok (.iconst 0, 1) := by decide +kernel
theorem dL_addMetal_19 : decode cL_addMetal 19 = .ok (.ireturn, 1) := by decide +kernel
set_option maxRecDepth 20000 in
theorem ggL_setStretch_X8_setStretch : GoodIn wsL_setStretch wsX8_setStretch := goodIn_ca (goodIn_ca (goodIn_ca (goodIn_r _ [7, 8, 9, 10, 11, 12, 13, 14, 15, 16, 17, 18, 19, 20, 21, 6, 22, 23, 24, 25, 26, 27, 28, 29, 30, 31, 32, 33, 34, 35, 36, 37, 38, 39, 40, 41, 42, 43, 44, 45, 46, 47, 48, 49, 50, 51, 52, 53, 54, 55, 56, 57, 58, 59, 60, 61, 62, 63, 64, 65, 66, 67, 68, 69, 70, 71, 72, 73, 74, 75, 76, 77, 78, 79, 80, 81, 82, 83, 84, 85, 86, 87, 88, 89, 90, 91, 92, 93, 94, 95, 96, 97, 98, 99, 100, 101, 102, 103, 104, 105, 106, 107, 108, 109, 110, 111, 112, 113, 114, 115, 116, 117, 118, 119, 120, 121, 122, 123] (by decide +kernel) (by decide +kernel)) (goodIn_sub (fun _ h => List.mem_cons_of_mem _ (List.mem_append_left _ (List.mem_append_left _ (List.mem_append_right _ h)))) (by decide +kernel))) (goodIn_sub (fun _ h => List.mem_cons_of_mem _ (List.mem_append_left _ (List.mem_append_right _ h))) (by decide +kernel))) (goodIn_sub (fun _ h => List.mem_cons_of_mem _ (List.mem_append_right _ h)) (by decide +kernel))
set_option maxRecDepth 20000 in
theorem gL_setStretch_X8_setStretch : GoodIn wsL_setStretch (wsV RL 17 RX8 yX8_setStretch wsX8_setStretch) := goodIn_app (goodIn_of _ (by decide +kernel)) ggL_setStretch_X8_setStretch
theorem dL_setStretch_0 : decode cL_setStretch 0 = .ok (.aload_n 3, 1) := by decide +kernel
theorem dL_setStretch_1 : decode cL_setStretch 1 = .ok (.iconst 0, 1) := by decide +kernel
theorem dL_setStretch_2 : decode cL_setStretch 2 = .ok (.aload_n 0, 1) := by decide +kernel
theorem dL_setStretch_3 : decode cL_setStretch 3 = .ok (.iload_n 1, 1) := by decide +kernel
theorem dL_setStretch_4 : decode cL_setStretch 4 = .ok (.iload_n 2, 1) := by decide +kernel
theorem dL_setStretch_5 : decode cL_setStretch 5 = .ok (.invokevirtual 17, 3) := by decide +kernel
theorem dL_setStretch_8 : decode cL_setStretch 8 = .ok (.i2l, 1) := by decide +kernel
theorem dL_setStretch_9 : decode cL_setStretch 9 = .ok (.lastore, 1) := by decide +kernel
theorem dL_setStretch_10 : decode cL_setStretch 10 = .ok (.goto 11, 3) := by decide +kernel
theorem dL_setStretch_13 : decode cL_setStretch 13 = .ok (.astore 4, 2) := by decide +kernel
theorem dL_setStretch_15 : decode cL_setStretch 15 = .ok (.iconst 1, 1) := by decide +kernel
theorem dL_setStretch_16 : decode cL_setStretch 16 = .ok (.ireturn, 1) := by decide +kernel
theorem dL_setStretch_17 : decode cL_setStretch 17 = .ok (.astore 4, 2) := by decide +kernel
theorem dL_setStretch_19 : decode cL_setStretch 19 = .ok (.iconst 2, 1) := by decide +kernel
theorem dL_setStretch_20 : decode cL_setStretch 20 = .ok (.ireturn, 1) := by decide +kernel
theorem dL_setStretch_21 : decode cL_setStretch 21 = .ok (.iconst 0, 1) := by decide +kernel
theorem dL_setStretch_22 : decode cL_setStretch 22 = .ok (.ireturn, 1) := by decide +kernel
set_option maxRecDepth 20000 in
theorem ggL_addRod_X8_addRod : GoodIn wsL_addRod wsX8_addRod := goodIn_ca (goodIn_ca (goodIn_ca (goodIn_r _ [8, 9, 10, 11, 12, 13, 14, 15, 16, 17, 18, 19, 20, 21, 22, 23, 24, 7, 25, 26, 27, 28, 29, 30, 31, 32, 33, 34, 35, 36, 37, 38, 39, 40, 41, 42, 43, 44, 45, 46, 47, 48, 49, 50, 51, 52, 53, 54, 55, 56, 57, 58, 59, 60, 61, 62, 63, 64, 65, 66, 67, 68, 69, 70, 71, 72, 73, 74, 75, 76, 77, 78, 79, 80, 81, 82, 83, 84, 85, 86, 87, 88, 89, 90, 91, 92, 93, 94, 95, 96, 97, 98, 99, 100, 101, 102, 103, 104, 105, 106, 107, 108, 109, 110, 111, 112, 113, 114, 115, 116, 117, 118, 119, 120, 121, 122, 123, 124, 125] (by decide +kernel) (by decide +kernel)) (goodIn_sub (fun _ h => List.mem_cons_of_mem _ (List.mem_append_left _ (List.mem_append_left _ (List.mem_append_right _ h)))) (by decide +kernel))) (goodIn_sub (fun _ h => List.mem_cons_of_mem _ (List.mem_append_left _ (List.mem_append_right _ h))) (by decide +kernel))) (goodIn_sub (fun _ h => List.mem_cons_of_mem _ (List.mem_append_right _ h)) (by decide +kernel))
set_option maxRecDepth 20000 in
theorem gL_addRod_X8_addRod : GoodIn wsL_addRod (wsV RL 23 RX8 yX8_addRod wsX8_addRod) := goodIn_app (goodIn_of _ (by decide +kernel)) ggL_addRod_X8_addRod
theorem dL_addRod_0 : decode cL_addRod 0 = .ok (.aload 4, 2) := by decide +kernel
theorem dL_addRod_2 : decode cL_addRod 2 = .ok (.iconst 0, 1) := by decide +kernel
theorem dL_addRod_3 : decode cL_addRod 3 = .ok (.aload_n 0, 1) := by decide +kernel
theorem dL_addRod_4 : decode cL_addRod 4 = .ok (.iload_n 1, 1) := by decide +kernel
theorem dL_addRod_5 : decode cL_addRod 5 = .ok (.iload_n 2, 1) := by decide +kernel
theorem dL_addRod_6 : decode cL_addRod 6 = .ok (.iload_n 3, 1) := by decide +kernel
theorem dL_addRod_7 : decode cL_addRod 7 = .ok (.invokevirtual 23, 3) := by decide +kernel
theorem dL_addRod_10 : decode cL_addRod 10 = .ok (.i2l, 1) := by decide +kernel
theorem dL_addRod_11 : decode cL_addRod 11 = .ok (.lastore, 1) := by decide +kernel
theorem dL_addRod_12 : decode cL_addRod 12 = .ok (.goto 15, 3) := by decide +kernel
theorem dL_addRod_15 : decode cL_addRod 15 = .ok (.astore 5, 2) := by decide +kernel
theorem dL_addRod_17 : decode cL_addRod 17 = .ok (.iconst 1, 1) := by decide +kernel
theorem dL_addRod_18 : decode cL_addRod 18 = .ok (.ireturn, 1) := by decide +kernel
theorem dL_addRod_19 : decode cL_addRod 19 = .ok (.astore 5, 2) := by decide +kernel
theorem dL_addRod_21 : decode cL_addRod 21 = .ok (.iconst 2, 1) := by decide +kernel
theorem dL_addRod_22 : decode cL_addRod 22 = .ok (.ireturn, 1) := by decide +kernel
theorem dL_addRod_23 : decode cL_addRod 23 = .ok (.astore 5, 2) := by decide +kernel
theorem dL_addRod_25 : decode cL_addRod 25 = .ok (.iconst 3, 1) := by decide +kernel
theorem dL_addRod_26 : decode cL_addRod 26 = .ok (.ireturn, 1) := by decide +kernel
theorem dL_addRod_27 : decode cL_addRod 27 = .ok (.iconst 0, 1) := by decide +kernel
theorem dL_addRod_28 : decode cL_addRod 28 = .ok (.ireturn, 1) := by decide +kernel
set_option maxRecDepth 20000 in
theorem ggL_removeRod_X8_removeRod : GoodIn wsL_removeRod wsX8_removeRod := goodIn_ca (goodIn_ca (goodIn_ca (goodIn_r _ [6, 7, 8, 9, 10, 11, 12, 13, 14, 15, 16, 17, 18, 19, 20, 5, 21, 22, 23, 24, 25, 26, 27, 28, 29, 30, 31, 32, 33, 34, 35, 36, 37, 38, 39, 40, 41, 42, 43, 44, 45, 46, 47, 48, 49, 50, 51, 52, 53, 54, 55, 56, 57, 58, 59, 60, 61, 62, 63, 64, 65, 66, 67, 68, 69, 70, 71, 72, 73, 74, 75, 76, 77, 78, 79, 80, 81, 82, 83, 84, 85, 86, 87, 88, 89, 90, 91, 92, 93, 94, 95, 96, 97, 98, 99, 100, 101, 102, 103, 104, 105, 106, 107, 108, 109, 110, 111, 112, 113, 114, 115, 116, 117, 118, 119, 120, 121, 122] (by decide +kernel) (by decide +kernel)) (goodIn_sub (fun _ h => List.mem_cons_of_mem _ (List.mem_append_left _ (List.mem_append_left _ (List.mem_append_right _ h)))) (by decide +kernel))) (goodIn_sub (fun _ h => List.mem_cons_of_mem _ (List.mem_append_left _ (List.mem_append_right _ h))) (by decide +kernel))) (goodIn_sub (fun _ h => List.mem_cons_of_mem _ (List.mem_append_right _ h)) (by decide +kernel))
set_option maxRecDepth 20000 in
theorem gL_removeRod_X8_removeRod : GoodIn wsL_removeRod (wsV RL 27 RX8 yX8_removeRod wsX8_removeRod) := goodIn_app (goodIn_of _ (by decide +kernel)) ggL_removeRod_X8_removeRod
theorem dL_removeRod_0 : decode cL_removeRod 0 = .ok (.aload_n 2, 1) := by decide +kernel
theorem dL_removeRod_1 : decode cL_removeRod 1 = .ok (.iconst 0, 1) := by decide +kernel
theorem dL_removeRod_2 : decode cL_removeRod 2 = .ok (.aload_n 0, 1) := by decide +kernel
theorem dL_removeRod_3 : decode cL_removeRod 3 = .ok (.iload_n 1, 1) := by decide +kernel
theorem dL_removeRod_4 : decode cL_removeRod 4 = .ok (.invokevirtual 27, 3) := by decide +kernel
theorem dL_removeRod_7 : decode cL_removeRod 7 = .ok (.i2l, 1) := by decide +kernel
theorem dL_removeRod_8 : decode cL_removeRod 8 = .ok (.lastore, 1) := by decide +kernel
theorem dL_removeRod_9 : decode cL_removeRod 9 = .ok (.goto 6, 3) := by decide +kernel
theorem dL_removeRod_12 : decode cL_removeRod 12 = .ok (.astore_n 3, 1) := by decide +kernel
theorem dL_removeRod_13 : decode cL_removeRod 13 = .ok (.iconst 1, 1) := by decide +kernel
theorem dL_removeRod_14 : decode cL_removeRod 14 = .ok (.ireturn, 1) := by decide +kernel
theorem dL_removeRod_15 : decode cL_removeRod 15 = .ok (.iconst 0, 1) := by decide +kernel
theorem dL_removeRod_16 : decode cL_removeRod 16 = .ok (.ireturn, 1) := by decide +kernel
set_option maxRecDepth 20000 in
theorem ggL_setLength_X8_setLength : GoodIn wsL_setLength wsX8_setLength := goodIn_ca (goodIn_ca (goodIn_ca (goodIn_r _ [7, 8, 9, 10, 11, 12, 13, 14, 15, 16, 17, 18, 19, 20, 21, 22, 6, 23, 24, 25, 26, 27, 28, 29, 30, 31, 32, 33, 34, 35, 36, 37, 38, 39, 40, 41, 42, 43, 44, 45, 46, 47, 48, 49, 50, 51, 52, 53, 54, 55, 56, 57, 58, 59, 60, 61, 62, 63, 64, 65, 66, 67, 68, 69, 70, 71, 72, 73, 74, 75, 76, 77, 78, 79, 80, 81, 82, 83, 84, 85, 86, 87, 88, 89, 90, 91, 92, 93, 94, 95, 96, 97, 98, 99, 100, 101, 102, 103, 104, 105, 106, 107, 108, 109, 110, 111, 112, 113, 114, 115, 116, 117, 118, 119, 120, 121, 122, 123, 124] (by decide +kernel) (by decide +kernel)) (goodIn_sub (fun _ h => List.mem_cons_of_mem _ (List.mem_append_left _ (List.mem_append_left _ (List.mem_append_right _ h)))) (by decide +kernel))) (goodIn_sub (fun _ h => List.mem_cons_of_mem _ (List.mem_append_left _ (List.mem_append_right _ h))) (by decide +kernel))) (goodIn_sub (fun _ h => List.mem_cons_of_mem _ (List.mem_append_right _ h)) (by decide +kernel))
set_option maxRecDepth 20000 in
theorem gL_setLength_X8_setLength : GoodIn wsL_setLength (wsV RL 30 RX8 yX8_setLength wsX8_setLength) := goodIn_app (goodIn_of _ (by decide +kernel)) ggL_setLength_X8_setLength
theorem dL_setLength_0 : decode cL_setLength 0 = .ok (.aload_n 3, 1) := by decide +kernel
theorem dL_setLength_1 : decode cL_setLength 1 = .ok (.iconst 0, 1) := by decide +kernel
theorem dL_setLength_2 : decode cL_setLength 2 = .ok (.aload_n 0, 1) := by decide +kernel
theorem dL_setLength_3 : decode cL_setLength 3 = .ok (.iload_n 1, 1) := by decide +kernel
theorem dL_setLength_4 : decode cL_setLength 4 = .ok (.iload_n 2, 1) := by decide +kernel
theorem dL_setLength_5 : decode cL_setLength 5 = .ok (.invokevirtual 30, 3) := by decide +kernel
theorem dL_setLength_8 : decode cL_setLength 8 = .ok (.i2l, 1) := by decide +kernel
theorem dL_setLength_9 : decode cL_setLength 9 = .ok (.lastore, 1) := by decide +kernel
theorem dL_setLength_10 : decode cL_setLength 10 = .ok (.goto 11, 3) := by decide +kernel
theorem dL_setLength_13 : decode cL_setLength 13 = .ok (.astore 4, 2) := by decide +kernel
theorem dL_setLength_15 : decode cL_setLength 15 = .ok (.iconst 1, 1) := by decide +kernel
theorem dL_setLength_16 : decode cL_setLength 16 = .ok (.ireturn, 1) := by decide +kernel
theorem dL_setLength_17 : decode cL_setLength 17 = .ok (.astore 4, 2) := by decide +kernel
theorem dL_setLength_19 : decode cL_setLength 19 = .ok (.iconst 2, 1) := by decide +kernel
theorem dL_setLength_20 : decode cL_setLength 20 = .ok (.ireturn, 1) := by decide +kernel
theorem dL_setLength_21 : decode cL_setLength 21 = .ok (.iconst 0, 1) := by decide +kernel
theorem dL_setLength_22 : decode cL_setLength 22 = .ok (.ireturn, 1) := by decide +kernel
set_option maxRecDepth 20000 in
theorem ggL_setShelf_X8_setShelf : GoodIn wsL_setShelf wsX8_setShelf := goodIn_ca (goodIn_ca (goodIn_ca (goodIn_r _ [7, 8, 9, 10, 11, 12, 13, 14, 15, 16, 6, 17, 18, 19, 20, 21, 22, 23, 24, 25, 26, 27, 28, 29, 30, 31, 32, 33, 34, 35, 36, 37, 38, 39, 40, 41, 42, 43, 44, 45, 46, 47, 48, 49, 50, 51, 52, 53, 54, 55, 56, 57, 58, 59, 60, 61, 62, 63, 64, 65, 66, 67, 68, 69, 70, 71, 72, 73, 74, 75, 76, 77, 78, 79, 80, 81, 82, 83, 84, 85, 86, 87, 88, 89, 90, 91, 92, 93, 94, 95, 96, 97, 98, 99, 100, 101, 102, 103, 104, 105, 106, 107, 108, 109, 110, 111, 112, 113, 114, 115, 116, 117, 118, 119, 120, 121, 122] (by decide +kernel) (by decide +kernel)) (goodIn_sub (fun _ h => List.mem_cons_of_mem _ (List.mem_append_left _ (List.mem_append_left _ (List.mem_append_right _ h)))) (by decide +kernel))) (goodIn_sub (fun _ h => List.mem_cons_of_mem _ (List.mem_append_left _ (List.mem_append_right _ h))) (by decide +kernel))) (goodIn_sub (fun _ h => List.mem_cons_of_mem _ (List.mem_append_right _ h)) (by decide +kernel))
set_option maxRecDepth 20000 in
theorem gL_setShelf_X8_setShelf : GoodIn wsL_setShelf (wsV RL 33 RX8 yX8_setShelf wsX8_setShelf) := goodIn_app (goodIn_of _ (by decide +kernel)) ggL_setShelf_X8_setShelf
theorem dL_setShelf_0 : decode cL_setShelf 0 = .ok (.aload_n 3, 1) := by decide +kernel
theorem dL_setShelf_1 : decode cL_setShelf 1 = .ok (.iconst 0, 1) := by decide +kernel
theorem dL_setShelf_2 : decode cL_setShelf 2 = .ok (.aload_n 0, 1) := by decide +kernel
theorem dL_setShelf_3 : decode cL_setShelf 3 = .ok (.iload_n 1, 1) := by decide +kernel
theorem dL_setShelf_4 : decode cL_setShelf 4 = .ok (.iload_n 2, 1) := by decide +kernel
theorem dL_setShelf_5 : decode cL_setShelf 5 = .ok (.invokevirtual 33, 3) := by decide +kernel
theorem dL_setShelf_8 : decode cL_setShelf 8 = .ok (.i2l, 1) := by decide +kernel
theorem dL_setShelf_9 : decode cL_setShelf 9 = .ok (.lastore, 1) := by decide +kernel
theorem dL_setShelf_10 : decode cL_setShelf 10 = .ok (.goto 11, 3) := by decide +kernel
theorem dL_setShelf_13 : decode cL_setShelf 13 = .ok (.astore 4, 2) := by decide +kernel
theorem dL_setShelf_15 : decode cL_setShelf 15 = .ok (.iconst 1, 1) := by decide +kernel
theorem dL_setShelf_16 : decode cL_setShelf 16 = .ok (.ireturn, 1) := by decide +kernel
theorem dL_setShelf_17 : decode cL_setShelf 17 = .ok (.astore 4, 2) := by decide +kernel
theorem dL_setShelf_19 : decode cL_setShelf 19 = .ok (.iconst 2, 1) := by decide +kernel
theorem dL_setShelf_20 : decode cL_setShelf 20 = .ok (.ireturn, 1) := by decide +kernel
theorem dL_setShelf_21 : decode cL_setShelf 21 = .ok (.iconst 0, 1) := by decide +kernel
theorem dL_setShelf_22 : decode cL_setShelf 22 = .ok (.ireturn, 1) := by decide +kernel
set_option maxRecDepth 20000 in
theorem ggL_hang_X8_hang : GoodIn wsL_hang wsX8_hang := goodIn_ca (goodIn_ca (goodIn_ca (goodIn_r _ [6, 7, 8, 9, 10, 11, 12, 13, 14, 15, 5, 16, 17, 18, 19, 20, 21, 22, 23, 24, 25, 26, 27, 28, 29, 30, 31, 32, 33, 34, 35, 36, 37, 38, 39, 40, 41, 42, 43, 44, 45, 46, 47, 48, 49, 50, 51, 52, 53, 54, 55, 56, 57, 58, 59, 60, 61, 62, 63, 64, 65, 66, 67, 68, 69, 70, 71, 72, 73, 74, 75, 76, 77, 78, 79, 80, 81, 82, 83, 84, 85, 86, 87, 88, 89, 90, 91, 92, 93, 94, 95, 96, 97, 98, 99, 100, 101, 102, 103, 104, 105, 106, 107, 108, 109, 110, 111, 112, 113, 114, 115, 116, 117, 118] (by decide +kernel) (by decide +kernel)) (goodIn_sub (fun _ h => List.mem_cons_of_mem _ (List.mem_append_left _ (List.mem_append_left _ (List.mem_append_right _ h)))) (by decide +kernel))) (goodIn_sub (fun _ h => List.mem_cons_of_mem _ (List.mem_append_left _ (List.mem_append_right _ h))) (by decide +kernel))) (goodIn_sub (fun _ h => List.mem_cons_of_mem _ (List.mem_append_right _ h)) (by decide +kernel))
set_option maxRecDepth 20000 in
theorem gL_hang_X8_hang : GoodIn wsL_hang (wsV RL 36 RX8 yX8_hang wsX8_hang) := goodIn_app (goodIn_of _ (by decide +kernel)) ggL_hang_X8_hang
theorem dL_hang_0 : decode cL_hang 0 = .ok (.aload_n 2, 1) := by decide +kernel
theorem dL_hang_1 : decode cL_hang 1 = .ok (.iconst 0, 1) := by decide +kernel
theorem dL_hang_2 : decode cL_hang 2 = .ok (.aload_n 0, 1) := by decide +kernel
theorem dL_hang_3 : decode cL_hang 3 = .ok (.iload_n 1, 1) := by decide +kernel
theorem dL_hang_4 : decode cL_hang 4 = .ok (.invokevirtual 36, 3) := by decide +kernel
theorem dL_hang_7 : decode cL_hang 7 = .ok (.i2l, 1) := by decide +kernel
theorem dL_hang_8 : decode cL_hang 8 = .ok (.lastore, 1) := by decide +kernel
theorem dL_hang_9 : decode cL_hang 9 = .ok (.goto 6, 3) := by decide +kernel
theorem dL_hang_12 : decode cL_hang 12 = .ok (.astore_n 3, 1) := by decide +kernel
theorem dL_hang_13 : decode cL_hang 13 = .ok (.iconst 1, 1) := by decide +kernel
theorem dL_hang_14 : decode cL_hang 14 = .ok (.ireturn, 1) := by decide +kernel
theorem dL_hang_15 : decode cL_hang 15 = .ok (.iconst 0, 1) := by decide +kernel
theorem dL_hang_16 : decode cL_hang 16 = .ok (.ireturn, 1) := by decide +kernel
set_option maxRecDepth 20000 in
theorem ggL_turnNut_X8_turnNut : GoodIn wsL_turnNut wsX8_turnNut := goodIn_ca (goodIn_ca (goodIn_ca (goodIn_r _ [7, 8, 9, 10, 11, 12, 13, 14, 15, 16, 17, 6, 18, 19, 20, 21, 22, 23, 24, 25, 26, 27, 28, 29, 30, 31, 32, 33, 34, 35, 36, 37, 38, 39, 40, 41, 42, 43, 44, 45, 46, 47, 48, 49, 50, 51, 52, 53, 54, 55, 56, 57, 58, 59, 60, 61, 62, 63, 64, 65, 66, 67, 68, 69, 70, 71, 72, 73, 74, 75, 76, 77, 78, 79, 80, 81, 82, 83, 84, 85, 86, 87, 88, 89, 90, 91, 92, 93, 94, 95, 96, 97, 98, 99, 100, 101, 102, 103, 104, 105, 106, 107, 108, 109, 110, 111, 112, 113, 114, 115, 116, 117, 118, 119] (by decide +kernel) (by decide +kernel)) (goodIn_sub (fun _ h => List.mem_cons_of_mem _ (List.mem_append_left _ (List.mem_append_left _ (List.mem_append_right _ h)))) (by decide +kernel))) (goodIn_sub (fun _ h => List.mem_cons_of_mem _ (List.mem_append_left _ (List.mem_append_right _ h))) (by decide +kernel))) (goodIn_sub (fun _ h => List.mem_cons_of_mem _ (List.mem_append_right _ h)) (by decide +kernel))
set_option maxRecDepth 20000 in
theorem gL_turnNut_X8_turnNut : GoodIn wsL_turnNut (wsV RL 39 RX8 yX8_turnNut wsX8_turnNut) := goodIn_app (goodIn_of _ (by decide +kernel)) ggL_turnNut_X8_turnNut
theorem dL_turnNut_0 : decode cL_turnNut 0 = .ok (.aload_n 2, 1) := by decide +kernel
theorem dL_turnNut_1 : decode cL_turnNut 1 = .ok (.iconst 0, 1) := by decide +kernel
theorem dL_turnNut_2 : decode cL_turnNut 2 = .ok (.aload_n 0, 1) := by decide +kernel
theorem dL_turnNut_3 : decode cL_turnNut 3 = .ok (.iload_n 1, 1) := by decide +kernel
theorem dL_turnNut_4 : decode cL_turnNut 4 = .ok (.invokevirtual 39, 3) := by decide +kernel
theorem dL_turnNut_7 : decode cL_turnNut 7 = .ok (.i2l, 1) := by decide +kernel
theorem dL_turnNut_8 : decode cL_turnNut 8 = .ok (.lastore, 1) := by decide +kernel
theorem dL_turnNut_9 : decode cL_turnNut 9 = .ok (.goto 9, 3) := by decide +kernel
theorem dL_turnNut_12 : decode cL_turnNut 12 = .ok (.astore_n 3, 1) := by decide +kernel
theorem dL_turnNut_13 : decode cL_turnNut 13 = .ok (.iconst 1, 1) := by decide +kernel
theorem dL_turnNut_14 : decode cL_turnNut 14 = .ok (.ireturn, 1) := by decide +kernel
theorem dL_turnNut_15 : decode cL_turnNut 15 = .ok (.astore_n 3, 1) := by decide +kernel
theorem dL_turnNut_16 : decode cL_turnNut 16 = .ok (.iconst 2, 1) := by decide +kernel
theorem dL_turnNut_17 : decode cL_turnNut 17 = .ok (.ireturn, 1) := by decide +kernel
theorem dL_turnNut_18 : decode cL_turnNut 18 = .ok (.iconst 0, 1) := by decide +kernel
theorem dL_turnNut_19 : decode cL_turnNut 19 = .ok (.ireturn, 1) := by decide +kernel
set_option maxRecDepth 20000 in
theorem ggL_set_X8_set : GoodIn wsL_set wsX8_set := goodIn_ca (goodIn_ca (goodIn_ca (goodIn_r _ [6, 7, 8, 9, 10, 11, 12, 13, 14, 15, 5, 16, 17, 18, 19, 20, 21, 22, 23, 24, 25, 26, 27, 28, 29, 30, 31, 32, 33, 34, 35, 36, 37, 38, 39, 40, 41, 42, 43, 44, 45, 46, 47, 48, 49, 50, 51, 52, 53, 54, 55, 56, 57, 58, 59, 60, 61, 62, 63, 64, 65, 66, 67, 68, 69, 70, 71, 72, 73, 74, 75, 76, 77, 78, 79, 80, 81, 82, 83, 84, 85, 86, 87, 88, 89, 90, 91, 92, 93, 94, 95, 96, 97, 98, 99, 100, 101, 102, 103, 104, 105, 106, 107, 108, 109, 110, 111, 112, 113, 114, 115, 116, 117, 118] (by decide +kernel) (by decide +kernel)) (goodIn_sub (fun _ h => List.mem_cons_of_mem _ (List.mem_append_left _ (List.mem_append_left _ (List.mem_append_right _ h)))) (by decide +kernel))) (goodIn_sub (fun _ h => List.mem_cons_of_mem _ (List.mem_append_left _ (List.mem_append_right _ h))) (by decide +kernel))) (goodIn_sub (fun _ h => List.mem_cons_of_mem _ (List.mem_append_right _ h)) (by decide +kernel))
set_option maxRecDepth 20000 in
theorem gL_set_X8_set : GoodIn wsL_set (wsV RL 42 RX8 yX8_set wsX8_set) := goodIn_app (goodIn_of _ (by decide +kernel)) ggL_set_X8_set
theorem dL_set_0 : decode cL_set 0 = .ok (.aload_n 3, 1) := by decide +kernel
theorem dL_set_1 : decode cL_set 1 = .ok (.iconst 0, 1) := by decide +kernel
theorem dL_set_2 : decode cL_set 2 = .ok (.aload_n 0, 1) := by decide +kernel
theorem dL_set_3 : decode cL_set 3 = .ok (.iload_n 1, 1) := by decide +kernel
theorem dL_set_4 : decode cL_set 4 = .ok (.iload_n 2, 1) := by decide +kernel
theorem dL_set_5 : decode cL_set 5 = .ok (.invokevirtual 42, 3) := by decide +kernel
theorem dL_set_8 : decode cL_set 8 = .ok (.i2l, 1) := by decide +kernel
theorem dL_set_9 : decode cL_set 9 = .ok (.lastore, 1) := by decide +kernel
theorem dL_set_10 : decode cL_set 10 = .ok (.goto 7, 3) := by decide +kernel
theorem dL_set_13 : decode cL_set 13 = .ok (.astore 4, 2) := by decide +kernel
theorem dL_set_15 : decode cL_set 15 = .ok (.iconst 1, 1) := by decide +kernel
theorem dL_set_16 : decode cL_set 16 = .ok (.ireturn, 1) := by decide +kernel
theorem dL_set_17 : decode cL_set 17 = .ok (.iconst 0, 1) := by decide +kernel
theorem dL_set_18 : decode cL_set 18 = .ok (.ireturn, 1) := by decide +kernel
set_option maxRecDepth 20000 in
theorem ggL_pass_X8_pass : GoodIn wsL_pass wsX8_pass := goodIn_ca (goodIn_ca (goodIn_ca (goodIn_r _ [7, 8, 9, 10, 11, 12, 13, 14, 15, 16, 17, 18, 6, 19, 20, 21, 22, 23, 24, 25, 26, 27, 28, 29, 30, 31, 32, 33, 34, 35, 36, 37, 38, 39, 40, 41, 42, 43, 44, 45, 46, 47, 48, 49, 50, 51, 52, 53, 54, 55, 56, 57, 58, 59, 60, 61, 62, 63, 64, 65, 66, 67, 68, 69, 70, 71, 72, 73, 74, 75, 76, 77, 78, 79, 80, 81, 82, 83, 84, 85, 86, 87, 88, 89, 90, 91, 92, 93, 94, 95, 96, 97, 98, 99, 100, 101, 102, 103, 104, 105, 106, 107, 108, 109, 110, 111, 112, 113, 114, 115, 116, 117, 118, 119, 120, 121, 122, 123, 124, 125, 126, 127, 128, 129, 130, 131, 132, 133, 134, 135, 136, 137, 138, 139, 140, 141, 142, 143, 144, 145, 146, 147, 148, 149, 150, 151, 152, 153, 154, 155, 156, 157, 158, 159, 160, 161, 162, 163, 164, 165, 166, 167, 168, 169, 170, 171, 172, 173, 174, 175, 176, 177, 178, 179, 180, 181, 182, 183, 184, 185, 186, 187, 188, 189, 190, 191, 192, 193, 194, 195, 196, 197, 198, 199, 200, 201, 202, 203] (by decide +kernel) (by decide +kernel)) (goodIn_sub (fun _ h => List.mem_cons_of_mem _ (List.mem_append_left _ (List.mem_append_left _ (List.mem_append_right _ h)))) (by decide +kernel))) (goodIn_sub (fun _ h => List.mem_cons_of_mem _ (List.mem_append_left _ (List.mem_append_right _ h))) (by decide +kernel))) (goodIn_sub (fun _ h => List.mem_cons_of_mem _ (List.mem_append_right _ h)) (by decide +kernel))
set_option maxRecDepth 20000 in
theorem gL_pass_X8_pass : GoodIn wsL_pass (wsV RL 45 RX8 yX8_pass wsX8_pass) := goodIn_app (goodIn_of _ (by decide +kernel)) ggL_pass_X8_pass
theorem dL_pass_0 : decode cL_pass 0 = .ok (.aload_n 2, 1) := by decide +kernel
theorem dL_pass_1 : decode cL_pass 1 = .ok (.iconst 0, 1) := by decide +kernel
theorem dL_pass_2 : decode cL_pass 2 = .ok (.aload_n 0, 1) := by decide +kernel
theorem dL_pass_3 : decode cL_pass 3 = .ok (.iload_n 1, 1) := by decide +kernel
theorem dL_pass_4 : decode cL_pass 4 = .ok (.invokevirtual 45, 3) := by decide +kernel
theorem dL_pass_7 : decode cL_pass 7 = .ok (.i2l, 1) := by decide +kernel
theorem dL_pass_8 : decode cL_pass 8 = .ok (.lastore, 1) := by decide +kernel
theorem dL_pass_9 : decode cL_pass 9 = .ok (.goto 9, 3) := by decide +kernel
theorem dL_pass_12 : decode cL_pass 12 = .ok (.astore_n 3, 1) := by decide +kernel
theorem dL_pass_13 : decode cL_pass 13 = .ok (.iconst 1, 1) := by decide +kernel
theorem dL_pass_14 : decode cL_pass 14 = .ok (.ireturn, 1) := by decide +kernel
theorem dL_pass_15 : decode cL_pass 15 = .ok (.astore_n 3, 1) := by decide +kernel
theorem dL_pass_16 : decode cL_pass 16 = .ok (.iconst 2, 1) := by decide +kernel
theorem dL_pass_17 : decode cL_pass 17 = .ok (.ireturn, 1) := by decide +kernel
theorem dL_pass_18 : decode cL_pass 18 = .ok (.iconst 0, 1) := by decide +kernel
theorem dL_pass_19 : decode cL_pass 19 = .ok (.ireturn, 1) := by decide +kernel
set_option maxRecDepth 20000 in
theorem ggL_rod_X8_rod : GoodIn wsL_rod wsX8_rod := goodIn_ca (goodIn_ca (goodIn_ca (goodIn_r _ [7, 8, 9, 10, 11, 12, 13, 14, 15, 16, 17, 18, 19, 20, 21, 22, 6, 23, 24, 25, 26, 27, 28, 29, 30, 31, 32, 33, 34, 35, 36, 37, 38, 39, 40, 41, 42, 43, 44, 45, 46, 47, 48, 49, 50, 51, 52, 53, 54, 55, 56, 57, 58, 59, 60, 61, 62, 63, 64, 65, 66, 67, 68, 69, 70, 71, 72, 73, 74, 75, 76, 77, 78, 79] (by decide +kernel) (by decide +kernel)) (goodIn_sub (fun _ h => List.mem_cons_of_mem _ (List.mem_append_left _ (List.mem_append_left _ (List.mem_append_right _ h)))) (by decide +kernel))) (goodIn_sub (fun _ h => List.mem_cons_of_mem _ (List.mem_append_left _ (List.mem_append_right _ h))) (by decide +kernel))) (goodIn_sub (fun _ h => List.mem_cons_of_mem _ (List.mem_append_right _ h)) (by decide +kernel))
set_option maxRecDepth 20000 in
theorem gL_rod_X8_rod : GoodIn wsL_rod (wsV RL 48 RX8 yX8_rod wsX8_rod) := goodIn_app (goodIn_of _ (by decide +kernel)) ggL_rod_X8_rod
theorem dL_rod_0 : decode cL_rod 0 = .ok (.aload_n 3, 1) := by decide +kernel
theorem dL_rod_1 : decode cL_rod 1 = .ok (.iconst 0, 1) := by decide +kernel
theorem dL_rod_2 : decode cL_rod 2 = .ok (.aload_n 0, 1) := by decide +kernel
theorem dL_rod_3 : decode cL_rod 3 = .ok (.iload_n 1, 1) := by decide +kernel
theorem dL_rod_4 : decode cL_rod 4 = .ok (.iload_n 2, 1) := by decide +kernel
theorem dL_rod_5 : decode cL_rod 5 = .ok (.invokevirtual 48, 3) := by decide +kernel
theorem dL_rod_8 : decode cL_rod 8 = .ok (.i2l, 1) := by decide +kernel
theorem dL_rod_9 : decode cL_rod 9 = .ok (.lastore, 1) := by decide +kernel
theorem dL_rod_10 : decode cL_rod 10 = .ok (.goto 11, 3) := by decide +kernel
theorem dL_rod_13 : decode cL_rod 13 = .ok (.astore 4, 2) := by decide +kernel
theorem dL_rod_15 : decode cL_rod 15 = .ok (.iconst 1, 1) := by decide +kernel
theorem dL_rod_16 : decode cL_rod 16 = .ok (.ireturn, 1) := by decide +kernel
theorem dL_rod_17 : decode cL_rod 17 = .ok (.astore 4, 2) := by decide +kernel
theorem dL_rod_19 : decode cL_rod 19 = .ok (.iconst 2, 1) := by decide +kernel
theorem dL_rod_20 : decode cL_rod 20 = .ok (.ireturn, 1) := by decide +kernel
theorem dL_rod_21 : decode cL_rod 21 = .ok (.iconst 0, 1) := by decide +kernel
theorem dL_rod_22 : decode cL_rod 22 = .ok (.ireturn, 1) := by decide +kernel
set_option maxRecDepth 20000 in
theorem ggL_stretch_X8_stretch : GoodIn wsL_stretch wsX8_stretch := goodIn_ca (goodIn_ca (goodIn_ca (goodIn_r _ [6, 7, 8, 9, 10, 11, 12, 13, 14, 15, 16, 17, 18, 19, 5, 20, 21, 22, 23, 24, 25, 26, 27, 28, 29, 30, 31, 32, 33, 34, 35, 36, 37, 38, 39, 40, 41, 42, 43, 44, 45, 46] (by decide +kernel) (by decide +kernel)) (goodIn_sub (fun _ h => List.mem_cons_of_mem _ (List.mem_append_left _ (List.mem_append_left _ (List.mem_append_right _ h)))) (by decide +kernel))) (goodIn_sub (fun _ h => List.mem_cons_of_mem _ (List.mem_append_left _ (List.mem_append_right _ h))) (by decide +kernel))) (goodIn_sub (fun _ h => List.mem_cons_of_mem _ (List.mem_append_right _ h)) (by decide +kernel))
set_option maxRecDepth 20000 in
theorem gL_stretch_X8_stretch : GoodIn wsL_stretch (wsV RL 51 RX8 yX8_stretch wsX8_stretch) := goodIn_app (goodIn_of _ (by decide +kernel)) ggL_stretch_X8_stretch
theorem dL_stretch_0 : decode cL_stretch 0 = .ok (.aload_n 2, 1) := by decide +kernel
theorem dL_stretch_1 : decode cL_stretch 1 = .ok (.iconst 0, 1) := by decide +kernel
theorem dL_stretch_2 : decode cL_stretch 2 = .ok (.aload_n 0, 1) := by decide +kernel
theorem dL_stretch_3 : decode cL_stretch 3 = .ok (.iload_n 1, 1) := by decide +kernel
theorem dL_stretch_4 : decode cL_stretch 4 = .ok (.invokevirtual 51, 3) := by decide +kernel
theorem dL_stretch_7 : decode cL_stretch 7 = .ok (.i2l, 1) := by decide +kernel
theorem dL_stretch_8 : decode cL_stretch 8 = .ok (.lastore, 1) := by decide +kernel
theorem dL_stretch_9 : decode cL_stretch 9 = .ok (.goto 6, 3) := by decide +kernel
theorem dL_stretch_12 : decode cL_stretch 12 = .ok (.astore_n 3, 1) := by decide +kernel
theorem dL_stretch_13 : decode cL_stretch 13 = .ok (.iconst 1, 1) := by decide +kernel
theorem dL_stretch_14 : decode cL_stretch 14 = .ok (.ireturn, 1) := by decide +kernel
theorem dL_stretch_15 : decode cL_stretch 15 = .ok (.iconst 0, 1) := by decide +kernel
theorem dL_stretch_16 : decode cL_stretch 16 = .ok (.ireturn, 1) := by decide +kernel
set_option maxRecDepth 20000 in
theorem ggL_shelf_X8_shelf : GoodIn wsL_shelf wsX8_shelf := goodIn_ca (goodIn_ca (goodIn_ca (goodIn_r _ [6, 7, 8, 9, 10, 11, 12, 13, 14, 5, 15, 16, 17, 18, 19, 20, 21, 22, 23, 24, 25, 26, 27, 28, 29, 30, 31, 32, 33, 34, 35, 36, 37, 38, 39, 40, 41, 42, 43, 44, 45, 46, 47] (by decide +kernel) (by decide +kernel)) (goodIn_sub (fun _ h => List.mem_cons_of_mem _ (List.mem_append_left _ (List.mem_append_left _ (List.mem_append_right _ h)))) (by decide +kernel))) (goodIn_sub (fun _ h => List.mem_cons_of_mem _ (List.mem_append_left _ (List.mem_append_right _ h))) (by decide +kernel))) (goodIn_sub (fun _ h => List.mem_cons_of_mem _ (List.mem_append_right _ h)) (by decide +kernel))
set_option maxRecDepth 20000 in
theorem gL_shelf_X8_shelf : GoodIn wsL_shelf (wsV RL 54 RX8 yX8_shelf wsX8_shelf) := goodIn_app (goodIn_of _ (by decide +kernel)) ggL_shelf_X8_shelf
theorem dL_shelf_0 : decode cL_shelf 0 = .ok (.aload_n 2, 1) := by decide +kernel
theorem dL_shelf_1 : decode cL_shelf 1 = .ok (.iconst 0, 1) := by decide +kernel
theorem dL_shelf_2 : decode cL_shelf 2 = .ok (.aload_n 0, 1) := by decide +kernel
theorem dL_shelf_3 : decode cL_shelf 3 = .ok (.iload_n 1, 1) := by decide +kernel
theorem dL_shelf_4 : decode cL_shelf 4 = .ok (.invokevirtual 54, 3) := by decide +kernel
theorem dL_shelf_7 : decode cL_shelf 7 = .ok (.i2l, 1) := by decide +kernel
theorem dL_shelf_8 : decode cL_shelf 8 = .ok (.lastore, 1) := by decide +kernel
theorem dL_shelf_9 : decode cL_shelf 9 = .ok (.goto 6, 3) := by decide +kernel
theorem dL_shelf_12 : decode cL_shelf 12 = .ok (.astore_n 3, 1) := by decide +kernel
theorem dL_shelf_13 : decode cL_shelf 13 = .ok (.iconst 1, 1) := by decide +kernel
theorem dL_shelf_14 : decode cL_shelf 14 = .ok (.ireturn, 1) := by decide +kernel
theorem dL_shelf_15 : decode cL_shelf 15 = .ok (.iconst 0, 1) := by decide +kernel
theorem dL_shelf_16 : decode cL_shelf 16 = .ok (.ireturn, 1) := by decide +kernel
set_option maxRecDepth 20000 in
theorem ggL_whole_X8_whole : GoodIn wsL_whole wsX8_whole := goodIn_ca (goodIn_ca (goodIn_ca (goodIn_r _ [6, 7, 8, 9, 10, 11, 5, 12, 13, 14, 15, 16, 17, 18, 19, 20, 21, 22, 23, 24, 25, 26, 27, 28, 29, 30, 31, 32, 33, 34, 35, 36, 37, 38, 39, 40, 41, 42, 43, 44, 45, 46, 47, 48, 49, 50, 51, 52, 53, 54, 55, 56, 57, 58, 59, 60, 61, 62, 63, 64, 65, 66, 67, 68, 69, 70, 71, 72, 73, 74, 75, 76, 77, 78, 79, 80, 81, 82, 83, 84, 85, 86, 87, 88, 89, 90, 91, 92, 93, 94, 95, 96, 97, 98, 99, 100, 101, 102, 103, 104, 105, 106, 107, 108, 109, 110, 111, 112, 113, 114, 115, 116, 117, 118, 119, 120, 121, 122, 123, 124, 125, 126, 127, 128, 129, 130, 131, 132, 133, 134, 135, 136] (by decide +kernel) (by decide +kernel)) (goodIn_sub (fun _ h => List.mem_cons_of_mem _ (List.mem_append_left _ (List.mem_append_left _ (List.mem_append_right _ h)))) (by decide +kernel))) (goodIn_sub (fun _ h => List.mem_cons_of_mem _ (List.mem_append_left _ (List.mem_append_right _ h))) (by decide +kernel))) (goodIn_sub (fun _ h => List.mem_cons_of_mem _ (List.mem_append_right _ h)) (by decide +kernel))
set_option maxRecDepth 20000 in
theorem gL_whole_X8_whole : GoodIn wsL_whole (wsV RL 57 RX8 yX8_whole wsX8_whole) := goodIn_app (goodIn_of _ (by decide +kernel)) ggL_whole_X8_whole
theorem dL_whole_0 : decode cL_whole 0 = .ok (.aload_n 2, 1) := by decide +kernel
theorem dL_whole_1 : decode cL_whole 1 = .ok (.iconst 0, 1) := by decide +kernel
theorem dL_whole_2 : decode cL_whole 2 = .ok (.aload_n 0, 1) := by decide +kernel
theorem dL_whole_3 : decode cL_whole 3 = .ok (.iload_n 1, 1) := by decide +kernel
theorem dL_whole_4 : decode cL_whole 4 = .ok (.invokevirtual 57, 3) := by decide +kernel
theorem dL_whole_7 : decode cL_whole 7 = .ok (.i2l, 1) := by decide +kernel
theorem dL_whole_8 : decode cL_whole 8 = .ok (.lastore, 1) := by decide +kernel
theorem dL_whole_9 : decode cL_whole 9 = .ok (.goto 6, 3) := by decide +kernel
theorem dL_whole_12 : decode cL_whole 12 = .ok (.astore_n 3, 1) := by decide +kernel
theorem dL_whole_13 : decode cL_whole 13 = .ok (.iconst 1, 1) := by decide +kernel
theorem dL_whole_14 : decode cL_whole 14 = .ok (.ireturn, 1) := by decide +kernel
theorem dL_whole_15 : decode cL_whole 15 = .ok (.iconst 0, 1) := by decide +kernel
theorem dL_whole_16 : decode cL_whole 16 = .ok (.ireturn, 1) := by decide +kernel
set_option maxRecDepth 20000 in
theorem ggL_day_X8_day : GoodIn wsL_day wsX8_day := goodIn_ca (goodIn_ca (goodIn_ca (goodIn_r _ [6, 7, 8, 9, 10, 5, 11, 12, 13, 14, 15, 16, 17, 18, 19, 20, 21, 22, 23, 24, 25, 26, 27, 28, 29, 30, 31, 32, 33, 34, 35, 36] (by decide +kernel) (by decide +kernel)) (goodIn_sub (fun _ h => List.mem_cons_of_mem _ (List.mem_append_left _ (List.mem_append_left _ (List.mem_append_right _ h)))) (by decide +kernel))) (goodIn_sub (fun _ h => List.mem_cons_of_mem _ (List.mem_append_left _ (List.mem_append_right _ h))) (by decide +kernel))) (goodIn_sub (fun _ h => List.mem_cons_of_mem _ (List.mem_append_right _ h)) (by decide +kernel))
set_option maxRecDepth 20000 in
theorem gL_day_X8_day : GoodIn wsL_day (wsV RL 60 RX8 yX8_day wsX8_day) := goodIn_app (goodIn_of _ (by decide +kernel)) ggL_day_X8_day
theorem dL_day_0 : decode cL_day 0 = .ok (.aload_n 3, 1) := by decide +kernel
theorem dL_day_1 : decode cL_day 1 = .ok (.iconst 0, 1) := by decide +kernel
theorem dL_day_2 : decode cL_day 2 = .ok (.aload_n 0, 1) := by decide +kernel
theorem dL_day_3 : decode cL_day 3 = .ok (.iload_n 1, 1) := by decide +kernel
theorem dL_day_4 : decode cL_day 4 = .ok (.iload_n 2, 1) := by decide +kernel
theorem dL_day_5 : decode cL_day 5 = .ok (.invokevirtual 60, 3) := by decide +kernel
theorem dL_day_8 : decode cL_day 8 = .ok (.lastore, 1) := by decide +kernel
theorem dL_day_9 : decode cL_day 9 = .ok (.goto 7, 3) := by decide +kernel
theorem dL_day_12 : decode cL_day 12 = .ok (.astore 4, 2) := by decide +kernel
theorem dL_day_14 : decode cL_day 14 = .ok (.iconst 1, 1) := by decide +kernel
theorem dL_day_15 : decode cL_day 15 = .ok (.ireturn, 1) := by decide +kernel
theorem dL_day_16 : decode cL_day 16 = .ok (.iconst 0, 1) := by decide +kernel
theorem dL_day_17 : decode cL_day 17 = .ok (.ireturn, 1) := by decide +kernel
set_option maxRecDepth 20000 in
theorem ggL_rateAt_X8_rateAt : GoodIn wsL_rateAt wsX8_rateAt := goodIn_ca (goodIn_ca (goodIn_ca (goodIn_r _ [6, 7, 8, 9, 10, 11, 5, 12, 13, 14, 15, 16, 17, 18, 19, 20, 21, 22, 23, 24, 25, 26, 27, 28, 29, 30, 31, 32, 33, 34, 35, 36, 37, 38, 39, 40, 41, 42, 43, 44, 45, 46, 47, 48, 49, 50, 51, 52, 53, 54, 55, 56, 57, 58, 59, 60, 61, 62, 63, 64, 65, 66, 67, 68, 69, 70, 71, 72, 73, 74, 75, 76, 77, 78, 79, 80, 81, 82, 83, 84, 85, 86, 87, 88, 89, 90, 91, 92, 93, 94, 95, 96, 97, 98, 99, 100, 101, 102, 103, 104, 105, 106, 107, 108, 109, 110, 111] (by decide +kernel) (by decide +kernel)) (goodIn_sub (fun _ h => List.mem_cons_of_mem _ (List.mem_append_left _ (List.mem_append_left _ (List.mem_append_right _ h)))) (by decide +kernel))) (goodIn_sub (fun _ h => List.mem_cons_of_mem _ (List.mem_append_left _ (List.mem_append_right _ h))) (by decide +kernel))) (goodIn_sub (fun _ h => List.mem_cons_of_mem _ (List.mem_append_right _ h)) (by decide +kernel))
set_option maxRecDepth 20000 in
theorem gL_rateAt_X8_rateAt : GoodIn wsL_rateAt (wsV RL 64 RX8 yX8_rateAt wsX8_rateAt) := goodIn_app (goodIn_of _ (by decide +kernel)) ggL_rateAt_X8_rateAt
theorem dL_rateAt_0 : decode cL_rateAt 0 = .ok (.aload_n 2, 1) := by decide +kernel
theorem dL_rateAt_1 : decode cL_rateAt 1 = .ok (.iconst 0, 1) := by decide +kernel
theorem dL_rateAt_2 : decode cL_rateAt 2 = .ok (.aload_n 0, 1) := by decide +kernel
theorem dL_rateAt_3 : decode cL_rateAt 3 = .ok (.iload_n 1, 1) := by decide +kernel
theorem dL_rateAt_4 : decode cL_rateAt 4 = .ok (.invokevirtual 64, 3) := by decide +kernel
theorem dL_rateAt_7 : decode cL_rateAt 7 = .ok (.i2l, 1) := by decide +kernel
theorem dL_rateAt_8 : decode cL_rateAt 8 = .ok (.lastore, 1) := by decide +kernel
theorem dL_rateAt_9 : decode cL_rateAt 9 = .ok (.goto 6, 3) := by decide +kernel
theorem dL_rateAt_12 : decode cL_rateAt 12 = .ok (.astore_n 3, 1) := by decide +kernel
theorem dL_rateAt_13 : decode cL_rateAt 13 = .ok (.iconst 1, 1) := by decide +kernel
theorem dL_rateAt_14 : decode cL_rateAt 14 = .ok (.ireturn, 1) := by decide +kernel
theorem dL_rateAt_15 : decode cL_rateAt 15 = .ok (.iconst 0, 1) := by decide +kernel
theorem dL_rateAt_16 : decode cL_rateAt 16 = .ok (.ireturn, 1) := by decide +kernel
set_option maxRecDepth 20000 in
theorem ggL_matchLength_X8_matchLength : GoodIn wsL_matchLength wsX8_matchLength := goodIn_ca (goodIn_ca (goodIn_ca (goodIn_r _ [6, 7, 8, 9, 10, 11, 12, 13, 14, 15, 16, 17, 18, 19, 5, 20, 21, 22, 23, 24, 25, 26, 27, 28, 29, 30, 31, 32, 33, 34, 35, 36, 37, 38, 39, 40, 41, 42, 43, 44, 45, 46, 47, 48, 49, 50, 51, 52, 53, 54, 55, 56, 57, 58, 59, 60, 61, 62, 63, 64, 65, 66, 67, 68, 69, 70, 71, 72, 73, 74, 75, 76, 77, 78, 79, 80, 81] (by decide +kernel) (by decide +kernel)) (goodIn_sub (fun _ h => List.mem_cons_of_mem _ (List.mem_append_left _ (List.mem_append_left _ (List.mem_append_right _ h)))) (by decide +kernel))) (goodIn_sub (fun _ h => List.mem_cons_of_mem _ (List.mem_append_left _ (List.mem_append_right _ h))) (by decide +kernel))) (goodIn_sub (fun _ h => List.mem_cons_of_mem _ (List.mem_append_right _ h)) (by decide +kernel))
set_option maxRecDepth 20000 in
theorem gL_matchLength_X8_matchLength : GoodIn wsL_matchLength (wsV RL 67 RX8 yX8_matchLength wsX8_matchLength) := goodIn_app (goodIn_of _ (by decide +kernel)) ggL_matchLength_X8_matchLength
theorem dL_matchLength_0 : decode cL_matchLength 0 = .ok (.aload_n 2, 1) := by decide +kernel
theorem dL_matchLength_1 : decode cL_matchLength 1 = .ok (.iconst 0, 1) := by decide +kernel
theorem dL_matchLength_2 : decode cL_matchLength 2 = .ok (.aload_n 0, 1) := by decide +kernel
theorem dL_matchLength_3 : decode cL_matchLength 3 = .ok (.iload_n 1, 1) := by decide +kernel
theorem dL_matchLength_4 : decode cL_matchLength 4 = .ok (.invokevirtual 67, 3) := by decide +kernel
theorem dL_matchLength_7 : decode cL_matchLength 7 = .ok (.i2l, 1) := by decide +kernel
theorem dL_matchLength_8 : decode cL_matchLength 8 = .ok (.lastore, 1) := by decide +kernel
theorem dL_matchLength_9 : decode cL_matchLength 9 = .ok (.goto 6, 3) := by decide +kernel
theorem dL_matchLength_12 : decode cL_matchLength 12 = .ok (.astore_n 3, 1) := by decide +kernel
theorem dL_matchLength_13 : decode cL_matchLength 13 = .ok (.iconst 1, 1) := by decide +kernel
theorem dL_matchLength_14 : decode cL_matchLength 14 = .ok (.ireturn, 1) := by decide +kernel
theorem dL_matchLength_15 : decode cL_matchLength 15 = .ok (.iconst 0, 1) := by decide +kernel
theorem dL_matchLength_16 : decode cL_matchLength 16 = .ok (.ireturn, 1) := by decide +kernel
set_option maxRecDepth 20000 in
theorem ggL_rangeOfRates_X8_rangeOfRates : GoodIn wsL_rangeOfRates wsX8_rangeOfRates := goodIn_ca (goodIn_ca (goodIn_ca (goodIn_r _ [6, 7, 8, 9, 5, 10, 11, 12, 13, 14, 15, 16, 17, 18, 19, 20, 21, 22, 23, 24, 25, 26, 27, 28, 29, 30, 31, 32, 33, 34, 35, 36, 37, 38, 39, 40, 41, 42, 43, 44, 45, 46, 47, 48, 49, 50, 51, 52, 53, 54, 55, 56, 57, 58, 59, 60, 61, 62, 63, 64, 65, 66, 67, 68, 69, 70, 71, 72, 73, 74, 75, 76, 77, 78, 79, 80, 81, 82, 83, 84, 85, 86, 87, 88, 89, 90, 91, 92, 93, 94, 95, 96, 97, 98, 99, 100, 101, 102, 103, 104, 105, 106, 107, 108, 109, 110, 111, 112, 113, 114, 115, 116, 117, 118, 119, 120] (by decide +kernel) (by decide +kernel)) (goodIn_sub (fun _ h => List.mem_cons_of_mem _ (List.mem_append_left _ (List.mem_append_left _ (List.mem_append_right _ h)))) (by decide +kernel))) (goodIn_sub (fun _ h => List.mem_cons_of_mem _ (List.mem_append_left _ (List.mem_append_right _ h))) (by decide +kernel))) (goodIn_sub (fun _ h => List.mem_cons_of_mem _ (List.mem_append_right _ h)) (by decide +kernel))
set_option maxRecDepth 20000 in
theorem gL_rangeOfRates_X8_rangeOfRates : GoodIn wsL_rangeOfRates (wsV RL 70 RX8 yX8_rangeOfRates wsX8_rangeOfRates) := goodIn_app (goodIn_of _ (by decide +kernel)) ggL_rangeOfRates_X8_rangeOfRates
theorem dL_rangeOfRates_0 : decode cL_rangeOfRates 0 = .ok (.aload_n 3, 1) := by decide +kernel
theorem dL_rangeOfRates_1 : decode cL_rangeOfRates 1 = .ok (.iconst 0, 1) := by decide +kernel
theorem dL_rangeOfRates_2 : decode cL_rangeOfRates 2 = .ok (.aload_n 0, 1) := by decide +kernel
theorem dL_rangeOfRates_3 : decode cL_rangeOfRates 3 = .ok (.iload_n 1, 1) := by decide +kernel
theorem dL_rangeOfRates_4 : decode cL_rangeOfRates 4 = .ok (.iload_n 2, 1) := by decide +kernel
theorem dL_rangeOfRates_5 : decode cL_rangeOfRates 5 = .ok (.invokevirtual 70, 3) := by decide +kernel
theorem dL_rangeOfRates_8 : decode cL_rangeOfRates 8 = .ok (.i2l, 1) := by decide +kernel
theorem dL_rangeOfRates_9 : decode cL_rangeOfRates 9 = .ok (.lastore, 1) := by decide +kernel
theorem dL_rangeOfRates_10 : decode cL_rangeOfRates 10 = .ok (.goto 7, 3) := by decide +kernel
theorem dL_rangeOfRates_13 : decode cL_rangeOfRates 13 = .ok (.astore 4, 2) := by decide +kernel
theorem dL_rangeOfRates_15 : decode cL_rangeOfRates 15 = .ok (.iconst 1, 1) := by decide +kernel
theorem dL_rangeOfRates_16 : decode cL_rangeOfRates 16 = .ok (.ireturn, 1) := by decide +kernel
theorem dL_rangeOfRates_17 : decode cL_rangeOfRates 17 = .ok (.iconst 0, 1) := by decide +kernel
theorem dL_rangeOfRates_18 : decode cL_rangeOfRates 18 = .ok (.ireturn, 1) := by decide +kernel
set_option maxRecDepth 20000 in
theorem ggL_changeWithin_X8_changeWithin : GoodIn wsL_changeWithin wsX8_changeWithin := goodIn_ca (goodIn_ca (goodIn_ca (goodIn_r _ [6, 7, 8, 9, 5, 10, 11, 12, 13, 14, 15, 16, 17, 18, 19, 20, 21, 22, 23, 24, 25, 26, 27, 28, 29, 30, 31, 32, 33, 34, 35, 36, 37, 38, 39, 40, 41, 42, 43, 44, 45, 46, 47, 48, 49, 50, 51, 52, 53, 54, 55, 56, 57, 58, 59, 60, 61, 62, 63, 64, 65, 66, 67, 68, 69, 70, 71, 72, 73, 74, 75, 76, 77, 78, 79, 80, 81, 82, 83, 84, 85, 86, 87, 88, 89, 90, 91, 92, 93, 94, 95, 96, 97, 98, 99, 100, 101, 102, 103, 104, 105, 106, 107, 108, 109, 110, 111, 112, 113, 114, 115, 116, 117, 118, 119, 120, 121, 122] (by decide +kernel) (by decide +kernel)) (goodIn_sub (fun _ h => List.mem_cons_of_mem _ (List.mem_append_left _ (List.mem_append_left _ (List.mem_append_right _ h)))) (by decide +kernel))) (goodIn_sub (fun _ h => List.mem_cons_of_mem _ (List.mem_append_left _ (List.mem_append_right _ h))) (by decide +kernel))) (goodIn_sub (fun _ h => List.mem_cons_of_mem _ (List.mem_append_right _ h)) (by decide +kernel))
set_option maxRecDepth 20000 in
theorem gL_changeWithin_X8_changeWithin : GoodIn wsL_changeWithin (wsV RL 73 RX8 yX8_changeWithin wsX8_changeWithin) := goodIn_app (goodIn_of _ (by decide +kernel)) ggL_changeWithin_X8_changeWithin
theorem dL_changeWithin_0 : decode cL_changeWithin 0 = .ok (.aload_n 2, 1) := by decide +kernel
theorem dL_changeWithin_1 : decode cL_changeWithin 1 = .ok (.iconst 0, 1) := by decide +kernel
theorem dL_changeWithin_2 : decode cL_changeWithin 2 = .ok (.aload_n 0, 1) := by decide +kernel
theorem dL_changeWithin_3 : decode cL_changeWithin 3 = .ok (.iload_n 1, 1) := by decide +kernel
theorem dL_changeWithin_4 : decode cL_changeWithin 4 = .ok (.invokevirtual 73, 3) := by decide +kernel
theorem dL_changeWithin_7 : decode cL_changeWithin 7 = .ok (.lastore, 1) := by decide +kernel
theorem dL_changeWithin_8 : decode cL_changeWithin 8 = .ok (.goto 6, 3) := by decide +kernel
theorem dL_changeWithin_11 : decode cL_changeWithin 11 = .ok (.astore_n 3, 1) := by decide +kernel
theorem dL_changeWithin_12 : decode cL_changeWithin 12 = .ok (.iconst 1, 1) := by decide +kernel
theorem dL_changeWithin_13 : decode cL_changeWithin 13 = .ok (.ireturn, 1) := by decide +kernel
theorem dL_changeWithin_14 : decode cL_changeWithin 14 = .ok (.iconst 0, 1) := by decide +kernel
theorem dL_changeWithin_15 : decode cL_changeWithin 15 = .ok (.ireturn, 1) := by decide +kernel
set_option maxRecDepth 20000 in
theorem ggL_type_X8_type : GoodIn wsL_type wsX8_type := goodIn_ca (goodIn_ca (goodIn_ca (goodIn_r _ [7, 8, 9, 10, 11, 12, 13, 14, 15, 6, 16, 17, 18, 19, 20, 21, 22, 23, 24, 25, 26, 27, 28, 29, 30, 31, 32, 33, 34, 35, 36, 37, 38, 39, 40] (by decide +kernel) (by decide +kernel)) (goodIn_sub (fun _ h => List.mem_cons_of_mem _ (List.mem_append_left _ (List.mem_append_left _ (List.mem_append_right _ h)))) (by decide +kernel))) (goodIn_sub (fun _ h => List.mem_cons_of_mem _ (List.mem_append_left _ (List.mem_append_right _ h))) (by decide +kernel))) (goodIn_sub (fun _ h => List.mem_cons_of_mem _ (List.mem_append_right _ h)) (by decide +kernel))
set_option maxRecDepth 20000 in
theorem gL_type_X8_type : GoodIn wsL_type (wsV RL 77 RX8 yX8_type wsX8_type) := goodIn_app (goodIn_of _ (by decide +kernel)) ggL_type_X8_type
theorem dL_type_0 : decode cL_type 0 = .ok (.aload_n 2, 1) := by decide +kernel
theorem dL_type_1 : decode cL_type 1 = .ok (.iconst 0, 1) := by decide +kernel
theorem dL_type_2 : decode cL_type 2 = .ok (.aload_n 0, 1) := by decide +kernel
theorem dL_type_3 : decode cL_type 3 = .ok (.iload_n 1, 1) := by decide +kernel
theorem dL_type_4 : decode cL_type 4 = .ok (.invokevirtual 77, 3) := by decide +kernel
theorem dL_type_7 : decode cL_type 7 = .ok (.i2l, 1) := by decide +kernel
theorem dL_type_8 : decode cL_type 8 = .ok (.lastore, 1) := by decide +kernel
theorem dL_type_9 : decode cL_type 9 = .ok (.goto 9, 3) := by decide +kernel
theorem dL_type_12 : decode cL_type 12 = .ok (.astore_n 3, 1) := by decide +kernel
theorem dL_type_13 : decode cL_type 13 = .ok (.iconst 1, 1) := by decide +kernel
theorem dL_type_14 : decode cL_type 14 = .ok (.ireturn, 1) := by decide +kernel
theorem dL_type_15 : decode cL_type 15 = .ok (.astore_n 3, 1) := by decide +kernel
theorem dL_type_16 : decode cL_type 16 = .ok (.iconst 2, 1) := by decide +kernel
theorem dL_type_17 : decode cL_type 17 = .ok (.ireturn, 1) := by decide +kernel
theorem dL_type_18 : decode cL_type 18 = .ok (.iconst 0, 1) := by decide +kernel
theorem dL_type_19 : decode cL_type 19 = .ok (.ireturn, 1) := by decide +kernel
set_option maxRecDepth 20000 in
theorem ggL_undo_X8_undo : GoodIn wsL_undo wsX8_undo := goodIn_ca (goodIn_ca (goodIn_ca (goodIn_r _ [6, 7, 8, 9, 10, 11, 5, 12, 13, 14, 15, 16, 17, 18, 19, 20, 21, 22, 23, 24, 25, 26, 27, 28, 29, 30, 31, 32, 33, 34, 35, 36, 37, 38, 39, 40, 41, 42, 43, 44, 45, 46, 47, 48, 49, 50, 51, 52, 53, 54, 55, 56, 57, 58, 59, 60, 61, 62, 63, 64, 65, 66, 67, 68, 69, 70, 71, 72, 73, 74, 75, 76, 77, 78, 79, 80, 81, 82, 83, 84, 85, 86, 87, 88, 89, 90, 91, 92, 93, 94, 95, 96, 97, 98, 99, 100, 101, 102, 103, 104] (by decide +kernel) (by decide +kernel)) (goodIn_sub (fun _ h => List.mem_cons_of_mem _ (List.mem_append_left _ (List.mem_append_left _ (List.mem_append_right _ h)))) (by decide +kernel))) (goodIn_sub (fun _ h => List.mem_cons_of_mem _ (List.mem_append_left _ (List.mem_append_right _ h))) (by decide +kernel))) (goodIn_sub (fun _ h => List.mem_cons_of_mem _ (List.mem_append_right _ h)) (by decide +kernel))
set_option maxRecDepth 20000 in
theorem gL_undo_X8_undo : GoodIn wsL_undo (wsV RL 80 RX8 yX8_undo wsX8_undo) := goodIn_app (goodIn_of _ (by decide +kernel)) ggL_undo_X8_undo
theorem dL_undo_0 : decode cL_undo 0 = .ok (.aload_n 1, 1) := by decide +kernel
theorem dL_undo_1 : decode cL_undo 1 = .ok (.iconst 0, 1) := by decide +kernel
theorem dL_undo_2 : decode cL_undo 2 = .ok (.aload_n 0, 1) := by decide +kernel
theorem dL_undo_3 : decode cL_undo 3 = .ok (.invokevirtual 80, 3) := by decide +kernel
theorem dL_undo_6 : decode cL_undo 6 = .ok (.i2l, 1) := by decide +kernel
theorem dL_undo_7 : decode cL_undo 7 = .ok (.lastore, 1) := by decide +kernel
theorem dL_undo_8 : decode cL_undo 8 = .ok (.goto 6, 3) := by decide +kernel
theorem dL_undo_11 : decode cL_undo 11 = .ok (.astore_n 2, 1) := by decide +kernel
theorem dL_undo_12 : decode cL_undo 12 = .ok (.iconst 1, 1) := by decide +kernel
theorem dL_undo_13 : decode cL_undo 13 = .ok (.ireturn, 1) := by decide +kernel
theorem dL_undo_14 : decode cL_undo 14 = .ok (.iconst 0, 1) := by decide +kernel
theorem dL_undo_15 : decode cL_undo 15 = .ok (.ireturn, 1) := by decide +kernel
