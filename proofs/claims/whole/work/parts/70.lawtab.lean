section LAWTAB
def tL_h : List (Nat × TE) := [(16, .iconst 0, 1, 0, 0, 0, 0), (17, .istore_n 3, 1, 3, 0, 0, 0), (18, .iload_n 3, 1, 3, 0, 0, 0), (19, .aload_n 0, 1, 0, 0, 0, 0), (20, .arraylength, 1, 0, 0, 0, 0), (21, .iconst 5, 1, 0, 0, 5, 0), (22, .isub, 1, 0, 0, 0, 0), (23, .if_icmp .gt 933, 3, 956, 0, 0, 0), (26, .aload_n 0, 1, 0, 0, 0, 0), (27, .iload_n 3, 1, 3, 0, 0, 0), (28, .iaload, 1, 0, 0, 0, 0), (29, .bipush 31, 2, 0, 0, 31, 0), (31, .iand, 1, 0, 0, 0, 0), (32, .tableswitch 918 0 30 #[140, 193, 236, 259, 272, 305, 338, 361, 394, 417, 440, 463, 496, 539, 563, 596, 640, 664, 688, 701, 724, 747, 770, 783, 806, 829, 842, 865, 878, 891, 904], 140, 0, 0, 0, 0), (950, .iinc 3 5, 3, 3, 0, 5, 0), (953, .goto (-935), 3, 18, 0, 0, 0), (956, .iconst 1, 1, 0, 0, 1, 0), (957, .ireturn, 1, 0, 0, 0, 0)]
theorem tkL_h : tOk cL_law "RumourSourceLaw" 4 tL_h = true := by decide +kernel
theorem fL_h_16 : fetch tL_h 16 = some (.iconst 0, 1, 0, 0, 0, 0) := rfl
theorem fL_h_17 : fetch tL_h 17 = some (.istore_n 3, 1, 3, 0, 0, 0) := rfl
theorem fL_h_18 : fetch tL_h 18 = some (.iload_n 3, 1, 3, 0, 0, 0) := rfl
theorem fL_h_19 : fetch tL_h 19 = some (.aload_n 0, 1, 0, 0, 0, 0) := rfl
theorem fL_h_20 : fetch tL_h 20 = some (.arraylength, 1, 0, 0, 0, 0) := rfl
theorem fL_h_21 : fetch tL_h 21 = some (.iconst 5, 1, 0, 0, 5, 0) := rfl
theorem fL_h_22 : fetch tL_h 22 = some (.isub, 1, 0, 0, 0, 0) := rfl
theorem fL_h_23 : fetch tL_h 23 = some (.if_icmp .gt 933, 3, 956, 0, 0, 0) := rfl
theorem fL_h_26 : fetch tL_h 26 = some (.aload_n 0, 1, 0, 0, 0, 0) := rfl
theorem fL_h_27 : fetch tL_h 27 = some (.iload_n 3, 1, 3, 0, 0, 0) := rfl
theorem fL_h_28 : fetch tL_h 28 = some (.iaload, 1, 0, 0, 0, 0) := rfl
theorem fL_h_29 : fetch tL_h 29 = some (.bipush 31, 2, 0, 0, 31, 0) := rfl
theorem fL_h_31 : fetch tL_h 31 = some (.iand, 1, 0, 0, 0, 0) := rfl
theorem fL_h_32 : fetch tL_h 32 = some (.tableswitch 918 0 30 #[140, 193, 236, 259, 272, 305, 338, 361, 394, 417, 440, 463, 496, 539, 563, 596, 640, 664, 688, 701, 724, 747, 770, 783, 806, 829, 842, 865, 878, 891, 904], 140, 0, 0, 0, 0) := rfl
theorem fL_h_950 : fetch tL_h 950 = some (.iinc 3 5, 3, 3, 0, 5, 0) := rfl
theorem fL_h_953 : fetch tL_h 953 = some (.goto (-935), 3, 18, 0, 0, 0) := rfl
theorem fL_h_956 : fetch tL_h 956 = some (.iconst 1, 1, 0, 0, 1, 0) := rfl
theorem fL_h_957 : fetch tL_h 957 = some (.ireturn, 1, 0, 0, 0, 0) := rfl
def tL_c0 : List (Nat × TE) := [(172, .aload_n 1, 1, 1, 0, 0, 0), (173, .aload_n 0, 1, 0, 0, 0, 0), (174, .iload_n 3, 1, 3, 0, 0, 0), (175, .iconst 1, 1, 0, 0, 1, 0), (176, .iadd, 1, 0, 0, 0, 0), (177, .iaload, 1, 0, 0, 0, 0), (178, .aload_n 0, 1, 0, 0, 0, 0), (179, .iload_n 3, 1, 3, 0, 0, 0), (180, .iconst 2, 1, 0, 0, 2, 0), (181, .iadd, 1, 0, 0, 0, 0), (182, .iaload, 1, 0, 0, 0, 0), (183, .aload_n 0, 1, 0, 0, 0, 0), (184, .iload_n 3, 1, 3, 0, 0, 0), (185, .iconst 3, 1, 0, 0, 3, 0), (186, .iadd, 1, 0, 0, 0, 0), (187, .iaload, 1, 0, 0, 0, 0), (188, .aload_n 0, 1, 0, 0, 0, 0), (189, .iload_n 3, 1, 3, 0, 0, 0), (190, .iconst 4, 1, 0, 0, 4, 0), (191, .iadd, 1, 0, 0, 0, 0), (192, .iaload, 1, 0, 0, 0, 0), (193, .invokevirtual 13, 3, 0, 3, 0, 0), (196, .aload_n 2, 1, 2, 0, 0, 0), (197, .aload_n 0, 1, 0, 0, 0, 0), (198, .iload_n 3, 1, 3, 0, 0, 0), (199, .iconst 1, 1, 0, 0, 1, 0), (200, .iadd, 1, 0, 0, 0, 0), (201, .iaload, 1, 0, 0, 0, 0), (202, .aload_n 0, 1, 0, 0, 0, 0), (203, .iload_n 3, 1, 3, 0, 0, 0), (204, .iconst 2, 1, 0, 0, 2, 0), (205, .iadd, 1, 0, 0, 0, 0), (206, .iaload, 1, 0, 0, 0, 0), (207, .aload_n 0, 1, 0, 0, 0, 0), (208, .iload_n 3, 1, 3, 0, 0, 0), (209, .iconst 3, 1, 0, 0, 3, 0), (210, .iadd, 1, 0, 0, 0, 0), (211, .iaload, 1, 0, 0, 0, 0), (212, .aload_n 0, 1, 0, 0, 0, 0), (213, .iload_n 3, 1, 3, 0, 0, 0), (214, .iconst 4, 1, 0, 0, 4, 0), (215, .iadd, 1, 0, 0, 0, 0), (216, .iaload, 1, 0, 0, 0, 0), (217, .invokevirtual 17, 3, 1, 4, 0, 0), (220, .if_icmp .eq 730, 3, 950, 0, 0, 0), (223, .iconst 0, 1, 0, 0, 0, 0), (224, .ireturn, 1, 0, 0, 0, 0)]
theorem tkL_c0 : tOk cL_law "RumourSourceLaw" 4 tL_c0 = true := by decide +kernel
theorem fL_c0_172 : fetch tL_c0 172 = some (.aload_n 1, 1, 1, 0, 0, 0) := rfl
theorem fL_c0_173 : fetch tL_c0 173 = some (.aload_n 0, 1, 0, 0, 0, 0) := rfl
theorem fL_c0_174 : fetch tL_c0 174 = some (.iload_n 3, 1, 3, 0, 0, 0) := rfl
theorem fL_c0_175 : fetch tL_c0 175 = some (.iconst 1, 1, 0, 0, 1, 0) := rfl
theorem fL_c0_176 : fetch tL_c0 176 = some (.iadd, 1, 0, 0, 0, 0) := rfl
theorem fL_c0_177 : fetch tL_c0 177 = some (.iaload, 1, 0, 0, 0, 0) := rfl
theorem fL_c0_178 : fetch tL_c0 178 = some (.aload_n 0, 1, 0, 0, 0, 0) := rfl
theorem fL_c0_179 : fetch tL_c0 179 = some (.iload_n 3, 1, 3, 0, 0, 0) := rfl
theorem fL_c0_180 : fetch tL_c0 180 = some (.iconst 2, 1, 0, 0, 2, 0) := rfl
theorem fL_c0_181 : fetch tL_c0 181 = some (.iadd, 1, 0, 0, 0, 0) := rfl
theorem fL_c0_182 : fetch tL_c0 182 = some (.iaload, 1, 0, 0, 0, 0) := rfl
theorem fL_c0_183 : fetch tL_c0 183 = some (.aload_n 0, 1, 0, 0, 0, 0) := rfl
theorem fL_c0_184 : fetch tL_c0 184 = some (.iload_n 3, 1, 3, 0, 0, 0) := rfl
theorem fL_c0_185 : fetch tL_c0 185 = some (.iconst 3, 1, 0, 0, 3, 0) := rfl
theorem fL_c0_186 : fetch tL_c0 186 = some (.iadd, 1, 0, 0, 0, 0) := rfl
theorem fL_c0_187 : fetch tL_c0 187 = some (.iaload, 1, 0, 0, 0, 0) := rfl
theorem fL_c0_188 : fetch tL_c0 188 = some (.aload_n 0, 1, 0, 0, 0, 0) := rfl
theorem fL_c0_189 : fetch tL_c0 189 = some (.iload_n 3, 1, 3, 0, 0, 0) := rfl
theorem fL_c0_190 : fetch tL_c0 190 = some (.iconst 4, 1, 0, 0, 4, 0) := rfl
theorem fL_c0_191 : fetch tL_c0 191 = some (.iadd, 1, 0, 0, 0, 0) := rfl
theorem fL_c0_192 : fetch tL_c0 192 = some (.iaload, 1, 0, 0, 0, 0) := rfl
theorem fL_c0_193 : fetch tL_c0 193 = some (.invokevirtual 13, 3, 0, 3, 0, 0) := rfl
theorem fL_c0_196 : fetch tL_c0 196 = some (.aload_n 2, 1, 2, 0, 0, 0) := rfl
theorem fL_c0_197 : fetch tL_c0 197 = some (.aload_n 0, 1, 0, 0, 0, 0) := rfl
theorem fL_c0_198 : fetch tL_c0 198 = some (.iload_n 3, 1, 3, 0, 0, 0) := rfl
theorem fL_c0_199 : fetch tL_c0 199 = some (.iconst 1, 1, 0, 0, 1, 0) := rfl
theorem fL_c0_200 : fetch tL_c0 200 = some (.iadd, 1, 0, 0, 0, 0) := rfl
theorem fL_c0_201 : fetch tL_c0 201 = some (.iaload, 1, 0, 0, 0, 0) := rfl
theorem fL_c0_202 : fetch tL_c0 202 = some (.aload_n 0, 1, 0, 0, 0, 0) := rfl
theorem fL_c0_203 : fetch tL_c0 203 = some (.iload_n 3, 1, 3, 0, 0, 0) := rfl
theorem fL_c0_204 : fetch tL_c0 204 = some (.iconst 2, 1, 0, 0, 2, 0) := rfl
theorem fL_c0_205 : fetch tL_c0 205 = some (.iadd, 1, 0, 0, 0, 0) := rfl
theorem fL_c0_206 : fetch tL_c0 206 = some (.iaload, 1, 0, 0, 0, 0) := rfl
theorem fL_c0_207 : fetch tL_c0 207 = some (.aload_n 0, 1, 0, 0, 0, 0) := rfl
theorem fL_c0_208 : fetch tL_c0 208 = some (.iload_n 3, 1, 3, 0, 0, 0) := rfl
theorem fL_c0_209 : fetch tL_c0 209 = some (.iconst 3, 1, 0, 0, 3, 0) := rfl
theorem fL_c0_210 : fetch tL_c0 210 = some (.iadd, 1, 0, 0, 0, 0) := rfl
theorem fL_c0_211 : fetch tL_c0 211 = some (.iaload, 1, 0, 0, 0, 0) := rfl
theorem fL_c0_212 : fetch tL_c0 212 = some (.aload_n 0, 1, 0, 0, 0, 0) := rfl
theorem fL_c0_213 : fetch tL_c0 213 = some (.iload_n 3, 1, 3, 0, 0, 0) := rfl
theorem fL_c0_214 : fetch tL_c0 214 = some (.iconst 4, 1, 0, 0, 4, 0) := rfl
theorem fL_c0_215 : fetch tL_c0 215 = some (.iadd, 1, 0, 0, 0, 0) := rfl
theorem fL_c0_216 : fetch tL_c0 216 = some (.iaload, 1, 0, 0, 0, 0) := rfl
theorem fL_c0_217 : fetch tL_c0 217 = some (.invokevirtual 17, 3, 1, 4, 0, 0) := rfl
theorem fL_c0_220 : fetch tL_c0 220 = some (.if_icmp .eq 730, 3, 950, 0, 0, 0) := rfl
theorem fL_c0_223 : fetch tL_c0 223 = some (.iconst 0, 1, 0, 0, 0, 0) := rfl
theorem fL_c0_224 : fetch tL_c0 224 = some (.ireturn, 1, 0, 0, 0, 0) := rfl
def tL_c1 : List (Nat × TE) := [(225, .aload_n 1, 1, 1, 0, 0, 0), (226, .aload_n 0, 1, 0, 0, 0, 0), (227, .iload_n 3, 1, 3, 0, 0, 0), (228, .iconst 1, 1, 0, 0, 1, 0), (229, .iadd, 1, 0, 0, 0, 0), (230, .iaload, 1, 0, 0, 0, 0), (231, .aload_n 0, 1, 0, 0, 0, 0), (232, .iload_n 3, 1, 3, 0, 0, 0), (233, .iconst 2, 1, 0, 0, 2, 0), (234, .iadd, 1, 0, 0, 0, 0), (235, .iaload, 1, 0, 0, 0, 0), (236, .aload_n 0, 1, 0, 0, 0, 0), (237, .iload_n 3, 1, 3, 0, 0, 0), (238, .iconst 3, 1, 0, 0, 3, 0), (239, .iadd, 1, 0, 0, 0, 0), (240, .iaload, 1, 0, 0, 0, 0), (241, .invokevirtual 18, 3, 0, 3, 0, 0), (244, .aload_n 2, 1, 2, 0, 0, 0), (245, .aload_n 0, 1, 0, 0, 0, 0), (246, .iload_n 3, 1, 3, 0, 0, 0), (247, .iconst 1, 1, 0, 0, 1, 0), (248, .iadd, 1, 0, 0, 0, 0), (249, .iaload, 1, 0, 0, 0, 0), (250, .aload_n 0, 1, 0, 0, 0, 0), (251, .iload_n 3, 1, 3, 0, 0, 0), (252, .iconst 2, 1, 0, 0, 2, 0), (253, .iadd, 1, 0, 0, 0, 0), (254, .iaload, 1, 0, 0, 0, 0), (255, .aload_n 0, 1, 0, 0, 0, 0), (256, .iload_n 3, 1, 3, 0, 0, 0), (257, .iconst 3, 1, 0, 0, 3, 0), (258, .iadd, 1, 0, 0, 0, 0), (259, .iaload, 1, 0, 0, 0, 0), (260, .invokevirtual 22, 3, 1, 4, 0, 0), (263, .if_icmp .eq 687, 3, 950, 0, 0, 0), (266, .iconst 0, 1, 0, 0, 0, 0), (267, .ireturn, 1, 0, 0, 0, 0)]
theorem tkL_c1 : tOk cL_law "RumourSourceLaw" 4 tL_c1 = true := by decide +kernel
theorem fL_c1_225 : fetch tL_c1 225 = some (.aload_n 1, 1, 1, 0, 0, 0) := rfl
theorem fL_c1_226 : fetch tL_c1 226 = some (.aload_n 0, 1, 0, 0, 0, 0) := rfl
theorem fL_c1_227 : fetch tL_c1 227 = some (.iload_n 3, 1, 3, 0, 0, 0) := rfl
theorem fL_c1_228 : fetch tL_c1 228 = some (.iconst 1, 1, 0, 0, 1, 0) := rfl
theorem fL_c1_229 : fetch tL_c1 229 = some (.iadd, 1, 0, 0, 0, 0) := rfl
theorem fL_c1_230 : fetch tL_c1 230 = some (.iaload, 1, 0, 0, 0, 0) := rfl
theorem fL_c1_231 : fetch tL_c1 231 = some (.aload_n 0, 1, 0, 0, 0, 0) := rfl
theorem fL_c1_232 : fetch tL_c1 232 = some (.iload_n 3, 1, 3, 0, 0, 0) := rfl
theorem fL_c1_233 : fetch tL_c1 233 = some (.iconst 2, 1, 0, 0, 2, 0) := rfl
theorem fL_c1_234 : fetch tL_c1 234 = some (.iadd, 1, 0, 0, 0, 0) := rfl
theorem fL_c1_235 : fetch tL_c1 235 = some (.iaload, 1, 0, 0, 0, 0) := rfl
theorem fL_c1_236 : fetch tL_c1 236 = some (.aload_n 0, 1, 0, 0, 0, 0) := rfl
theorem fL_c1_237 : fetch tL_c1 237 = some (.iload_n 3, 1, 3, 0, 0, 0) := rfl
theorem fL_c1_238 : fetch tL_c1 238 = some (.iconst 3, 1, 0, 0, 3, 0) := rfl
theorem fL_c1_239 : fetch tL_c1 239 = some (.iadd, 1, 0, 0, 0, 0) := rfl
theorem fL_c1_240 : fetch tL_c1 240 = some (.iaload, 1, 0, 0, 0, 0) := rfl
theorem fL_c1_241 : fetch tL_c1 241 = some (.invokevirtual 18, 3, 0, 3, 0, 0) := rfl
theorem fL_c1_244 : fetch tL_c1 244 = some (.aload_n 2, 1, 2, 0, 0, 0) := rfl
theorem fL_c1_245 : fetch tL_c1 245 = some (.aload_n 0, 1, 0, 0, 0, 0) := rfl
theorem fL_c1_246 : fetch tL_c1 246 = some (.iload_n 3, 1, 3, 0, 0, 0) := rfl
theorem fL_c1_247 : fetch tL_c1 247 = some (.iconst 1, 1, 0, 0, 1, 0) := rfl
theorem fL_c1_248 : fetch tL_c1 248 = some (.iadd, 1, 0, 0, 0, 0) := rfl
theorem fL_c1_249 : fetch tL_c1 249 = some (.iaload, 1, 0, 0, 0, 0) := rfl
theorem fL_c1_250 : fetch tL_c1 250 = some (.aload_n 0, 1, 0, 0, 0, 0) := rfl
theorem fL_c1_251 : fetch tL_c1 251 = some (.iload_n 3, 1, 3, 0, 0, 0) := rfl
theorem fL_c1_252 : fetch tL_c1 252 = some (.iconst 2, 1, 0, 0, 2, 0) := rfl
theorem fL_c1_253 : fetch tL_c1 253 = some (.iadd, 1, 0, 0, 0, 0) := rfl
theorem fL_c1_254 : fetch tL_c1 254 = some (.iaload, 1, 0, 0, 0, 0) := rfl
theorem fL_c1_255 : fetch tL_c1 255 = some (.aload_n 0, 1, 0, 0, 0, 0) := rfl
theorem fL_c1_256 : fetch tL_c1 256 = some (.iload_n 3, 1, 3, 0, 0, 0) := rfl
theorem fL_c1_257 : fetch tL_c1 257 = some (.iconst 3, 1, 0, 0, 3, 0) := rfl
theorem fL_c1_258 : fetch tL_c1 258 = some (.iadd, 1, 0, 0, 0, 0) := rfl
theorem fL_c1_259 : fetch tL_c1 259 = some (.iaload, 1, 0, 0, 0, 0) := rfl
theorem fL_c1_260 : fetch tL_c1 260 = some (.invokevirtual 22, 3, 1, 4, 0, 0) := rfl
theorem fL_c1_263 : fetch tL_c1 263 = some (.if_icmp .eq 687, 3, 950, 0, 0, 0) := rfl
theorem fL_c1_266 : fetch tL_c1 266 = some (.iconst 0, 1, 0, 0, 0, 0) := rfl
theorem fL_c1_267 : fetch tL_c1 267 = some (.ireturn, 1, 0, 0, 0, 0) := rfl
def tL_c2 : List (Nat × TE) := [(268, .aload_n 1, 1, 1, 0, 0, 0), (269, .aload_n 0, 1, 0, 0, 0, 0), (270, .iload_n 3, 1, 3, 0, 0, 0), (271, .iconst 1, 1, 0, 0, 1, 0), (272, .iadd, 1, 0, 0, 0, 0), (273, .iaload, 1, 0, 0, 0, 0), (274, .invokevirtual 23, 3, 0, 3, 0, 0), (277, .aload_n 2, 1, 2, 0, 0, 0), (278, .aload_n 0, 1, 0, 0, 0, 0), (279, .iload_n 3, 1, 3, 0, 0, 0), (280, .iconst 1, 1, 0, 0, 1, 0), (281, .iadd, 1, 0, 0, 0, 0), (282, .iaload, 1, 0, 0, 0, 0), (283, .invokevirtual 27, 3, 1, 4, 0, 0), (286, .if_icmp .eq 664, 3, 950, 0, 0, 0), (289, .iconst 0, 1, 0, 0, 0, 0), (290, .ireturn, 1, 0, 0, 0, 0)]
theorem tkL_c2 : tOk cL_law "RumourSourceLaw" 4 tL_c2 = true := by decide +kernel
theorem fL_c2_268 : fetch tL_c2 268 = some (.aload_n 1, 1, 1, 0, 0, 0) := rfl
theorem fL_c2_269 : fetch tL_c2 269 = some (.aload_n 0, 1, 0, 0, 0, 0) := rfl
theorem fL_c2_270 : fetch tL_c2 270 = some (.iload_n 3, 1, 3, 0, 0, 0) := rfl
theorem fL_c2_271 : fetch tL_c2 271 = some (.iconst 1, 1, 0, 0, 1, 0) := rfl
theorem fL_c2_272 : fetch tL_c2 272 = some (.iadd, 1, 0, 0, 0, 0) := rfl
theorem fL_c2_273 : fetch tL_c2 273 = some (.iaload, 1, 0, 0, 0, 0) := rfl
theorem fL_c2_274 : fetch tL_c2 274 = some (.invokevirtual 23, 3, 0, 3, 0, 0) := rfl
theorem fL_c2_277 : fetch tL_c2 277 = some (.aload_n 2, 1, 2, 0, 0, 0) := rfl
theorem fL_c2_278 : fetch tL_c2 278 = some (.aload_n 0, 1, 0, 0, 0, 0) := rfl
theorem fL_c2_279 : fetch tL_c2 279 = some (.iload_n 3, 1, 3, 0, 0, 0) := rfl
theorem fL_c2_280 : fetch tL_c2 280 = some (.iconst 1, 1, 0, 0, 1, 0) := rfl
theorem fL_c2_281 : fetch tL_c2 281 = some (.iadd, 1, 0, 0, 0, 0) := rfl
theorem fL_c2_282 : fetch tL_c2 282 = some (.iaload, 1, 0, 0, 0, 0) := rfl
theorem fL_c2_283 : fetch tL_c2 283 = some (.invokevirtual 27, 3, 1, 4, 0, 0) := rfl
theorem fL_c2_286 : fetch tL_c2 286 = some (.if_icmp .eq 664, 3, 950, 0, 0, 0) := rfl
theorem fL_c2_289 : fetch tL_c2 289 = some (.iconst 0, 1, 0, 0, 0, 0) := rfl
theorem fL_c2_290 : fetch tL_c2 290 = some (.ireturn, 1, 0, 0, 0, 0) := rfl
def tL_c3 : List (Nat × TE) := [(291, .aload_n 1, 1, 1, 0, 0, 0), (292, .invokevirtual 28, 3, 0, 3, 0, 0), (295, .aload_n 2, 1, 2, 0, 0, 0), (296, .invokevirtual 32, 3, 1, 4, 0, 0), (299, .if_icmp .eq 651, 3, 950, 0, 0, 0), (302, .iconst 0, 1, 0, 0, 0, 0), (303, .ireturn, 1, 0, 0, 0, 0)]
theorem tkL_c3 : tOk cL_law "RumourSourceLaw" 4 tL_c3 = true := by decide +kernel
theorem fL_c3_291 : fetch tL_c3 291 = some (.aload_n 1, 1, 1, 0, 0, 0) := rfl
theorem fL_c3_292 : fetch tL_c3 292 = some (.invokevirtual 28, 3, 0, 3, 0, 0) := rfl
theorem fL_c3_295 : fetch tL_c3 295 = some (.aload_n 2, 1, 2, 0, 0, 0) := rfl
theorem fL_c3_296 : fetch tL_c3 296 = some (.invokevirtual 32, 3, 1, 4, 0, 0) := rfl
theorem fL_c3_299 : fetch tL_c3 299 = some (.if_icmp .eq 651, 3, 950, 0, 0, 0) := rfl
theorem fL_c3_302 : fetch tL_c3 302 = some (.iconst 0, 1, 0, 0, 0, 0) := rfl
theorem fL_c3_303 : fetch tL_c3 303 = some (.ireturn, 1, 0, 0, 0, 0) := rfl
def tL_c4 : List (Nat × TE) := [(304, .aload_n 1, 1, 1, 0, 0, 0), (305, .aload_n 0, 1, 0, 0, 0, 0), (306, .iload_n 3, 1, 3, 0, 0, 0), (307, .iconst 1, 1, 0, 0, 1, 0), (308, .iadd, 1, 0, 0, 0, 0), (309, .iaload, 1, 0, 0, 0, 0), (310, .aload_n 0, 1, 0, 0, 0, 0), (311, .iload_n 3, 1, 3, 0, 0, 0), (312, .iconst 2, 1, 0, 0, 2, 0), (313, .iadd, 1, 0, 0, 0, 0), (314, .iaload, 1, 0, 0, 0, 0), (315, .invokevirtual 33, 3, 0, 3, 0, 0), (318, .aload_n 2, 1, 2, 0, 0, 0), (319, .aload_n 0, 1, 0, 0, 0, 0), (320, .iload_n 3, 1, 3, 0, 0, 0), (321, .iconst 1, 1, 0, 0, 1, 0), (322, .iadd, 1, 0, 0, 0, 0), (323, .iaload, 1, 0, 0, 0, 0), (324, .aload_n 0, 1, 0, 0, 0, 0), (325, .iload_n 3, 1, 3, 0, 0, 0), (326, .iconst 2, 1, 0, 0, 2, 0), (327, .iadd, 1, 0, 0, 0, 0), (328, .iaload, 1, 0, 0, 0, 0), (329, .invokevirtual 37, 3, 1, 4, 0, 0), (332, .if_icmp .eq 618, 3, 950, 0, 0, 0), (335, .iconst 0, 1, 0, 0, 0, 0), (336, .ireturn, 1, 0, 0, 0, 0)]
theorem tkL_c4 : tOk cL_law "RumourSourceLaw" 4 tL_c4 = true := by decide +kernel
theorem fL_c4_304 : fetch tL_c4 304 = some (.aload_n 1, 1, 1, 0, 0, 0) := rfl
theorem fL_c4_305 : fetch tL_c4 305 = some (.aload_n 0, 1, 0, 0, 0, 0) := rfl
theorem fL_c4_306 : fetch tL_c4 306 = some (.iload_n 3, 1, 3, 0, 0, 0) := rfl
theorem fL_c4_307 : fetch tL_c4 307 = some (.iconst 1, 1, 0, 0, 1, 0) := rfl
theorem fL_c4_308 : fetch tL_c4 308 = some (.iadd, 1, 0, 0, 0, 0) := rfl
theorem fL_c4_309 : fetch tL_c4 309 = some (.iaload, 1, 0, 0, 0, 0) := rfl
theorem fL_c4_310 : fetch tL_c4 310 = some (.aload_n 0, 1, 0, 0, 0, 0) := rfl
theorem fL_c4_311 : fetch tL_c4 311 = some (.iload_n 3, 1, 3, 0, 0, 0) := rfl
theorem fL_c4_312 : fetch tL_c4 312 = some (.iconst 2, 1, 0, 0, 2, 0) := rfl
theorem fL_c4_313 : fetch tL_c4 313 = some (.iadd, 1, 0, 0, 0, 0) := rfl
theorem fL_c4_314 : fetch tL_c4 314 = some (.iaload, 1, 0, 0, 0, 0) := rfl
theorem fL_c4_315 : fetch tL_c4 315 = some (.invokevirtual 33, 3, 0, 3, 0, 0) := rfl
theorem fL_c4_318 : fetch tL_c4 318 = some (.aload_n 2, 1, 2, 0, 0, 0) := rfl
theorem fL_c4_319 : fetch tL_c4 319 = some (.aload_n 0, 1, 0, 0, 0, 0) := rfl
theorem fL_c4_320 : fetch tL_c4 320 = some (.iload_n 3, 1, 3, 0, 0, 0) := rfl
theorem fL_c4_321 : fetch tL_c4 321 = some (.iconst 1, 1, 0, 0, 1, 0) := rfl
theorem fL_c4_322 : fetch tL_c4 322 = some (.iadd, 1, 0, 0, 0, 0) := rfl
theorem fL_c4_323 : fetch tL_c4 323 = some (.iaload, 1, 0, 0, 0, 0) := rfl
theorem fL_c4_324 : fetch tL_c4 324 = some (.aload_n 0, 1, 0, 0, 0, 0) := rfl
theorem fL_c4_325 : fetch tL_c4 325 = some (.iload_n 3, 1, 3, 0, 0, 0) := rfl
theorem fL_c4_326 : fetch tL_c4 326 = some (.iconst 2, 1, 0, 0, 2, 0) := rfl
theorem fL_c4_327 : fetch tL_c4 327 = some (.iadd, 1, 0, 0, 0, 0) := rfl
theorem fL_c4_328 : fetch tL_c4 328 = some (.iaload, 1, 0, 0, 0, 0) := rfl
theorem fL_c4_329 : fetch tL_c4 329 = some (.invokevirtual 37, 3, 1, 4, 0, 0) := rfl
theorem fL_c4_332 : fetch tL_c4 332 = some (.if_icmp .eq 618, 3, 950, 0, 0, 0) := rfl
theorem fL_c4_335 : fetch tL_c4 335 = some (.iconst 0, 1, 0, 0, 0, 0) := rfl
theorem fL_c4_336 : fetch tL_c4 336 = some (.ireturn, 1, 0, 0, 0, 0) := rfl
def tL_c5 : List (Nat × TE) := [(337, .aload_n 1, 1, 1, 0, 0, 0), (338, .aload_n 0, 1, 0, 0, 0, 0), (339, .iload_n 3, 1, 3, 0, 0, 0), (340, .iconst 1, 1, 0, 0, 1, 0), (341, .iadd, 1, 0, 0, 0, 0), (342, .iaload, 1, 0, 0, 0, 0), (343, .aload_n 0, 1, 0, 0, 0, 0), (344, .iload_n 3, 1, 3, 0, 0, 0), (345, .iconst 2, 1, 0, 0, 2, 0), (346, .iadd, 1, 0, 0, 0, 0), (347, .iaload, 1, 0, 0, 0, 0), (348, .invokevirtual 38, 3, 0, 3, 0, 0), (351, .aload_n 2, 1, 2, 0, 0, 0), (352, .aload_n 0, 1, 0, 0, 0, 0), (353, .iload_n 3, 1, 3, 0, 0, 0), (354, .iconst 1, 1, 0, 0, 1, 0), (355, .iadd, 1, 0, 0, 0, 0), (356, .iaload, 1, 0, 0, 0, 0), (357, .aload_n 0, 1, 0, 0, 0, 0), (358, .iload_n 3, 1, 3, 0, 0, 0), (359, .iconst 2, 1, 0, 0, 2, 0), (360, .iadd, 1, 0, 0, 0, 0), (361, .iaload, 1, 0, 0, 0, 0), (362, .invokevirtual 41, 3, 1, 4, 0, 0), (365, .if_icmp .eq 585, 3, 950, 0, 0, 0), (368, .iconst 0, 1, 0, 0, 0, 0), (369, .ireturn, 1, 0, 0, 0, 0)]
theorem tkL_c5 : tOk cL_law "RumourSourceLaw" 4 tL_c5 = true := by decide +kernel
theorem fL_c5_337 : fetch tL_c5 337 = some (.aload_n 1, 1, 1, 0, 0, 0) := rfl
theorem fL_c5_338 : fetch tL_c5 338 = some (.aload_n 0, 1, 0, 0, 0, 0) := rfl
theorem fL_c5_339 : fetch tL_c5 339 = some (.iload_n 3, 1, 3, 0, 0, 0) := rfl
theorem fL_c5_340 : fetch tL_c5 340 = some (.iconst 1, 1, 0, 0, 1, 0) := rfl
theorem fL_c5_341 : fetch tL_c5 341 = some (.iadd, 1, 0, 0, 0, 0) := rfl
theorem fL_c5_342 : fetch tL_c5 342 = some (.iaload, 1, 0, 0, 0, 0) := rfl
theorem fL_c5_343 : fetch tL_c5 343 = some (.aload_n 0, 1, 0, 0, 0, 0) := rfl
theorem fL_c5_344 : fetch tL_c5 344 = some (.iload_n 3, 1, 3, 0, 0, 0) := rfl
theorem fL_c5_345 : fetch tL_c5 345 = some (.iconst 2, 1, 0, 0, 2, 0) := rfl
theorem fL_c5_346 : fetch tL_c5 346 = some (.iadd, 1, 0, 0, 0, 0) := rfl
theorem fL_c5_347 : fetch tL_c5 347 = some (.iaload, 1, 0, 0, 0, 0) := rfl
theorem fL_c5_348 : fetch tL_c5 348 = some (.invokevirtual 38, 3, 0, 3, 0, 0) := rfl
theorem fL_c5_351 : fetch tL_c5 351 = some (.aload_n 2, 1, 2, 0, 0, 0) := rfl
theorem fL_c5_352 : fetch tL_c5 352 = some (.aload_n 0, 1, 0, 0, 0, 0) := rfl
theorem fL_c5_353 : fetch tL_c5 353 = some (.iload_n 3, 1, 3, 0, 0, 0) := rfl
theorem fL_c5_354 : fetch tL_c5 354 = some (.iconst 1, 1, 0, 0, 1, 0) := rfl
theorem fL_c5_355 : fetch tL_c5 355 = some (.iadd, 1, 0, 0, 0, 0) := rfl
theorem fL_c5_356 : fetch tL_c5 356 = some (.iaload, 1, 0, 0, 0, 0) := rfl
theorem fL_c5_357 : fetch tL_c5 357 = some (.aload_n 0, 1, 0, 0, 0, 0) := rfl
theorem fL_c5_358 : fetch tL_c5 358 = some (.iload_n 3, 1, 3, 0, 0, 0) := rfl
theorem fL_c5_359 : fetch tL_c5 359 = some (.iconst 2, 1, 0, 0, 2, 0) := rfl
theorem fL_c5_360 : fetch tL_c5 360 = some (.iadd, 1, 0, 0, 0, 0) := rfl
theorem fL_c5_361 : fetch tL_c5 361 = some (.iaload, 1, 0, 0, 0, 0) := rfl
theorem fL_c5_362 : fetch tL_c5 362 = some (.invokevirtual 41, 3, 1, 4, 0, 0) := rfl
theorem fL_c5_365 : fetch tL_c5 365 = some (.if_icmp .eq 585, 3, 950, 0, 0, 0) := rfl
theorem fL_c5_368 : fetch tL_c5 368 = some (.iconst 0, 1, 0, 0, 0, 0) := rfl
theorem fL_c5_369 : fetch tL_c5 369 = some (.ireturn, 1, 0, 0, 0, 0) := rfl
def tL_c6 : List (Nat × TE) := [(370, .aload_n 1, 1, 1, 0, 0, 0), (371, .aload_n 0, 1, 0, 0, 0, 0), (372, .iload_n 3, 1, 3, 0, 0, 0), (373, .iconst 1, 1, 0, 0, 1, 0), (374, .iadd, 1, 0, 0, 0, 0), (375, .iaload, 1, 0, 0, 0, 0), (376, .invokevirtual 42, 3, 0, 3, 0, 0), (379, .aload_n 2, 1, 2, 0, 0, 0), (380, .aload_n 0, 1, 0, 0, 0, 0), (381, .iload_n 3, 1, 3, 0, 0, 0), (382, .iconst 1, 1, 0, 0, 1, 0), (383, .iadd, 1, 0, 0, 0, 0), (384, .iaload, 1, 0, 0, 0, 0), (385, .invokevirtual 45, 3, 1, 4, 0, 0), (388, .if_icmp .eq 562, 3, 950, 0, 0, 0), (391, .iconst 0, 1, 0, 0, 0, 0), (392, .ireturn, 1, 0, 0, 0, 0)]
theorem tkL_c6 : tOk cL_law "RumourSourceLaw" 4 tL_c6 = true := by decide +kernel
theorem fL_c6_370 : fetch tL_c6 370 = some (.aload_n 1, 1, 1, 0, 0, 0) := rfl
theorem fL_c6_371 : fetch tL_c6 371 = some (.aload_n 0, 1, 0, 0, 0, 0) := rfl
theorem fL_c6_372 : fetch tL_c6 372 = some (.iload_n 3, 1, 3, 0, 0, 0) := rfl
theorem fL_c6_373 : fetch tL_c6 373 = some (.iconst 1, 1, 0, 0, 1, 0) := rfl
theorem fL_c6_374 : fetch tL_c6 374 = some (.iadd, 1, 0, 0, 0, 0) := rfl
theorem fL_c6_375 : fetch tL_c6 375 = some (.iaload, 1, 0, 0, 0, 0) := rfl
theorem fL_c6_376 : fetch tL_c6 376 = some (.invokevirtual 42, 3, 0, 3, 0, 0) := rfl
theorem fL_c6_379 : fetch tL_c6 379 = some (.aload_n 2, 1, 2, 0, 0, 0) := rfl
theorem fL_c6_380 : fetch tL_c6 380 = some (.aload_n 0, 1, 0, 0, 0, 0) := rfl
theorem fL_c6_381 : fetch tL_c6 381 = some (.iload_n 3, 1, 3, 0, 0, 0) := rfl
theorem fL_c6_382 : fetch tL_c6 382 = some (.iconst 1, 1, 0, 0, 1, 0) := rfl
theorem fL_c6_383 : fetch tL_c6 383 = some (.iadd, 1, 0, 0, 0, 0) := rfl
theorem fL_c6_384 : fetch tL_c6 384 = some (.iaload, 1, 0, 0, 0, 0) := rfl
theorem fL_c6_385 : fetch tL_c6 385 = some (.invokevirtual 45, 3, 1, 4, 0, 0) := rfl
theorem fL_c6_388 : fetch tL_c6 388 = some (.if_icmp .eq 562, 3, 950, 0, 0, 0) := rfl
theorem fL_c6_391 : fetch tL_c6 391 = some (.iconst 0, 1, 0, 0, 0, 0) := rfl
theorem fL_c6_392 : fetch tL_c6 392 = some (.ireturn, 1, 0, 0, 0, 0) := rfl
def tL_c7 : List (Nat × TE) := [(393, .aload_n 1, 1, 1, 0, 0, 0), (394, .aload_n 0, 1, 0, 0, 0, 0), (395, .iload_n 3, 1, 3, 0, 0, 0), (396, .iconst 1, 1, 0, 0, 1, 0), (397, .iadd, 1, 0, 0, 0, 0), (398, .iaload, 1, 0, 0, 0, 0), (399, .aload_n 0, 1, 0, 0, 0, 0), (400, .iload_n 3, 1, 3, 0, 0, 0), (401, .iconst 2, 1, 0, 0, 2, 0), (402, .iadd, 1, 0, 0, 0, 0), (403, .iaload, 1, 0, 0, 0, 0), (404, .invokevirtual 46, 3, 0, 3, 0, 0), (407, .aload_n 2, 1, 2, 0, 0, 0), (408, .aload_n 0, 1, 0, 0, 0, 0), (409, .iload_n 3, 1, 3, 0, 0, 0), (410, .iconst 1, 1, 0, 0, 1, 0), (411, .iadd, 1, 0, 0, 0, 0), (412, .iaload, 1, 0, 0, 0, 0), (413, .aload_n 0, 1, 0, 0, 0, 0), (414, .iload_n 3, 1, 3, 0, 0, 0), (415, .iconst 2, 1, 0, 0, 2, 0), (416, .iadd, 1, 0, 0, 0, 0), (417, .iaload, 1, 0, 0, 0, 0), (418, .invokevirtual 49, 3, 1, 4, 0, 0), (421, .if_icmp .eq 529, 3, 950, 0, 0, 0), (424, .iconst 0, 1, 0, 0, 0, 0), (425, .ireturn, 1, 0, 0, 0, 0)]
theorem tkL_c7 : tOk cL_law "RumourSourceLaw" 4 tL_c7 = true := by decide +kernel
theorem fL_c7_393 : fetch tL_c7 393 = some (.aload_n 1, 1, 1, 0, 0, 0) := rfl
theorem fL_c7_394 : fetch tL_c7 394 = some (.aload_n 0, 1, 0, 0, 0, 0) := rfl
theorem fL_c7_395 : fetch tL_c7 395 = some (.iload_n 3, 1, 3, 0, 0, 0) := rfl
theorem fL_c7_396 : fetch tL_c7 396 = some (.iconst 1, 1, 0, 0, 1, 0) := rfl
theorem fL_c7_397 : fetch tL_c7 397 = some (.iadd, 1, 0, 0, 0, 0) := rfl
theorem fL_c7_398 : fetch tL_c7 398 = some (.iaload, 1, 0, 0, 0, 0) := rfl
theorem fL_c7_399 : fetch tL_c7 399 = some (.aload_n 0, 1, 0, 0, 0, 0) := rfl
theorem fL_c7_400 : fetch tL_c7 400 = some (.iload_n 3, 1, 3, 0, 0, 0) := rfl
theorem fL_c7_401 : fetch tL_c7 401 = some (.iconst 2, 1, 0, 0, 2, 0) := rfl
theorem fL_c7_402 : fetch tL_c7 402 = some (.iadd, 1, 0, 0, 0, 0) := rfl
theorem fL_c7_403 : fetch tL_c7 403 = some (.iaload, 1, 0, 0, 0, 0) := rfl
theorem fL_c7_404 : fetch tL_c7 404 = some (.invokevirtual 46, 3, 0, 3, 0, 0) := rfl
theorem fL_c7_407 : fetch tL_c7 407 = some (.aload_n 2, 1, 2, 0, 0, 0) := rfl
theorem fL_c7_408 : fetch tL_c7 408 = some (.aload_n 0, 1, 0, 0, 0, 0) := rfl
theorem fL_c7_409 : fetch tL_c7 409 = some (.iload_n 3, 1, 3, 0, 0, 0) := rfl
theorem fL_c7_410 : fetch tL_c7 410 = some (.iconst 1, 1, 0, 0, 1, 0) := rfl
theorem fL_c7_411 : fetch tL_c7 411 = some (.iadd, 1, 0, 0, 0, 0) := rfl
theorem fL_c7_412 : fetch tL_c7 412 = some (.iaload, 1, 0, 0, 0, 0) := rfl
theorem fL_c7_413 : fetch tL_c7 413 = some (.aload_n 0, 1, 0, 0, 0, 0) := rfl
theorem fL_c7_414 : fetch tL_c7 414 = some (.iload_n 3, 1, 3, 0, 0, 0) := rfl
theorem fL_c7_415 : fetch tL_c7 415 = some (.iconst 2, 1, 0, 0, 2, 0) := rfl
theorem fL_c7_416 : fetch tL_c7 416 = some (.iadd, 1, 0, 0, 0, 0) := rfl
theorem fL_c7_417 : fetch tL_c7 417 = some (.iaload, 1, 0, 0, 0, 0) := rfl
theorem fL_c7_418 : fetch tL_c7 418 = some (.invokevirtual 49, 3, 1, 4, 0, 0) := rfl
theorem fL_c7_421 : fetch tL_c7 421 = some (.if_icmp .eq 529, 3, 950, 0, 0, 0) := rfl
theorem fL_c7_424 : fetch tL_c7 424 = some (.iconst 0, 1, 0, 0, 0, 0) := rfl
theorem fL_c7_425 : fetch tL_c7 425 = some (.ireturn, 1, 0, 0, 0, 0) := rfl
def tL_c8 : List (Nat × TE) := [(426, .aload_n 1, 1, 1, 0, 0, 0), (427, .aload_n 0, 1, 0, 0, 0, 0), (428, .iload_n 3, 1, 3, 0, 0, 0), (429, .iconst 1, 1, 0, 0, 1, 0), (430, .iadd, 1, 0, 0, 0, 0), (431, .iaload, 1, 0, 0, 0, 0), (432, .invokevirtual 50, 3, 0, 3, 0, 0), (435, .aload_n 2, 1, 2, 0, 0, 0), (436, .aload_n 0, 1, 0, 0, 0, 0), (437, .iload_n 3, 1, 3, 0, 0, 0), (438, .iconst 1, 1, 0, 0, 1, 0), (439, .iadd, 1, 0, 0, 0, 0), (440, .iaload, 1, 0, 0, 0, 0), (441, .invokevirtual 53, 3, 1, 4, 0, 0), (444, .if_icmp .eq 506, 3, 950, 0, 0, 0), (447, .iconst 0, 1, 0, 0, 0, 0), (448, .ireturn, 1, 0, 0, 0, 0)]
theorem tkL_c8 : tOk cL_law "RumourSourceLaw" 4 tL_c8 = true := by decide +kernel
theorem fL_c8_426 : fetch tL_c8 426 = some (.aload_n 1, 1, 1, 0, 0, 0) := rfl
theorem fL_c8_427 : fetch tL_c8 427 = some (.aload_n 0, 1, 0, 0, 0, 0) := rfl
theorem fL_c8_428 : fetch tL_c8 428 = some (.iload_n 3, 1, 3, 0, 0, 0) := rfl
theorem fL_c8_429 : fetch tL_c8 429 = some (.iconst 1, 1, 0, 0, 1, 0) := rfl
theorem fL_c8_430 : fetch tL_c8 430 = some (.iadd, 1, 0, 0, 0, 0) := rfl
theorem fL_c8_431 : fetch tL_c8 431 = some (.iaload, 1, 0, 0, 0, 0) := rfl
theorem fL_c8_432 : fetch tL_c8 432 = some (.invokevirtual 50, 3, 0, 3, 0, 0) := rfl
theorem fL_c8_435 : fetch tL_c8 435 = some (.aload_n 2, 1, 2, 0, 0, 0) := rfl
theorem fL_c8_436 : fetch tL_c8 436 = some (.aload_n 0, 1, 0, 0, 0, 0) := rfl
theorem fL_c8_437 : fetch tL_c8 437 = some (.iload_n 3, 1, 3, 0, 0, 0) := rfl
theorem fL_c8_438 : fetch tL_c8 438 = some (.iconst 1, 1, 0, 0, 1, 0) := rfl
theorem fL_c8_439 : fetch tL_c8 439 = some (.iadd, 1, 0, 0, 0, 0) := rfl
theorem fL_c8_440 : fetch tL_c8 440 = some (.iaload, 1, 0, 0, 0, 0) := rfl
theorem fL_c8_441 : fetch tL_c8 441 = some (.invokevirtual 53, 3, 1, 4, 0, 0) := rfl
theorem fL_c8_444 : fetch tL_c8 444 = some (.if_icmp .eq 506, 3, 950, 0, 0, 0) := rfl
theorem fL_c8_447 : fetch tL_c8 447 = some (.iconst 0, 1, 0, 0, 0, 0) := rfl
theorem fL_c8_448 : fetch tL_c8 448 = some (.ireturn, 1, 0, 0, 0, 0) := rfl
def tL_c9 : List (Nat × TE) := [(449, .aload_n 1, 1, 1, 0, 0, 0), (450, .aload_n 0, 1, 0, 0, 0, 0), (451, .iload_n 3, 1, 3, 0, 0, 0), (452, .iconst 1, 1, 0, 0, 1, 0), (453, .iadd, 1, 0, 0, 0, 0), (454, .iaload, 1, 0, 0, 0, 0), (455, .invokevirtual 54, 3, 0, 3, 0, 0), (458, .aload_n 2, 1, 2, 0, 0, 0), (459, .aload_n 0, 1, 0, 0, 0, 0), (460, .iload_n 3, 1, 3, 0, 0, 0), (461, .iconst 1, 1, 0, 0, 1, 0), (462, .iadd, 1, 0, 0, 0, 0), (463, .iaload, 1, 0, 0, 0, 0), (464, .invokevirtual 57, 3, 1, 4, 0, 0), (467, .if_icmp .eq 483, 3, 950, 0, 0, 0), (470, .iconst 0, 1, 0, 0, 0, 0), (471, .ireturn, 1, 0, 0, 0, 0)]
theorem tkL_c9 : tOk cL_law "RumourSourceLaw" 4 tL_c9 = true := by decide +kernel
theorem fL_c9_449 : fetch tL_c9 449 = some (.aload_n 1, 1, 1, 0, 0, 0) := rfl
theorem fL_c9_450 : fetch tL_c9 450 = some (.aload_n 0, 1, 0, 0, 0, 0) := rfl
theorem fL_c9_451 : fetch tL_c9 451 = some (.iload_n 3, 1, 3, 0, 0, 0) := rfl
theorem fL_c9_452 : fetch tL_c9 452 = some (.iconst 1, 1, 0, 0, 1, 0) := rfl
theorem fL_c9_453 : fetch tL_c9 453 = some (.iadd, 1, 0, 0, 0, 0) := rfl
theorem fL_c9_454 : fetch tL_c9 454 = some (.iaload, 1, 0, 0, 0, 0) := rfl
theorem fL_c9_455 : fetch tL_c9 455 = some (.invokevirtual 54, 3, 0, 3, 0, 0) := rfl
theorem fL_c9_458 : fetch tL_c9 458 = some (.aload_n 2, 1, 2, 0, 0, 0) := rfl
theorem fL_c9_459 : fetch tL_c9 459 = some (.aload_n 0, 1, 0, 0, 0, 0) := rfl
theorem fL_c9_460 : fetch tL_c9 460 = some (.iload_n 3, 1, 3, 0, 0, 0) := rfl
theorem fL_c9_461 : fetch tL_c9 461 = some (.iconst 1, 1, 0, 0, 1, 0) := rfl
theorem fL_c9_462 : fetch tL_c9 462 = some (.iadd, 1, 0, 0, 0, 0) := rfl
theorem fL_c9_463 : fetch tL_c9 463 = some (.iaload, 1, 0, 0, 0, 0) := rfl
theorem fL_c9_464 : fetch tL_c9 464 = some (.invokevirtual 57, 3, 1, 4, 0, 0) := rfl
theorem fL_c9_467 : fetch tL_c9 467 = some (.if_icmp .eq 483, 3, 950, 0, 0, 0) := rfl
theorem fL_c9_470 : fetch tL_c9 470 = some (.iconst 0, 1, 0, 0, 0, 0) := rfl
theorem fL_c9_471 : fetch tL_c9 471 = some (.ireturn, 1, 0, 0, 0, 0) := rfl
def tL_c10 : List (Nat × TE) := [(472, .aload_n 1, 1, 1, 0, 0, 0), (473, .aload_n 0, 1, 0, 0, 0, 0), (474, .iload_n 3, 1, 3, 0, 0, 0), (475, .iconst 1, 1, 0, 0, 1, 0), (476, .iadd, 1, 0, 0, 0, 0), (477, .iaload, 1, 0, 0, 0, 0), (478, .invokevirtual 58, 3, 0, 3, 0, 0), (481, .aload_n 2, 1, 2, 0, 0, 0), (482, .aload_n 0, 1, 0, 0, 0, 0), (483, .iload_n 3, 1, 3, 0, 0, 0), (484, .iconst 1, 1, 0, 0, 1, 0), (485, .iadd, 1, 0, 0, 0, 0), (486, .iaload, 1, 0, 0, 0, 0), (487, .invokevirtual 61, 3, 1, 4, 0, 0), (490, .if_icmp .eq 460, 3, 950, 0, 0, 0), (493, .iconst 0, 1, 0, 0, 0, 0), (494, .ireturn, 1, 0, 0, 0, 0)]
theorem tkL_c10 : tOk cL_law "RumourSourceLaw" 4 tL_c10 = true := by decide +kernel
theorem fL_c10_472 : fetch tL_c10 472 = some (.aload_n 1, 1, 1, 0, 0, 0) := rfl
theorem fL_c10_473 : fetch tL_c10 473 = some (.aload_n 0, 1, 0, 0, 0, 0) := rfl
theorem fL_c10_474 : fetch tL_c10 474 = some (.iload_n 3, 1, 3, 0, 0, 0) := rfl
theorem fL_c10_475 : fetch tL_c10 475 = some (.iconst 1, 1, 0, 0, 1, 0) := rfl
theorem fL_c10_476 : fetch tL_c10 476 = some (.iadd, 1, 0, 0, 0, 0) := rfl
theorem fL_c10_477 : fetch tL_c10 477 = some (.iaload, 1, 0, 0, 0, 0) := rfl
theorem fL_c10_478 : fetch tL_c10 478 = some (.invokevirtual 58, 3, 0, 3, 0, 0) := rfl
theorem fL_c10_481 : fetch tL_c10 481 = some (.aload_n 2, 1, 2, 0, 0, 0) := rfl
theorem fL_c10_482 : fetch tL_c10 482 = some (.aload_n 0, 1, 0, 0, 0, 0) := rfl
theorem fL_c10_483 : fetch tL_c10 483 = some (.iload_n 3, 1, 3, 0, 0, 0) := rfl
theorem fL_c10_484 : fetch tL_c10 484 = some (.iconst 1, 1, 0, 0, 1, 0) := rfl
theorem fL_c10_485 : fetch tL_c10 485 = some (.iadd, 1, 0, 0, 0, 0) := rfl
theorem fL_c10_486 : fetch tL_c10 486 = some (.iaload, 1, 0, 0, 0, 0) := rfl
theorem fL_c10_487 : fetch tL_c10 487 = some (.invokevirtual 61, 3, 1, 4, 0, 0) := rfl
theorem fL_c10_490 : fetch tL_c10 490 = some (.if_icmp .eq 460, 3, 950, 0, 0, 0) := rfl
theorem fL_c10_493 : fetch tL_c10 493 = some (.iconst 0, 1, 0, 0, 0, 0) := rfl
theorem fL_c10_494 : fetch tL_c10 494 = some (.ireturn, 1, 0, 0, 0, 0) := rfl
def tL_c11 : List (Nat × TE) := [(495, .aload_n 1, 1, 1, 0, 0, 0), (496, .aload_n 0, 1, 0, 0, 0, 0), (497, .iload_n 3, 1, 3, 0, 0, 0), (498, .iconst 1, 1, 0, 0, 1, 0), (499, .iadd, 1, 0, 0, 0, 0), (500, .iaload, 1, 0, 0, 0, 0), (501, .aload_n 0, 1, 0, 0, 0, 0), (502, .iload_n 3, 1, 3, 0, 0, 0), (503, .iconst 2, 1, 0, 0, 2, 0), (504, .iadd, 1, 0, 0, 0, 0), (505, .iaload, 1, 0, 0, 0, 0), (506, .invokevirtual 62, 3, 0, 3, 0, 0), (509, .aload_n 2, 1, 2, 0, 0, 0), (510, .aload_n 0, 1, 0, 0, 0, 0), (511, .iload_n 3, 1, 3, 0, 0, 0), (512, .iconst 1, 1, 0, 0, 1, 0), (513, .iadd, 1, 0, 0, 0, 0), (514, .iaload, 1, 0, 0, 0, 0), (515, .aload_n 0, 1, 0, 0, 0, 0), (516, .iload_n 3, 1, 3, 0, 0, 0), (517, .iconst 2, 1, 0, 0, 2, 0), (518, .iadd, 1, 0, 0, 0, 0), (519, .iaload, 1, 0, 0, 0, 0), (520, .invokevirtual 65, 3, 1, 4, 0, 0), (523, .if_icmp .eq 427, 3, 950, 0, 0, 0), (526, .iconst 0, 1, 0, 0, 0, 0), (527, .ireturn, 1, 0, 0, 0, 0)]
theorem tkL_c11 : tOk cL_law "RumourSourceLaw" 4 tL_c11 = true := by decide +kernel
theorem fL_c11_495 : fetch tL_c11 495 = some (.aload_n 1, 1, 1, 0, 0, 0) := rfl
theorem fL_c11_496 : fetch tL_c11 496 = some (.aload_n 0, 1, 0, 0, 0, 0) := rfl
theorem fL_c11_497 : fetch tL_c11 497 = some (.iload_n 3, 1, 3, 0, 0, 0) := rfl
theorem fL_c11_498 : fetch tL_c11 498 = some (.iconst 1, 1, 0, 0, 1, 0) := rfl
theorem fL_c11_499 : fetch tL_c11 499 = some (.iadd, 1, 0, 0, 0, 0) := rfl
theorem fL_c11_500 : fetch tL_c11 500 = some (.iaload, 1, 0, 0, 0, 0) := rfl
theorem fL_c11_501 : fetch tL_c11 501 = some (.aload_n 0, 1, 0, 0, 0, 0) := rfl
theorem fL_c11_502 : fetch tL_c11 502 = some (.iload_n 3, 1, 3, 0, 0, 0) := rfl
theorem fL_c11_503 : fetch tL_c11 503 = some (.iconst 2, 1, 0, 0, 2, 0) := rfl
theorem fL_c11_504 : fetch tL_c11 504 = some (.iadd, 1, 0, 0, 0, 0) := rfl
theorem fL_c11_505 : fetch tL_c11 505 = some (.iaload, 1, 0, 0, 0, 0) := rfl
theorem fL_c11_506 : fetch tL_c11 506 = some (.invokevirtual 62, 3, 0, 3, 0, 0) := rfl
theorem fL_c11_509 : fetch tL_c11 509 = some (.aload_n 2, 1, 2, 0, 0, 0) := rfl
theorem fL_c11_510 : fetch tL_c11 510 = some (.aload_n 0, 1, 0, 0, 0, 0) := rfl
theorem fL_c11_511 : fetch tL_c11 511 = some (.iload_n 3, 1, 3, 0, 0, 0) := rfl
theorem fL_c11_512 : fetch tL_c11 512 = some (.iconst 1, 1, 0, 0, 1, 0) := rfl
theorem fL_c11_513 : fetch tL_c11 513 = some (.iadd, 1, 0, 0, 0, 0) := rfl
theorem fL_c11_514 : fetch tL_c11 514 = some (.iaload, 1, 0, 0, 0, 0) := rfl
theorem fL_c11_515 : fetch tL_c11 515 = some (.aload_n 0, 1, 0, 0, 0, 0) := rfl
theorem fL_c11_516 : fetch tL_c11 516 = some (.iload_n 3, 1, 3, 0, 0, 0) := rfl
theorem fL_c11_517 : fetch tL_c11 517 = some (.iconst 2, 1, 0, 0, 2, 0) := rfl
theorem fL_c11_518 : fetch tL_c11 518 = some (.iadd, 1, 0, 0, 0, 0) := rfl
theorem fL_c11_519 : fetch tL_c11 519 = some (.iaload, 1, 0, 0, 0, 0) := rfl
theorem fL_c11_520 : fetch tL_c11 520 = some (.invokevirtual 65, 3, 1, 4, 0, 0) := rfl
theorem fL_c11_523 : fetch tL_c11 523 = some (.if_icmp .eq 427, 3, 950, 0, 0, 0) := rfl
theorem fL_c11_526 : fetch tL_c11 526 = some (.iconst 0, 1, 0, 0, 0, 0) := rfl
theorem fL_c11_527 : fetch tL_c11 527 = some (.ireturn, 1, 0, 0, 0, 0) := rfl
def tL_c12 : List (Nat × TE) := [(528, .aload_n 1, 1, 1, 0, 0, 0), (529, .aload_n 0, 1, 0, 0, 0, 0), (530, .iload_n 3, 1, 3, 0, 0, 0), (531, .iconst 1, 1, 0, 0, 1, 0), (532, .iadd, 1, 0, 0, 0, 0), (533, .iaload, 1, 0, 0, 0, 0), (534, .aload_n 0, 1, 0, 0, 0, 0), (535, .iload_n 3, 1, 3, 0, 0, 0), (536, .iconst 2, 1, 0, 0, 2, 0), (537, .iadd, 1, 0, 0, 0, 0), (538, .iaload, 1, 0, 0, 0, 0), (539, .aload_n 0, 1, 0, 0, 0, 0), (540, .iload_n 3, 1, 3, 0, 0, 0), (541, .iconst 3, 1, 0, 0, 3, 0), (542, .iadd, 1, 0, 0, 0, 0), (543, .iaload, 1, 0, 0, 0, 0), (544, .invokevirtual 66, 3, 0, 3, 0, 0), (547, .aload_n 2, 1, 2, 0, 0, 0), (548, .aload_n 0, 1, 0, 0, 0, 0), (549, .iload_n 3, 1, 3, 0, 0, 0), (550, .iconst 1, 1, 0, 0, 1, 0), (551, .iadd, 1, 0, 0, 0, 0), (552, .iaload, 1, 0, 0, 0, 0), (553, .aload_n 0, 1, 0, 0, 0, 0), (554, .iload_n 3, 1, 3, 0, 0, 0), (555, .iconst 2, 1, 0, 0, 2, 0), (556, .iadd, 1, 0, 0, 0, 0), (557, .iaload, 1, 0, 0, 0, 0), (558, .aload_n 0, 1, 0, 0, 0, 0), (559, .iload_n 3, 1, 3, 0, 0, 0), (560, .iconst 3, 1, 0, 0, 3, 0), (561, .iadd, 1, 0, 0, 0, 0), (562, .iaload, 1, 0, 0, 0, 0), (563, .invokevirtual 69, 3, 1, 4, 0, 0), (566, .if_icmp .eq 384, 3, 950, 0, 0, 0), (569, .iconst 0, 1, 0, 0, 0, 0), (570, .ireturn, 1, 0, 0, 0, 0)]
theorem tkL_c12 : tOk cL_law "RumourSourceLaw" 4 tL_c12 = true := by decide +kernel
theorem fL_c12_528 : fetch tL_c12 528 = some (.aload_n 1, 1, 1, 0, 0, 0) := rfl
theorem fL_c12_529 : fetch tL_c12 529 = some (.aload_n 0, 1, 0, 0, 0, 0) := rfl
theorem fL_c12_530 : fetch tL_c12 530 = some (.iload_n 3, 1, 3, 0, 0, 0) := rfl
theorem fL_c12_531 : fetch tL_c12 531 = some (.iconst 1, 1, 0, 0, 1, 0) := rfl
theorem fL_c12_532 : fetch tL_c12 532 = some (.iadd, 1, 0, 0, 0, 0) := rfl
theorem fL_c12_533 : fetch tL_c12 533 = some (.iaload, 1, 0, 0, 0, 0) := rfl
theorem fL_c12_534 : fetch tL_c12 534 = some (.aload_n 0, 1, 0, 0, 0, 0) := rfl
theorem fL_c12_535 : fetch tL_c12 535 = some (.iload_n 3, 1, 3, 0, 0, 0) := rfl
theorem fL_c12_536 : fetch tL_c12 536 = some (.iconst 2, 1, 0, 0, 2, 0) := rfl
theorem fL_c12_537 : fetch tL_c12 537 = some (.iadd, 1, 0, 0, 0, 0) := rfl
theorem fL_c12_538 : fetch tL_c12 538 = some (.iaload, 1, 0, 0, 0, 0) := rfl
theorem fL_c12_539 : fetch tL_c12 539 = some (.aload_n 0, 1, 0, 0, 0, 0) := rfl
theorem fL_c12_540 : fetch tL_c12 540 = some (.iload_n 3, 1, 3, 0, 0, 0) := rfl
theorem fL_c12_541 : fetch tL_c12 541 = some (.iconst 3, 1, 0, 0, 3, 0) := rfl
theorem fL_c12_542 : fetch tL_c12 542 = some (.iadd, 1, 0, 0, 0, 0) := rfl
theorem fL_c12_543 : fetch tL_c12 543 = some (.iaload, 1, 0, 0, 0, 0) := rfl
theorem fL_c12_544 : fetch tL_c12 544 = some (.invokevirtual 66, 3, 0, 3, 0, 0) := rfl
theorem fL_c12_547 : fetch tL_c12 547 = some (.aload_n 2, 1, 2, 0, 0, 0) := rfl
theorem fL_c12_548 : fetch tL_c12 548 = some (.aload_n 0, 1, 0, 0, 0, 0) := rfl
theorem fL_c12_549 : fetch tL_c12 549 = some (.iload_n 3, 1, 3, 0, 0, 0) := rfl
theorem fL_c12_550 : fetch tL_c12 550 = some (.iconst 1, 1, 0, 0, 1, 0) := rfl
theorem fL_c12_551 : fetch tL_c12 551 = some (.iadd, 1, 0, 0, 0, 0) := rfl
theorem fL_c12_552 : fetch tL_c12 552 = some (.iaload, 1, 0, 0, 0, 0) := rfl
theorem fL_c12_553 : fetch tL_c12 553 = some (.aload_n 0, 1, 0, 0, 0, 0) := rfl
theorem fL_c12_554 : fetch tL_c12 554 = some (.iload_n 3, 1, 3, 0, 0, 0) := rfl
theorem fL_c12_555 : fetch tL_c12 555 = some (.iconst 2, 1, 0, 0, 2, 0) := rfl
theorem fL_c12_556 : fetch tL_c12 556 = some (.iadd, 1, 0, 0, 0, 0) := rfl
theorem fL_c12_557 : fetch tL_c12 557 = some (.iaload, 1, 0, 0, 0, 0) := rfl
theorem fL_c12_558 : fetch tL_c12 558 = some (.aload_n 0, 1, 0, 0, 0, 0) := rfl
theorem fL_c12_559 : fetch tL_c12 559 = some (.iload_n 3, 1, 3, 0, 0, 0) := rfl
theorem fL_c12_560 : fetch tL_c12 560 = some (.iconst 3, 1, 0, 0, 3, 0) := rfl
theorem fL_c12_561 : fetch tL_c12 561 = some (.iadd, 1, 0, 0, 0, 0) := rfl
theorem fL_c12_562 : fetch tL_c12 562 = some (.iaload, 1, 0, 0, 0, 0) := rfl
theorem fL_c12_563 : fetch tL_c12 563 = some (.invokevirtual 69, 3, 1, 4, 0, 0) := rfl
theorem fL_c12_566 : fetch tL_c12 566 = some (.if_icmp .eq 384, 3, 950, 0, 0, 0) := rfl
theorem fL_c12_569 : fetch tL_c12 569 = some (.iconst 0, 1, 0, 0, 0, 0) := rfl
theorem fL_c12_570 : fetch tL_c12 570 = some (.ireturn, 1, 0, 0, 0, 0) := rfl
def tL_c13 : List (Nat × TE) := [(571, .aload_n 1, 1, 1, 0, 0, 0), (572, .aload_n 0, 1, 0, 0, 0, 0), (573, .iload_n 3, 1, 3, 0, 0, 0), (574, .iconst 1, 1, 0, 0, 1, 0), (575, .iadd, 1, 0, 0, 0, 0), (576, .iaload, 1, 0, 0, 0, 0), (577, .invokevirtual 70, 3, 0, 3, 0, 0), (580, .aload_n 2, 1, 2, 0, 0, 0), (581, .aload_n 0, 1, 0, 0, 0, 0), (582, .iload_n 3, 1, 3, 0, 0, 0), (583, .iconst 1, 1, 0, 0, 1, 0), (584, .iadd, 1, 0, 0, 0, 0), (585, .iaload, 1, 0, 0, 0, 0), (586, .invokevirtual 74, 3, 1, 4, 0, 0), (589, .lcmp, 1, 0, 0, 0, 0), (590, .ifCond .eq 360, 3, 950, 0, 0, 0), (593, .iconst 0, 1, 0, 0, 0, 0), (594, .ireturn, 1, 0, 0, 0, 0)]
theorem tkL_c13 : tOk cL_law "RumourSourceLaw" 4 tL_c13 = true := by decide +kernel
theorem fL_c13_571 : fetch tL_c13 571 = some (.aload_n 1, 1, 1, 0, 0, 0) := rfl
theorem fL_c13_572 : fetch tL_c13 572 = some (.aload_n 0, 1, 0, 0, 0, 0) := rfl
theorem fL_c13_573 : fetch tL_c13 573 = some (.iload_n 3, 1, 3, 0, 0, 0) := rfl
theorem fL_c13_574 : fetch tL_c13 574 = some (.iconst 1, 1, 0, 0, 1, 0) := rfl
theorem fL_c13_575 : fetch tL_c13 575 = some (.iadd, 1, 0, 0, 0, 0) := rfl
theorem fL_c13_576 : fetch tL_c13 576 = some (.iaload, 1, 0, 0, 0, 0) := rfl
theorem fL_c13_577 : fetch tL_c13 577 = some (.invokevirtual 70, 3, 0, 3, 0, 0) := rfl
theorem fL_c13_580 : fetch tL_c13 580 = some (.aload_n 2, 1, 2, 0, 0, 0) := rfl
theorem fL_c13_581 : fetch tL_c13 581 = some (.aload_n 0, 1, 0, 0, 0, 0) := rfl
theorem fL_c13_582 : fetch tL_c13 582 = some (.iload_n 3, 1, 3, 0, 0, 0) := rfl
theorem fL_c13_583 : fetch tL_c13 583 = some (.iconst 1, 1, 0, 0, 1, 0) := rfl
theorem fL_c13_584 : fetch tL_c13 584 = some (.iadd, 1, 0, 0, 0, 0) := rfl
theorem fL_c13_585 : fetch tL_c13 585 = some (.iaload, 1, 0, 0, 0, 0) := rfl
theorem fL_c13_586 : fetch tL_c13 586 = some (.invokevirtual 74, 3, 1, 4, 0, 0) := rfl
theorem fL_c13_589 : fetch tL_c13 589 = some (.lcmp, 1, 0, 0, 0, 0) := rfl
theorem fL_c13_590 : fetch tL_c13 590 = some (.ifCond .eq 360, 3, 950, 0, 0, 0) := rfl
theorem fL_c13_593 : fetch tL_c13 593 = some (.iconst 0, 1, 0, 0, 0, 0) := rfl
theorem fL_c13_594 : fetch tL_c13 594 = some (.ireturn, 1, 0, 0, 0, 0) := rfl
def tL_c14 : List (Nat × TE) := [(595, .aload_n 1, 1, 1, 0, 0, 0), (596, .aload_n 0, 1, 0, 0, 0, 0), (597, .iload_n 3, 1, 3, 0, 0, 0), (598, .iconst 1, 1, 0, 0, 1, 0), (599, .iadd, 1, 0, 0, 0, 0), (600, .iaload, 1, 0, 0, 0, 0), (601, .aload_n 0, 1, 0, 0, 0, 0), (602, .iload_n 3, 1, 3, 0, 0, 0), (603, .iconst 2, 1, 0, 0, 2, 0), (604, .iadd, 1, 0, 0, 0, 0), (605, .iaload, 1, 0, 0, 0, 0), (606, .invokevirtual 75, 3, 0, 3, 0, 0), (609, .aload_n 2, 1, 2, 0, 0, 0), (610, .aload_n 0, 1, 0, 0, 0, 0), (611, .iload_n 3, 1, 3, 0, 0, 0), (612, .iconst 1, 1, 0, 0, 1, 0), (613, .iadd, 1, 0, 0, 0, 0), (614, .iaload, 1, 0, 0, 0, 0), (615, .aload_n 0, 1, 0, 0, 0, 0), (616, .iload_n 3, 1, 3, 0, 0, 0), (617, .iconst 2, 1, 0, 0, 2, 0), (618, .iadd, 1, 0, 0, 0, 0), (619, .iaload, 1, 0, 0, 0, 0), (620, .invokevirtual 78, 3, 1, 4, 0, 0), (623, .if_icmp .eq 327, 3, 950, 0, 0, 0), (626, .iconst 0, 1, 0, 0, 0, 0), (627, .ireturn, 1, 0, 0, 0, 0)]
theorem tkL_c14 : tOk cL_law "RumourSourceLaw" 4 tL_c14 = true := by decide +kernel
theorem fL_c14_595 : fetch tL_c14 595 = some (.aload_n 1, 1, 1, 0, 0, 0) := rfl
theorem fL_c14_596 : fetch tL_c14 596 = some (.aload_n 0, 1, 0, 0, 0, 0) := rfl
theorem fL_c14_597 : fetch tL_c14 597 = some (.iload_n 3, 1, 3, 0, 0, 0) := rfl
theorem fL_c14_598 : fetch tL_c14 598 = some (.iconst 1, 1, 0, 0, 1, 0) := rfl
theorem fL_c14_599 : fetch tL_c14 599 = some (.iadd, 1, 0, 0, 0, 0) := rfl
theorem fL_c14_600 : fetch tL_c14 600 = some (.iaload, 1, 0, 0, 0, 0) := rfl
theorem fL_c14_601 : fetch tL_c14 601 = some (.aload_n 0, 1, 0, 0, 0, 0) := rfl
theorem fL_c14_602 : fetch tL_c14 602 = some (.iload_n 3, 1, 3, 0, 0, 0) := rfl
theorem fL_c14_603 : fetch tL_c14 603 = some (.iconst 2, 1, 0, 0, 2, 0) := rfl
theorem fL_c14_604 : fetch tL_c14 604 = some (.iadd, 1, 0, 0, 0, 0) := rfl
theorem fL_c14_605 : fetch tL_c14 605 = some (.iaload, 1, 0, 0, 0, 0) := rfl
theorem fL_c14_606 : fetch tL_c14 606 = some (.invokevirtual 75, 3, 0, 3, 0, 0) := rfl
theorem fL_c14_609 : fetch tL_c14 609 = some (.aload_n 2, 1, 2, 0, 0, 0) := rfl
theorem fL_c14_610 : fetch tL_c14 610 = some (.aload_n 0, 1, 0, 0, 0, 0) := rfl
theorem fL_c14_611 : fetch tL_c14 611 = some (.iload_n 3, 1, 3, 0, 0, 0) := rfl
theorem fL_c14_612 : fetch tL_c14 612 = some (.iconst 1, 1, 0, 0, 1, 0) := rfl
theorem fL_c14_613 : fetch tL_c14 613 = some (.iadd, 1, 0, 0, 0, 0) := rfl
theorem fL_c14_614 : fetch tL_c14 614 = some (.iaload, 1, 0, 0, 0, 0) := rfl
theorem fL_c14_615 : fetch tL_c14 615 = some (.aload_n 0, 1, 0, 0, 0, 0) := rfl
theorem fL_c14_616 : fetch tL_c14 616 = some (.iload_n 3, 1, 3, 0, 0, 0) := rfl
theorem fL_c14_617 : fetch tL_c14 617 = some (.iconst 2, 1, 0, 0, 2, 0) := rfl
theorem fL_c14_618 : fetch tL_c14 618 = some (.iadd, 1, 0, 0, 0, 0) := rfl
theorem fL_c14_619 : fetch tL_c14 619 = some (.iaload, 1, 0, 0, 0, 0) := rfl
theorem fL_c14_620 : fetch tL_c14 620 = some (.invokevirtual 78, 3, 1, 4, 0, 0) := rfl
theorem fL_c14_623 : fetch tL_c14 623 = some (.if_icmp .eq 327, 3, 950, 0, 0, 0) := rfl
theorem fL_c14_626 : fetch tL_c14 626 = some (.iconst 0, 1, 0, 0, 0, 0) := rfl
theorem fL_c14_627 : fetch tL_c14 627 = some (.ireturn, 1, 0, 0, 0, 0) := rfl
def tL_c15 : List (Nat × TE) := [(628, .aload_n 1, 1, 1, 0, 0, 0), (629, .aload_n 0, 1, 0, 0, 0, 0), (630, .iload_n 3, 1, 3, 0, 0, 0), (631, .iconst 1, 1, 0, 0, 1, 0), (632, .iadd, 1, 0, 0, 0, 0), (633, .iaload, 1, 0, 0, 0, 0), (634, .aload_n 0, 1, 0, 0, 0, 0), (635, .iload_n 3, 1, 3, 0, 0, 0), (636, .iconst 2, 1, 0, 0, 2, 0), (637, .iadd, 1, 0, 0, 0, 0), (638, .iaload, 1, 0, 0, 0, 0), (639, .aload_n 0, 1, 0, 0, 0, 0), (640, .iload_n 3, 1, 3, 0, 0, 0), (641, .iconst 3, 1, 0, 0, 3, 0), (642, .iadd, 1, 0, 0, 0, 0), (643, .iaload, 1, 0, 0, 0, 0), (644, .invokevirtual 79, 3, 0, 3, 0, 0), (647, .aload_n 2, 1, 2, 0, 0, 0), (648, .aload_n 0, 1, 0, 0, 0, 0), (649, .iload_n 3, 1, 3, 0, 0, 0), (650, .iconst 1, 1, 0, 0, 1, 0), (651, .iadd, 1, 0, 0, 0, 0), (652, .iaload, 1, 0, 0, 0, 0), (653, .aload_n 0, 1, 0, 0, 0, 0), (654, .iload_n 3, 1, 3, 0, 0, 0), (655, .iconst 2, 1, 0, 0, 2, 0), (656, .iadd, 1, 0, 0, 0, 0), (657, .iaload, 1, 0, 0, 0, 0), (658, .aload_n 0, 1, 0, 0, 0, 0), (659, .iload_n 3, 1, 3, 0, 0, 0), (660, .iconst 3, 1, 0, 0, 3, 0), (661, .iadd, 1, 0, 0, 0, 0), (662, .iaload, 1, 0, 0, 0, 0), (663, .invokevirtual 83, 3, 1, 4, 0, 0), (666, .lcmp, 1, 0, 0, 0, 0), (667, .ifCond .eq 283, 3, 950, 0, 0, 0), (670, .iconst 0, 1, 0, 0, 0, 0), (671, .ireturn, 1, 0, 0, 0, 0)]
theorem tkL_c15 : tOk cL_law "RumourSourceLaw" 4 tL_c15 = true := by decide +kernel
theorem fL_c15_628 : fetch tL_c15 628 = some (.aload_n 1, 1, 1, 0, 0, 0) := rfl
theorem fL_c15_629 : fetch tL_c15 629 = some (.aload_n 0, 1, 0, 0, 0, 0) := rfl
theorem fL_c15_630 : fetch tL_c15 630 = some (.iload_n 3, 1, 3, 0, 0, 0) := rfl
theorem fL_c15_631 : fetch tL_c15 631 = some (.iconst 1, 1, 0, 0, 1, 0) := rfl
theorem fL_c15_632 : fetch tL_c15 632 = some (.iadd, 1, 0, 0, 0, 0) := rfl
theorem fL_c15_633 : fetch tL_c15 633 = some (.iaload, 1, 0, 0, 0, 0) := rfl
theorem fL_c15_634 : fetch tL_c15 634 = some (.aload_n 0, 1, 0, 0, 0, 0) := rfl
theorem fL_c15_635 : fetch tL_c15 635 = some (.iload_n 3, 1, 3, 0, 0, 0) := rfl
theorem fL_c15_636 : fetch tL_c15 636 = some (.iconst 2, 1, 0, 0, 2, 0) := rfl
theorem fL_c15_637 : fetch tL_c15 637 = some (.iadd, 1, 0, 0, 0, 0) := rfl
theorem fL_c15_638 : fetch tL_c15 638 = some (.iaload, 1, 0, 0, 0, 0) := rfl
theorem fL_c15_639 : fetch tL_c15 639 = some (.aload_n 0, 1, 0, 0, 0, 0) := rfl
theorem fL_c15_640 : fetch tL_c15 640 = some (.iload_n 3, 1, 3, 0, 0, 0) := rfl
theorem fL_c15_641 : fetch tL_c15 641 = some (.iconst 3, 1, 0, 0, 3, 0) := rfl
theorem fL_c15_642 : fetch tL_c15 642 = some (.iadd, 1, 0, 0, 0, 0) := rfl
theorem fL_c15_643 : fetch tL_c15 643 = some (.iaload, 1, 0, 0, 0, 0) := rfl
theorem fL_c15_644 : fetch tL_c15 644 = some (.invokevirtual 79, 3, 0, 3, 0, 0) := rfl
theorem fL_c15_647 : fetch tL_c15 647 = some (.aload_n 2, 1, 2, 0, 0, 0) := rfl
theorem fL_c15_648 : fetch tL_c15 648 = some (.aload_n 0, 1, 0, 0, 0, 0) := rfl
theorem fL_c15_649 : fetch tL_c15 649 = some (.iload_n 3, 1, 3, 0, 0, 0) := rfl
theorem fL_c15_650 : fetch tL_c15 650 = some (.iconst 1, 1, 0, 0, 1, 0) := rfl
theorem fL_c15_651 : fetch tL_c15 651 = some (.iadd, 1, 0, 0, 0, 0) := rfl
theorem fL_c15_652 : fetch tL_c15 652 = some (.iaload, 1, 0, 0, 0, 0) := rfl
theorem fL_c15_653 : fetch tL_c15 653 = some (.aload_n 0, 1, 0, 0, 0, 0) := rfl
theorem fL_c15_654 : fetch tL_c15 654 = some (.iload_n 3, 1, 3, 0, 0, 0) := rfl
theorem fL_c15_655 : fetch tL_c15 655 = some (.iconst 2, 1, 0, 0, 2, 0) := rfl
theorem fL_c15_656 : fetch tL_c15 656 = some (.iadd, 1, 0, 0, 0, 0) := rfl
theorem fL_c15_657 : fetch tL_c15 657 = some (.iaload, 1, 0, 0, 0, 0) := rfl
theorem fL_c15_658 : fetch tL_c15 658 = some (.aload_n 0, 1, 0, 0, 0, 0) := rfl
theorem fL_c15_659 : fetch tL_c15 659 = some (.iload_n 3, 1, 3, 0, 0, 0) := rfl
theorem fL_c15_660 : fetch tL_c15 660 = some (.iconst 3, 1, 0, 0, 3, 0) := rfl
theorem fL_c15_661 : fetch tL_c15 661 = some (.iadd, 1, 0, 0, 0, 0) := rfl
theorem fL_c15_662 : fetch tL_c15 662 = some (.iaload, 1, 0, 0, 0, 0) := rfl
theorem fL_c15_663 : fetch tL_c15 663 = some (.invokevirtual 83, 3, 1, 4, 0, 0) := rfl
theorem fL_c15_666 : fetch tL_c15 666 = some (.lcmp, 1, 0, 0, 0, 0) := rfl
theorem fL_c15_667 : fetch tL_c15 667 = some (.ifCond .eq 283, 3, 950, 0, 0, 0) := rfl
theorem fL_c15_670 : fetch tL_c15 670 = some (.iconst 0, 1, 0, 0, 0, 0) := rfl
theorem fL_c15_671 : fetch tL_c15 671 = some (.ireturn, 1, 0, 0, 0, 0) := rfl
def tL_c16 : List (Nat × TE) := [(672, .aload_n 1, 1, 1, 0, 0, 0), (673, .aload_n 0, 1, 0, 0, 0, 0), (674, .iload_n 3, 1, 3, 0, 0, 0), (675, .iconst 1, 1, 0, 0, 1, 0), (676, .iadd, 1, 0, 0, 0, 0), (677, .iaload, 1, 0, 0, 0, 0), (678, .invokevirtual 84, 3, 0, 3, 0, 0), (681, .aload_n 2, 1, 2, 0, 0, 0), (682, .aload_n 0, 1, 0, 0, 0, 0), (683, .iload_n 3, 1, 3, 0, 0, 0), (684, .iconst 1, 1, 0, 0, 1, 0), (685, .iadd, 1, 0, 0, 0, 0), (686, .iaload, 1, 0, 0, 0, 0), (687, .invokevirtual 87, 3, 1, 4, 0, 0), (690, .lcmp, 1, 0, 0, 0, 0), (691, .ifCond .eq 259, 3, 950, 0, 0, 0), (694, .iconst 0, 1, 0, 0, 0, 0), (695, .ireturn, 1, 0, 0, 0, 0)]
theorem tkL_c16 : tOk cL_law "RumourSourceLaw" 4 tL_c16 = true := by decide +kernel
theorem fL_c16_672 : fetch tL_c16 672 = some (.aload_n 1, 1, 1, 0, 0, 0) := rfl
theorem fL_c16_673 : fetch tL_c16 673 = some (.aload_n 0, 1, 0, 0, 0, 0) := rfl
theorem fL_c16_674 : fetch tL_c16 674 = some (.iload_n 3, 1, 3, 0, 0, 0) := rfl
theorem fL_c16_675 : fetch tL_c16 675 = some (.iconst 1, 1, 0, 0, 1, 0) := rfl
theorem fL_c16_676 : fetch tL_c16 676 = some (.iadd, 1, 0, 0, 0, 0) := rfl
theorem fL_c16_677 : fetch tL_c16 677 = some (.iaload, 1, 0, 0, 0, 0) := rfl
theorem fL_c16_678 : fetch tL_c16 678 = some (.invokevirtual 84, 3, 0, 3, 0, 0) := rfl
theorem fL_c16_681 : fetch tL_c16 681 = some (.aload_n 2, 1, 2, 0, 0, 0) := rfl
theorem fL_c16_682 : fetch tL_c16 682 = some (.aload_n 0, 1, 0, 0, 0, 0) := rfl
theorem fL_c16_683 : fetch tL_c16 683 = some (.iload_n 3, 1, 3, 0, 0, 0) := rfl
theorem fL_c16_684 : fetch tL_c16 684 = some (.iconst 1, 1, 0, 0, 1, 0) := rfl
theorem fL_c16_685 : fetch tL_c16 685 = some (.iadd, 1, 0, 0, 0, 0) := rfl
theorem fL_c16_686 : fetch tL_c16 686 = some (.iaload, 1, 0, 0, 0, 0) := rfl
theorem fL_c16_687 : fetch tL_c16 687 = some (.invokevirtual 87, 3, 1, 4, 0, 0) := rfl
theorem fL_c16_690 : fetch tL_c16 690 = some (.lcmp, 1, 0, 0, 0, 0) := rfl
theorem fL_c16_691 : fetch tL_c16 691 = some (.ifCond .eq 259, 3, 950, 0, 0, 0) := rfl
theorem fL_c16_694 : fetch tL_c16 694 = some (.iconst 0, 1, 0, 0, 0, 0) := rfl
theorem fL_c16_695 : fetch tL_c16 695 = some (.ireturn, 1, 0, 0, 0, 0) := rfl
def tL_c17 : List (Nat × TE) := [(696, .aload_n 1, 1, 1, 0, 0, 0), (697, .aload_n 0, 1, 0, 0, 0, 0), (698, .iload_n 3, 1, 3, 0, 0, 0), (699, .iconst 1, 1, 0, 0, 1, 0), (700, .iadd, 1, 0, 0, 0, 0), (701, .iaload, 1, 0, 0, 0, 0), (702, .invokevirtual 88, 3, 0, 3, 0, 0), (705, .aload_n 2, 1, 2, 0, 0, 0), (706, .aload_n 0, 1, 0, 0, 0, 0), (707, .iload_n 3, 1, 3, 0, 0, 0), (708, .iconst 1, 1, 0, 0, 1, 0), (709, .iadd, 1, 0, 0, 0, 0), (710, .iaload, 1, 0, 0, 0, 0), (711, .invokevirtual 91, 3, 1, 4, 0, 0), (714, .lcmp, 1, 0, 0, 0, 0), (715, .ifCond .eq 235, 3, 950, 0, 0, 0), (718, .iconst 0, 1, 0, 0, 0, 0), (719, .ireturn, 1, 0, 0, 0, 0)]
theorem tkL_c17 : tOk cL_law "RumourSourceLaw" 4 tL_c17 = true := by decide +kernel
theorem fL_c17_696 : fetch tL_c17 696 = some (.aload_n 1, 1, 1, 0, 0, 0) := rfl
theorem fL_c17_697 : fetch tL_c17 697 = some (.aload_n 0, 1, 0, 0, 0, 0) := rfl
theorem fL_c17_698 : fetch tL_c17 698 = some (.iload_n 3, 1, 3, 0, 0, 0) := rfl
theorem fL_c17_699 : fetch tL_c17 699 = some (.iconst 1, 1, 0, 0, 1, 0) := rfl
theorem fL_c17_700 : fetch tL_c17 700 = some (.iadd, 1, 0, 0, 0, 0) := rfl
theorem fL_c17_701 : fetch tL_c17 701 = some (.iaload, 1, 0, 0, 0, 0) := rfl
theorem fL_c17_702 : fetch tL_c17 702 = some (.invokevirtual 88, 3, 0, 3, 0, 0) := rfl
theorem fL_c17_705 : fetch tL_c17 705 = some (.aload_n 2, 1, 2, 0, 0, 0) := rfl
theorem fL_c17_706 : fetch tL_c17 706 = some (.aload_n 0, 1, 0, 0, 0, 0) := rfl
theorem fL_c17_707 : fetch tL_c17 707 = some (.iload_n 3, 1, 3, 0, 0, 0) := rfl
theorem fL_c17_708 : fetch tL_c17 708 = some (.iconst 1, 1, 0, 0, 1, 0) := rfl
theorem fL_c17_709 : fetch tL_c17 709 = some (.iadd, 1, 0, 0, 0, 0) := rfl
theorem fL_c17_710 : fetch tL_c17 710 = some (.iaload, 1, 0, 0, 0, 0) := rfl
theorem fL_c17_711 : fetch tL_c17 711 = some (.invokevirtual 91, 3, 1, 4, 0, 0) := rfl
theorem fL_c17_714 : fetch tL_c17 714 = some (.lcmp, 1, 0, 0, 0, 0) := rfl
theorem fL_c17_715 : fetch tL_c17 715 = some (.ifCond .eq 235, 3, 950, 0, 0, 0) := rfl
theorem fL_c17_718 : fetch tL_c17 718 = some (.iconst 0, 1, 0, 0, 0, 0) := rfl
theorem fL_c17_719 : fetch tL_c17 719 = some (.ireturn, 1, 0, 0, 0, 0) := rfl
def tL_c18 : List (Nat × TE) := [(720, .aload_n 1, 1, 1, 0, 0, 0), (721, .invokevirtual 92, 3, 0, 3, 0, 0), (724, .aload_n 2, 1, 2, 0, 0, 0), (725, .invokevirtual 95, 3, 1, 4, 0, 0), (728, .if_icmp .eq 222, 3, 950, 0, 0, 0), (731, .iconst 0, 1, 0, 0, 0, 0), (732, .ireturn, 1, 0, 0, 0, 0)]
theorem tkL_c18 : tOk cL_law "RumourSourceLaw" 4 tL_c18 = true := by decide +kernel
theorem fL_c18_720 : fetch tL_c18 720 = some (.aload_n 1, 1, 1, 0, 0, 0) := rfl
theorem fL_c18_721 : fetch tL_c18 721 = some (.invokevirtual 92, 3, 0, 3, 0, 0) := rfl
theorem fL_c18_724 : fetch tL_c18 724 = some (.aload_n 2, 1, 2, 0, 0, 0) := rfl
theorem fL_c18_725 : fetch tL_c18 725 = some (.invokevirtual 95, 3, 1, 4, 0, 0) := rfl
theorem fL_c18_728 : fetch tL_c18 728 = some (.if_icmp .eq 222, 3, 950, 0, 0, 0) := rfl
theorem fL_c18_731 : fetch tL_c18 731 = some (.iconst 0, 1, 0, 0, 0, 0) := rfl
theorem fL_c18_732 : fetch tL_c18 732 = some (.ireturn, 1, 0, 0, 0, 0) := rfl
def tL_c19 : List (Nat × TE) := [(733, .aload_n 1, 1, 1, 0, 0, 0), (734, .aload_n 0, 1, 0, 0, 0, 0), (735, .iload_n 3, 1, 3, 0, 0, 0), (736, .iconst 1, 1, 0, 0, 1, 0), (737, .iadd, 1, 0, 0, 0, 0), (738, .iaload, 1, 0, 0, 0, 0), (739, .invokevirtual 96, 3, 0, 3, 0, 0), (742, .aload_n 2, 1, 2, 0, 0, 0), (743, .aload_n 0, 1, 0, 0, 0, 0), (744, .iload_n 3, 1, 3, 0, 0, 0), (745, .iconst 1, 1, 0, 0, 1, 0), (746, .iadd, 1, 0, 0, 0, 0), (747, .iaload, 1, 0, 0, 0, 0), (748, .invokevirtual 99, 3, 1, 4, 0, 0), (751, .if_icmp .eq 199, 3, 950, 0, 0, 0), (754, .iconst 0, 1, 0, 0, 0, 0), (755, .ireturn, 1, 0, 0, 0, 0)]
theorem tkL_c19 : tOk cL_law "RumourSourceLaw" 4 tL_c19 = true := by decide +kernel
theorem fL_c19_733 : fetch tL_c19 733 = some (.aload_n 1, 1, 1, 0, 0, 0) := rfl
theorem fL_c19_734 : fetch tL_c19 734 = some (.aload_n 0, 1, 0, 0, 0, 0) := rfl
theorem fL_c19_735 : fetch tL_c19 735 = some (.iload_n 3, 1, 3, 0, 0, 0) := rfl
theorem fL_c19_736 : fetch tL_c19 736 = some (.iconst 1, 1, 0, 0, 1, 0) := rfl
theorem fL_c19_737 : fetch tL_c19 737 = some (.iadd, 1, 0, 0, 0, 0) := rfl
theorem fL_c19_738 : fetch tL_c19 738 = some (.iaload, 1, 0, 0, 0, 0) := rfl
theorem fL_c19_739 : fetch tL_c19 739 = some (.invokevirtual 96, 3, 0, 3, 0, 0) := rfl
theorem fL_c19_742 : fetch tL_c19 742 = some (.aload_n 2, 1, 2, 0, 0, 0) := rfl
theorem fL_c19_743 : fetch tL_c19 743 = some (.aload_n 0, 1, 0, 0, 0, 0) := rfl
theorem fL_c19_744 : fetch tL_c19 744 = some (.iload_n 3, 1, 3, 0, 0, 0) := rfl
theorem fL_c19_745 : fetch tL_c19 745 = some (.iconst 1, 1, 0, 0, 1, 0) := rfl
theorem fL_c19_746 : fetch tL_c19 746 = some (.iadd, 1, 0, 0, 0, 0) := rfl
theorem fL_c19_747 : fetch tL_c19 747 = some (.iaload, 1, 0, 0, 0, 0) := rfl
theorem fL_c19_748 : fetch tL_c19 748 = some (.invokevirtual 99, 3, 1, 4, 0, 0) := rfl
theorem fL_c19_751 : fetch tL_c19 751 = some (.if_icmp .eq 199, 3, 950, 0, 0, 0) := rfl
theorem fL_c19_754 : fetch tL_c19 754 = some (.iconst 0, 1, 0, 0, 0, 0) := rfl
theorem fL_c19_755 : fetch tL_c19 755 = some (.ireturn, 1, 0, 0, 0, 0) := rfl
def tL_c20 : List (Nat × TE) := [(756, .aload_n 1, 1, 1, 0, 0, 0), (757, .aload_n 0, 1, 0, 0, 0, 0), (758, .iload_n 3, 1, 3, 0, 0, 0), (759, .iconst 1, 1, 0, 0, 1, 0), (760, .iadd, 1, 0, 0, 0, 0), (761, .iaload, 1, 0, 0, 0, 0), (762, .invokevirtual 100, 3, 0, 3, 0, 0), (765, .aload_n 2, 1, 2, 0, 0, 0), (766, .aload_n 0, 1, 0, 0, 0, 0), (767, .iload_n 3, 1, 3, 0, 0, 0), (768, .iconst 1, 1, 0, 0, 1, 0), (769, .iadd, 1, 0, 0, 0, 0), (770, .iaload, 1, 0, 0, 0, 0), (771, .invokevirtual 103, 3, 1, 4, 0, 0), (774, .if_icmp .eq 176, 3, 950, 0, 0, 0), (777, .iconst 0, 1, 0, 0, 0, 0), (778, .ireturn, 1, 0, 0, 0, 0)]
theorem tkL_c20 : tOk cL_law "RumourSourceLaw" 4 tL_c20 = true := by decide +kernel
theorem fL_c20_756 : fetch tL_c20 756 = some (.aload_n 1, 1, 1, 0, 0, 0) := rfl
theorem fL_c20_757 : fetch tL_c20 757 = some (.aload_n 0, 1, 0, 0, 0, 0) := rfl
theorem fL_c20_758 : fetch tL_c20 758 = some (.iload_n 3, 1, 3, 0, 0, 0) := rfl
theorem fL_c20_759 : fetch tL_c20 759 = some (.iconst 1, 1, 0, 0, 1, 0) := rfl
theorem fL_c20_760 : fetch tL_c20 760 = some (.iadd, 1, 0, 0, 0, 0) := rfl
theorem fL_c20_761 : fetch tL_c20 761 = some (.iaload, 1, 0, 0, 0, 0) := rfl
theorem fL_c20_762 : fetch tL_c20 762 = some (.invokevirtual 100, 3, 0, 3, 0, 0) := rfl
theorem fL_c20_765 : fetch tL_c20 765 = some (.aload_n 2, 1, 2, 0, 0, 0) := rfl
theorem fL_c20_766 : fetch tL_c20 766 = some (.aload_n 0, 1, 0, 0, 0, 0) := rfl
theorem fL_c20_767 : fetch tL_c20 767 = some (.iload_n 3, 1, 3, 0, 0, 0) := rfl
theorem fL_c20_768 : fetch tL_c20 768 = some (.iconst 1, 1, 0, 0, 1, 0) := rfl
theorem fL_c20_769 : fetch tL_c20 769 = some (.iadd, 1, 0, 0, 0, 0) := rfl
theorem fL_c20_770 : fetch tL_c20 770 = some (.iaload, 1, 0, 0, 0, 0) := rfl
theorem fL_c20_771 : fetch tL_c20 771 = some (.invokevirtual 103, 3, 1, 4, 0, 0) := rfl
theorem fL_c20_774 : fetch tL_c20 774 = some (.if_icmp .eq 176, 3, 950, 0, 0, 0) := rfl
theorem fL_c20_777 : fetch tL_c20 777 = some (.iconst 0, 1, 0, 0, 0, 0) := rfl
theorem fL_c20_778 : fetch tL_c20 778 = some (.ireturn, 1, 0, 0, 0, 0) := rfl
def tL_c21 : List (Nat × TE) := [(779, .aload_n 1, 1, 1, 0, 0, 0), (780, .aload_n 0, 1, 0, 0, 0, 0), (781, .iload_n 3, 1, 3, 0, 0, 0), (782, .iconst 1, 1, 0, 0, 1, 0), (783, .iadd, 1, 0, 0, 0, 0), (784, .iaload, 1, 0, 0, 0, 0), (785, .invokevirtual 104, 3, 0, 3, 0, 0), (788, .aload_n 2, 1, 2, 0, 0, 0), (789, .aload_n 0, 1, 0, 0, 0, 0), (790, .iload_n 3, 1, 3, 0, 0, 0), (791, .iconst 1, 1, 0, 0, 1, 0), (792, .iadd, 1, 0, 0, 0, 0), (793, .iaload, 1, 0, 0, 0, 0), (794, .invokevirtual 107, 3, 1, 4, 0, 0), (797, .if_icmp .eq 153, 3, 950, 0, 0, 0), (800, .iconst 0, 1, 0, 0, 0, 0), (801, .ireturn, 1, 0, 0, 0, 0)]
theorem tkL_c21 : tOk cL_law "RumourSourceLaw" 4 tL_c21 = true := by decide +kernel
theorem fL_c21_779 : fetch tL_c21 779 = some (.aload_n 1, 1, 1, 0, 0, 0) := rfl
theorem fL_c21_780 : fetch tL_c21 780 = some (.aload_n 0, 1, 0, 0, 0, 0) := rfl
theorem fL_c21_781 : fetch tL_c21 781 = some (.iload_n 3, 1, 3, 0, 0, 0) := rfl
theorem fL_c21_782 : fetch tL_c21 782 = some (.iconst 1, 1, 0, 0, 1, 0) := rfl
theorem fL_c21_783 : fetch tL_c21 783 = some (.iadd, 1, 0, 0, 0, 0) := rfl
theorem fL_c21_784 : fetch tL_c21 784 = some (.iaload, 1, 0, 0, 0, 0) := rfl
theorem fL_c21_785 : fetch tL_c21 785 = some (.invokevirtual 104, 3, 0, 3, 0, 0) := rfl
theorem fL_c21_788 : fetch tL_c21 788 = some (.aload_n 2, 1, 2, 0, 0, 0) := rfl
theorem fL_c21_789 : fetch tL_c21 789 = some (.aload_n 0, 1, 0, 0, 0, 0) := rfl
theorem fL_c21_790 : fetch tL_c21 790 = some (.iload_n 3, 1, 3, 0, 0, 0) := rfl
theorem fL_c21_791 : fetch tL_c21 791 = some (.iconst 1, 1, 0, 0, 1, 0) := rfl
theorem fL_c21_792 : fetch tL_c21 792 = some (.iadd, 1, 0, 0, 0, 0) := rfl
theorem fL_c21_793 : fetch tL_c21 793 = some (.iaload, 1, 0, 0, 0, 0) := rfl
theorem fL_c21_794 : fetch tL_c21 794 = some (.invokevirtual 107, 3, 1, 4, 0, 0) := rfl
theorem fL_c21_797 : fetch tL_c21 797 = some (.if_icmp .eq 153, 3, 950, 0, 0, 0) := rfl
theorem fL_c21_800 : fetch tL_c21 800 = some (.iconst 0, 1, 0, 0, 0, 0) := rfl
theorem fL_c21_801 : fetch tL_c21 801 = some (.ireturn, 1, 0, 0, 0, 0) := rfl
def tL_c22 : List (Nat × TE) := [(802, .aload_n 1, 1, 1, 0, 0, 0), (803, .invokevirtual 108, 3, 0, 3, 0, 0), (806, .aload_n 2, 1, 2, 0, 0, 0), (807, .invokevirtual 111, 3, 1, 4, 0, 0), (810, .if_icmp .eq 140, 3, 950, 0, 0, 0), (813, .iconst 0, 1, 0, 0, 0, 0), (814, .ireturn, 1, 0, 0, 0, 0)]
theorem tkL_c22 : tOk cL_law "RumourSourceLaw" 4 tL_c22 = true := by decide +kernel
theorem fL_c22_802 : fetch tL_c22 802 = some (.aload_n 1, 1, 1, 0, 0, 0) := rfl
theorem fL_c22_803 : fetch tL_c22 803 = some (.invokevirtual 108, 3, 0, 3, 0, 0) := rfl
theorem fL_c22_806 : fetch tL_c22 806 = some (.aload_n 2, 1, 2, 0, 0, 0) := rfl
theorem fL_c22_807 : fetch tL_c22 807 = some (.invokevirtual 111, 3, 1, 4, 0, 0) := rfl
theorem fL_c22_810 : fetch tL_c22 810 = some (.if_icmp .eq 140, 3, 950, 0, 0, 0) := rfl
theorem fL_c22_813 : fetch tL_c22 813 = some (.iconst 0, 1, 0, 0, 0, 0) := rfl
theorem fL_c22_814 : fetch tL_c22 814 = some (.ireturn, 1, 0, 0, 0, 0) := rfl
def tL_c23 : List (Nat × TE) := [(815, .aload_n 1, 1, 1, 0, 0, 0), (816, .aload_n 0, 1, 0, 0, 0, 0), (817, .iload_n 3, 1, 3, 0, 0, 0), (818, .iconst 1, 1, 0, 0, 1, 0), (819, .iadd, 1, 0, 0, 0, 0), (820, .iaload, 1, 0, 0, 0, 0), (821, .invokevirtual 112, 3, 0, 3, 0, 0), (824, .aload_n 2, 1, 2, 0, 0, 0), (825, .aload_n 0, 1, 0, 0, 0, 0), (826, .iload_n 3, 1, 3, 0, 0, 0), (827, .iconst 1, 1, 0, 0, 1, 0), (828, .iadd, 1, 0, 0, 0, 0), (829, .iaload, 1, 0, 0, 0, 0), (830, .invokevirtual 115, 3, 1, 4, 0, 0), (833, .if_icmp .eq 117, 3, 950, 0, 0, 0), (836, .iconst 0, 1, 0, 0, 0, 0), (837, .ireturn, 1, 0, 0, 0, 0)]
theorem tkL_c23 : tOk cL_law "RumourSourceLaw" 4 tL_c23 = true := by decide +kernel
theorem fL_c23_815 : fetch tL_c23 815 = some (.aload_n 1, 1, 1, 0, 0, 0) := rfl
theorem fL_c23_816 : fetch tL_c23 816 = some (.aload_n 0, 1, 0, 0, 0, 0) := rfl
theorem fL_c23_817 : fetch tL_c23 817 = some (.iload_n 3, 1, 3, 0, 0, 0) := rfl
theorem fL_c23_818 : fetch tL_c23 818 = some (.iconst 1, 1, 0, 0, 1, 0) := rfl
theorem fL_c23_819 : fetch tL_c23 819 = some (.iadd, 1, 0, 0, 0, 0) := rfl
theorem fL_c23_820 : fetch tL_c23 820 = some (.iaload, 1, 0, 0, 0, 0) := rfl
theorem fL_c23_821 : fetch tL_c23 821 = some (.invokevirtual 112, 3, 0, 3, 0, 0) := rfl
theorem fL_c23_824 : fetch tL_c23 824 = some (.aload_n 2, 1, 2, 0, 0, 0) := rfl
theorem fL_c23_825 : fetch tL_c23 825 = some (.aload_n 0, 1, 0, 0, 0, 0) := rfl
theorem fL_c23_826 : fetch tL_c23 826 = some (.iload_n 3, 1, 3, 0, 0, 0) := rfl
theorem fL_c23_827 : fetch tL_c23 827 = some (.iconst 1, 1, 0, 0, 1, 0) := rfl
theorem fL_c23_828 : fetch tL_c23 828 = some (.iadd, 1, 0, 0, 0, 0) := rfl
theorem fL_c23_829 : fetch tL_c23 829 = some (.iaload, 1, 0, 0, 0, 0) := rfl
theorem fL_c23_830 : fetch tL_c23 830 = some (.invokevirtual 115, 3, 1, 4, 0, 0) := rfl
theorem fL_c23_833 : fetch tL_c23 833 = some (.if_icmp .eq 117, 3, 950, 0, 0, 0) := rfl
theorem fL_c23_836 : fetch tL_c23 836 = some (.iconst 0, 1, 0, 0, 0, 0) := rfl
theorem fL_c23_837 : fetch tL_c23 837 = some (.ireturn, 1, 0, 0, 0, 0) := rfl
def tL_c24 : List (Nat × TE) := [(838, .aload_n 1, 1, 1, 0, 0, 0), (839, .aload_n 0, 1, 0, 0, 0, 0), (840, .iload_n 3, 1, 3, 0, 0, 0), (841, .iconst 1, 1, 0, 0, 1, 0), (842, .iadd, 1, 0, 0, 0, 0), (843, .iaload, 1, 0, 0, 0, 0), (844, .invokevirtual 116, 3, 0, 3, 0, 0), (847, .aload_n 2, 1, 2, 0, 0, 0), (848, .aload_n 0, 1, 0, 0, 0, 0), (849, .iload_n 3, 1, 3, 0, 0, 0), (850, .iconst 1, 1, 0, 0, 1, 0), (851, .iadd, 1, 0, 0, 0, 0), (852, .iaload, 1, 0, 0, 0, 0), (853, .invokevirtual 119, 3, 1, 4, 0, 0), (856, .if_icmp .eq 94, 3, 950, 0, 0, 0), (859, .iconst 0, 1, 0, 0, 0, 0), (860, .ireturn, 1, 0, 0, 0, 0)]
theorem tkL_c24 : tOk cL_law "RumourSourceLaw" 4 tL_c24 = true := by decide +kernel
theorem fL_c24_838 : fetch tL_c24 838 = some (.aload_n 1, 1, 1, 0, 0, 0) := rfl
theorem fL_c24_839 : fetch tL_c24 839 = some (.aload_n 0, 1, 0, 0, 0, 0) := rfl
theorem fL_c24_840 : fetch tL_c24 840 = some (.iload_n 3, 1, 3, 0, 0, 0) := rfl
theorem fL_c24_841 : fetch tL_c24 841 = some (.iconst 1, 1, 0, 0, 1, 0) := rfl
theorem fL_c24_842 : fetch tL_c24 842 = some (.iadd, 1, 0, 0, 0, 0) := rfl
theorem fL_c24_843 : fetch tL_c24 843 = some (.iaload, 1, 0, 0, 0, 0) := rfl
theorem fL_c24_844 : fetch tL_c24 844 = some (.invokevirtual 116, 3, 0, 3, 0, 0) := rfl
theorem fL_c24_847 : fetch tL_c24 847 = some (.aload_n 2, 1, 2, 0, 0, 0) := rfl
theorem fL_c24_848 : fetch tL_c24 848 = some (.aload_n 0, 1, 0, 0, 0, 0) := rfl
theorem fL_c24_849 : fetch tL_c24 849 = some (.iload_n 3, 1, 3, 0, 0, 0) := rfl
theorem fL_c24_850 : fetch tL_c24 850 = some (.iconst 1, 1, 0, 0, 1, 0) := rfl
theorem fL_c24_851 : fetch tL_c24 851 = some (.iadd, 1, 0, 0, 0, 0) := rfl
theorem fL_c24_852 : fetch tL_c24 852 = some (.iaload, 1, 0, 0, 0, 0) := rfl
theorem fL_c24_853 : fetch tL_c24 853 = some (.invokevirtual 119, 3, 1, 4, 0, 0) := rfl
theorem fL_c24_856 : fetch tL_c24 856 = some (.if_icmp .eq 94, 3, 950, 0, 0, 0) := rfl
theorem fL_c24_859 : fetch tL_c24 859 = some (.iconst 0, 1, 0, 0, 0, 0) := rfl
theorem fL_c24_860 : fetch tL_c24 860 = some (.ireturn, 1, 0, 0, 0, 0) := rfl
def tL_c25 : List (Nat × TE) := [(861, .aload_n 1, 1, 1, 0, 0, 0), (862, .invokevirtual 120, 3, 0, 3, 0, 0), (865, .aload_n 2, 1, 2, 0, 0, 0), (866, .invokevirtual 123, 3, 1, 4, 0, 0), (869, .if_icmp .eq 81, 3, 950, 0, 0, 0), (872, .iconst 0, 1, 0, 0, 0, 0), (873, .ireturn, 1, 0, 0, 0, 0)]
theorem tkL_c25 : tOk cL_law "RumourSourceLaw" 4 tL_c25 = true := by decide +kernel
theorem fL_c25_861 : fetch tL_c25 861 = some (.aload_n 1, 1, 1, 0, 0, 0) := rfl
theorem fL_c25_862 : fetch tL_c25 862 = some (.invokevirtual 120, 3, 0, 3, 0, 0) := rfl
theorem fL_c25_865 : fetch tL_c25 865 = some (.aload_n 2, 1, 2, 0, 0, 0) := rfl
theorem fL_c25_866 : fetch tL_c25 866 = some (.invokevirtual 123, 3, 1, 4, 0, 0) := rfl
theorem fL_c25_869 : fetch tL_c25 869 = some (.if_icmp .eq 81, 3, 950, 0, 0, 0) := rfl
theorem fL_c25_872 : fetch tL_c25 872 = some (.iconst 0, 1, 0, 0, 0, 0) := rfl
theorem fL_c25_873 : fetch tL_c25 873 = some (.ireturn, 1, 0, 0, 0, 0) := rfl
def tL_c26 : List (Nat × TE) := [(874, .aload_n 1, 1, 1, 0, 0, 0), (875, .aload_n 0, 1, 0, 0, 0, 0), (876, .iload_n 3, 1, 3, 0, 0, 0), (877, .iconst 1, 1, 0, 0, 1, 0), (878, .iadd, 1, 0, 0, 0, 0), (879, .iaload, 1, 0, 0, 0, 0), (880, .invokevirtual 124, 3, 0, 3, 0, 0), (883, .aload_n 2, 1, 2, 0, 0, 0), (884, .aload_n 0, 1, 0, 0, 0, 0), (885, .iload_n 3, 1, 3, 0, 0, 0), (886, .iconst 1, 1, 0, 0, 1, 0), (887, .iadd, 1, 0, 0, 0, 0), (888, .iaload, 1, 0, 0, 0, 0), (889, .invokevirtual 127, 3, 1, 4, 0, 0), (892, .if_icmp .eq 58, 3, 950, 0, 0, 0), (895, .iconst 0, 1, 0, 0, 0, 0), (896, .ireturn, 1, 0, 0, 0, 0)]
theorem tkL_c26 : tOk cL_law "RumourSourceLaw" 4 tL_c26 = true := by decide +kernel
theorem fL_c26_874 : fetch tL_c26 874 = some (.aload_n 1, 1, 1, 0, 0, 0) := rfl
theorem fL_c26_875 : fetch tL_c26 875 = some (.aload_n 0, 1, 0, 0, 0, 0) := rfl
theorem fL_c26_876 : fetch tL_c26 876 = some (.iload_n 3, 1, 3, 0, 0, 0) := rfl
theorem fL_c26_877 : fetch tL_c26 877 = some (.iconst 1, 1, 0, 0, 1, 0) := rfl
theorem fL_c26_878 : fetch tL_c26 878 = some (.iadd, 1, 0, 0, 0, 0) := rfl
theorem fL_c26_879 : fetch tL_c26 879 = some (.iaload, 1, 0, 0, 0, 0) := rfl
theorem fL_c26_880 : fetch tL_c26 880 = some (.invokevirtual 124, 3, 0, 3, 0, 0) := rfl
theorem fL_c26_883 : fetch tL_c26 883 = some (.aload_n 2, 1, 2, 0, 0, 0) := rfl
theorem fL_c26_884 : fetch tL_c26 884 = some (.aload_n 0, 1, 0, 0, 0, 0) := rfl
theorem fL_c26_885 : fetch tL_c26 885 = some (.iload_n 3, 1, 3, 0, 0, 0) := rfl
theorem fL_c26_886 : fetch tL_c26 886 = some (.iconst 1, 1, 0, 0, 1, 0) := rfl
theorem fL_c26_887 : fetch tL_c26 887 = some (.iadd, 1, 0, 0, 0, 0) := rfl
theorem fL_c26_888 : fetch tL_c26 888 = some (.iaload, 1, 0, 0, 0, 0) := rfl
theorem fL_c26_889 : fetch tL_c26 889 = some (.invokevirtual 127, 3, 1, 4, 0, 0) := rfl
theorem fL_c26_892 : fetch tL_c26 892 = some (.if_icmp .eq 58, 3, 950, 0, 0, 0) := rfl
theorem fL_c26_895 : fetch tL_c26 895 = some (.iconst 0, 1, 0, 0, 0, 0) := rfl
theorem fL_c26_896 : fetch tL_c26 896 = some (.ireturn, 1, 0, 0, 0, 0) := rfl
def tL_c27 : List (Nat × TE) := [(897, .aload_n 1, 1, 1, 0, 0, 0), (898, .invokevirtual 128, 3, 0, 3, 0, 0), (901, .aload_n 2, 1, 2, 0, 0, 0), (902, .invokevirtual 131, 3, 1, 4, 0, 0), (905, .if_icmp .eq 45, 3, 950, 0, 0, 0), (908, .iconst 0, 1, 0, 0, 0, 0), (909, .ireturn, 1, 0, 0, 0, 0)]
theorem tkL_c27 : tOk cL_law "RumourSourceLaw" 4 tL_c27 = true := by decide +kernel
theorem fL_c27_897 : fetch tL_c27 897 = some (.aload_n 1, 1, 1, 0, 0, 0) := rfl
theorem fL_c27_898 : fetch tL_c27 898 = some (.invokevirtual 128, 3, 0, 3, 0, 0) := rfl
theorem fL_c27_901 : fetch tL_c27 901 = some (.aload_n 2, 1, 2, 0, 0, 0) := rfl
theorem fL_c27_902 : fetch tL_c27 902 = some (.invokevirtual 131, 3, 1, 4, 0, 0) := rfl
theorem fL_c27_905 : fetch tL_c27 905 = some (.if_icmp .eq 45, 3, 950, 0, 0, 0) := rfl
theorem fL_c27_908 : fetch tL_c27 908 = some (.iconst 0, 1, 0, 0, 0, 0) := rfl
theorem fL_c27_909 : fetch tL_c27 909 = some (.ireturn, 1, 0, 0, 0, 0) := rfl
def tL_c28 : List (Nat × TE) := [(910, .aload_n 1, 1, 1, 0, 0, 0), (911, .invokevirtual 132, 3, 0, 3, 0, 0), (914, .aload_n 2, 1, 2, 0, 0, 0), (915, .invokevirtual 135, 3, 1, 4, 0, 0), (918, .if_icmp .eq 32, 3, 950, 0, 0, 0), (921, .iconst 0, 1, 0, 0, 0, 0), (922, .ireturn, 1, 0, 0, 0, 0)]
theorem tkL_c28 : tOk cL_law "RumourSourceLaw" 4 tL_c28 = true := by decide +kernel
theorem fL_c28_910 : fetch tL_c28 910 = some (.aload_n 1, 1, 1, 0, 0, 0) := rfl
theorem fL_c28_911 : fetch tL_c28 911 = some (.invokevirtual 132, 3, 0, 3, 0, 0) := rfl
theorem fL_c28_914 : fetch tL_c28 914 = some (.aload_n 2, 1, 2, 0, 0, 0) := rfl
theorem fL_c28_915 : fetch tL_c28 915 = some (.invokevirtual 135, 3, 1, 4, 0, 0) := rfl
theorem fL_c28_918 : fetch tL_c28 918 = some (.if_icmp .eq 32, 3, 950, 0, 0, 0) := rfl
theorem fL_c28_921 : fetch tL_c28 921 = some (.iconst 0, 1, 0, 0, 0, 0) := rfl
theorem fL_c28_922 : fetch tL_c28 922 = some (.ireturn, 1, 0, 0, 0, 0) := rfl
def tL_c29 : List (Nat × TE) := [(923, .aload_n 1, 1, 1, 0, 0, 0), (924, .invokevirtual 136, 3, 0, 3, 0, 0), (927, .aload_n 2, 1, 2, 0, 0, 0), (928, .invokevirtual 139, 3, 1, 4, 0, 0), (931, .if_icmp .eq 19, 3, 950, 0, 0, 0), (934, .iconst 0, 1, 0, 0, 0, 0), (935, .ireturn, 1, 0, 0, 0, 0)]
theorem tkL_c29 : tOk cL_law "RumourSourceLaw" 4 tL_c29 = true := by decide +kernel
theorem fL_c29_923 : fetch tL_c29 923 = some (.aload_n 1, 1, 1, 0, 0, 0) := rfl
theorem fL_c29_924 : fetch tL_c29 924 = some (.invokevirtual 136, 3, 0, 3, 0, 0) := rfl
theorem fL_c29_927 : fetch tL_c29 927 = some (.aload_n 2, 1, 2, 0, 0, 0) := rfl
theorem fL_c29_928 : fetch tL_c29 928 = some (.invokevirtual 139, 3, 1, 4, 0, 0) := rfl
theorem fL_c29_931 : fetch tL_c29 931 = some (.if_icmp .eq 19, 3, 950, 0, 0, 0) := rfl
theorem fL_c29_934 : fetch tL_c29 934 = some (.iconst 0, 1, 0, 0, 0, 0) := rfl
theorem fL_c29_935 : fetch tL_c29 935 = some (.ireturn, 1, 0, 0, 0, 0) := rfl
def tL_c30 : List (Nat × TE) := [(936, .aload_n 1, 1, 1, 0, 0, 0), (937, .invokevirtual 140, 3, 0, 3, 0, 0), (940, .aload_n 2, 1, 2, 0, 0, 0), (941, .invokevirtual 144, 3, 1, 4, 0, 0), (944, .lcmp, 1, 0, 0, 0, 0), (945, .ifCond .eq 5, 3, 950, 0, 0, 0), (948, .iconst 0, 1, 0, 0, 0, 0), (949, .ireturn, 1, 0, 0, 0, 0)]
theorem tkL_c30 : tOk cL_law "RumourSourceLaw" 4 tL_c30 = true := by decide +kernel
theorem fL_c30_936 : fetch tL_c30 936 = some (.aload_n 1, 1, 1, 0, 0, 0) := rfl
theorem fL_c30_937 : fetch tL_c30 937 = some (.invokevirtual 140, 3, 0, 3, 0, 0) := rfl
theorem fL_c30_940 : fetch tL_c30 940 = some (.aload_n 2, 1, 2, 0, 0, 0) := rfl
theorem fL_c30_941 : fetch tL_c30 941 = some (.invokevirtual 144, 3, 1, 4, 0, 0) := rfl
theorem fL_c30_944 : fetch tL_c30 944 = some (.lcmp, 1, 0, 0, 0, 0) := rfl
theorem fL_c30_945 : fetch tL_c30 945 = some (.ifCond .eq 5, 3, 950, 0, 0, 0) := rfl
theorem fL_c30_948 : fetch tL_c30 948 = some (.iconst 0, 1, 0, 0, 0, 0) := rfl
theorem fL_c30_949 : fetch tL_c30 949 = some (.ireturn, 1, 0, 0, 0, 0) := rfl
end LAWTAB
