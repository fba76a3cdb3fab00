section LAWTAB
def tL_cell : List (Nat × TE) := [(0, .iload_n 1, 1, 1, 0, 0, 0), (1, .aload_n 0, 1, 0, 0, 0, 0), (2, .arraylength, 1, 0, 0, 0, 0), (3, .if_icmp .ge 9, 3, 12, 0, 0, 0), (6, .aload_n 0, 1, 0, 0, 0, 0), (7, .iload_n 1, 1, 1, 0, 0, 0), (8, .iaload, 1, 0, 0, 0, 0), (9, .goto 15, 3, 24, 0, 0, 0), (12, .sipush 7919, 3, 0, 0, 7919, 0), (15, .iload_n 1, 1, 1, 0, 0, 0), (16, .iconst 3, 1, 0, 0, 3, 0), (17, .iadd, 1, 0, 0, 0, 0), (18, .imul, 1, 0, 0, 0, 0), (19, .iload_n 1, 1, 1, 0, 0, 0), (20, .bipush 11, 2, 0, 0, 11, 0), (22, .iadd, 1, 0, 0, 0, 0), (23, .imul, 1, 0, 0, 0, 0), (24, .ireturn, 1, 0, 0, 0, 0)]
theorem tkL_cell : tOk cL_cell "RumourSourceLaw" 2 tL_cell = true := by decide +kernel
set_option maxRecDepth 20000 in
theorem fL_cell_0 : fetch tL_cell 0 = some (.iload_n 1, 1, 1, 0, 0, 0) := rfl
set_option maxRecDepth 20000 in
theorem fL_cell_1 : fetch tL_cell 1 = some (.aload_n 0, 1, 0, 0, 0, 0) := rfl
set_option maxRecDepth 20000 in
theorem fL_cell_2 : fetch tL_cell 2 = some (.arraylength, 1, 0, 0, 0, 0) := rfl
set_option maxRecDepth 20000 in
theorem fL_cell_3 : fetch tL_cell 3 = some (.if_icmp .ge 9, 3, 12, 0, 0, 0) := rfl
set_option maxRecDepth 20000 in
theorem fL_cell_6 : fetch tL_cell 6 = some (.aload_n 0, 1, 0, 0, 0, 0) := rfl
set_option maxRecDepth 20000 in
theorem fL_cell_7 : fetch tL_cell 7 = some (.iload_n 1, 1, 1, 0, 0, 0) := rfl
set_option maxRecDepth 20000 in
theorem fL_cell_8 : fetch tL_cell 8 = some (.iaload, 1, 0, 0, 0, 0) := rfl
set_option maxRecDepth 20000 in
theorem fL_cell_9 : fetch tL_cell 9 = some (.goto 15, 3, 24, 0, 0, 0) := rfl
set_option maxRecDepth 20000 in
theorem fL_cell_12 : fetch tL_cell 12 = some (.sipush 7919, 3, 0, 0, 7919, 0) := rfl
set_option maxRecDepth 20000 in
theorem fL_cell_15 : fetch tL_cell 15 = some (.iload_n 1, 1, 1, 0, 0, 0) := rfl
set_option maxRecDepth 20000 in
theorem fL_cell_16 : fetch tL_cell 16 = some (.iconst 3, 1, 0, 0, 3, 0) := rfl
set_option maxRecDepth 20000 in
theorem fL_cell_17 : fetch tL_cell 17 = some (.iadd, 1, 0, 0, 0, 0) := rfl
set_option maxRecDepth 20000 in
theorem fL_cell_18 : fetch tL_cell 18 = some (.imul, 1, 0, 0, 0, 0) := rfl
set_option maxRecDepth 20000 in
theorem fL_cell_19 : fetch tL_cell 19 = some (.iload_n 1, 1, 1, 0, 0, 0) := rfl
set_option maxRecDepth 20000 in
theorem fL_cell_20 : fetch tL_cell 20 = some (.bipush 11, 2, 0, 0, 11, 0) := rfl
set_option maxRecDepth 20000 in
theorem fL_cell_22 : fetch tL_cell 22 = some (.iadd, 1, 0, 0, 0, 0) := rfl
set_option maxRecDepth 20000 in
theorem fL_cell_23 : fetch tL_cell 23 = some (.imul, 1, 0, 0, 0, 0) := rfl
set_option maxRecDepth 20000 in
theorem fL_cell_24 : fetch tL_cell 24 = some (.ireturn, 1, 0, 0, 0, 0) := rfl
def tL_c0 : List (Nat × TE) := [(8, .aload_n 0, 1, 0, 0, 0, 0), (9, .iconst 0, 1, 0, 0, 0, 0), (10, .invokestatic 95, 3, 0, 0, 0, 0), (13, .istore_n 2, 1, 2, 0, 0, 0), (14, .aload_n 1, 1, 1, 0, 0, 0), (15, .invokevirtual 69, 3, 0, 3, 0, 0), (18, .bipush (-4), 2, 0, 0, (-4), 0), (20, .if_icmp .ne 54, 3, 74, 0, 0, 0), (23, .aload_n 1, 1, 1, 0, 0, 0), (24, .iconst 0, 1, 0, 0, 0, 0), (25, .invokevirtual 14, 3, 1, 3, 0, 0), (28, .lconst 1, 1, 0, 0, 0, 1), (29, .lcmp, 1, 0, 0, 0, 0), (30, .ifCond .ne 44, 3, 74, 0, 0, 0), (33, .aload_n 1, 1, 1, 0, 0, 0), (34, .invokevirtual 48, 3, 2, 3, 0, 0), (37, .bipush 8, 2, 0, 0, 8, 0), (39, .if_icmp .ne 35, 3, 74, 0, 0, 0), (42, .aload_n 1, 1, 1, 0, 0, 0), (43, .invokevirtual 63, 3, 3, 3, 0, 0), (46, .bipush 36, 2, 0, 0, 36, 0), (48, .if_icmp .ne 26, 3, 74, 0, 0, 0), (51, .aload_n 1, 1, 1, 0, 0, 0), (52, .sipush 255, 3, 0, 0, 255, 0), (55, .invokevirtual 43, 3, 4, 3, 0, 0), (58, .ldc2_w 99, 3, 0, 0, 0, 8), (61, .lcmp, 1, 0, 0, 0, 0), (62, .ifCond .ne 12, 3, 74, 0, 0, 0), (65, .aload_n 1, 1, 1, 0, 0, 0), (66, .invokevirtual 101, 3, 5, 3, 0, 0), (69, .bipush (-4), 2, 0, 0, (-4), 0), (71, .if_icmp .eq 5, 3, 76, 0, 0, 0), (74, .iconst 0, 1, 0, 0, 0, 0), (75, .ireturn, 1, 0, 0, 0, 0)]
theorem tkL_c0 : tOk cL_law "RumourSourceLaw" 17 tL_c0 = true := by decide +kernel
set_option maxRecDepth 20000 in
theorem fL_c0_8 : fetch tL_c0 8 = some (.aload_n 0, 1, 0, 0, 0, 0) := rfl
set_option maxRecDepth 20000 in
theorem fL_c0_9 : fetch tL_c0 9 = some (.iconst 0, 1, 0, 0, 0, 0) := rfl
set_option maxRecDepth 20000 in
theorem fL_c0_10 : fetch tL_c0 10 = some (.invokestatic 95, 3, 0, 0, 0, 0) := rfl
set_option maxRecDepth 20000 in
theorem fL_c0_13 : fetch tL_c0 13 = some (.istore_n 2, 1, 2, 0, 0, 0) := rfl
set_option maxRecDepth 20000 in
theorem fL_c0_14 : fetch tL_c0 14 = some (.aload_n 1, 1, 1, 0, 0, 0) := rfl
set_option maxRecDepth 20000 in
theorem fL_c0_15 : fetch tL_c0 15 = some (.invokevirtual 69, 3, 0, 3, 0, 0) := rfl
set_option maxRecDepth 20000 in
theorem fL_c0_18 : fetch tL_c0 18 = some (.bipush (-4), 2, 0, 0, (-4), 0) := rfl
set_option maxRecDepth 20000 in
theorem fL_c0_20 : fetch tL_c0 20 = some (.if_icmp .ne 54, 3, 74, 0, 0, 0) := rfl
set_option maxRecDepth 20000 in
theorem fL_c0_23 : fetch tL_c0 23 = some (.aload_n 1, 1, 1, 0, 0, 0) := rfl
set_option maxRecDepth 20000 in
theorem fL_c0_24 : fetch tL_c0 24 = some (.iconst 0, 1, 0, 0, 0, 0) := rfl
set_option maxRecDepth 20000 in
theorem fL_c0_25 : fetch tL_c0 25 = some (.invokevirtual 14, 3, 1, 3, 0, 0) := rfl
set_option maxRecDepth 20000 in
theorem fL_c0_28 : fetch tL_c0 28 = some (.lconst 1, 1, 0, 0, 0, 1) := rfl
set_option maxRecDepth 20000 in
theorem fL_c0_29 : fetch tL_c0 29 = some (.lcmp, 1, 0, 0, 0, 0) := rfl
set_option maxRecDepth 20000 in
theorem fL_c0_30 : fetch tL_c0 30 = some (.ifCond .ne 44, 3, 74, 0, 0, 0) := rfl
set_option maxRecDepth 20000 in
theorem fL_c0_33 : fetch tL_c0 33 = some (.aload_n 1, 1, 1, 0, 0, 0) := rfl
set_option maxRecDepth 20000 in
theorem fL_c0_34 : fetch tL_c0 34 = some (.invokevirtual 48, 3, 2, 3, 0, 0) := rfl
set_option maxRecDepth 20000 in
theorem fL_c0_37 : fetch tL_c0 37 = some (.bipush 8, 2, 0, 0, 8, 0) := rfl
set_option maxRecDepth 20000 in
theorem fL_c0_39 : fetch tL_c0 39 = some (.if_icmp .ne 35, 3, 74, 0, 0, 0) := rfl
set_option maxRecDepth 20000 in
theorem fL_c0_42 : fetch tL_c0 42 = some (.aload_n 1, 1, 1, 0, 0, 0) := rfl
set_option maxRecDepth 20000 in
theorem fL_c0_43 : fetch tL_c0 43 = some (.invokevirtual 63, 3, 3, 3, 0, 0) := rfl
set_option maxRecDepth 20000 in
theorem fL_c0_46 : fetch tL_c0 46 = some (.bipush 36, 2, 0, 0, 36, 0) := rfl
set_option maxRecDepth 20000 in
theorem fL_c0_48 : fetch tL_c0 48 = some (.if_icmp .ne 26, 3, 74, 0, 0, 0) := rfl
set_option maxRecDepth 20000 in
theorem fL_c0_51 : fetch tL_c0 51 = some (.aload_n 1, 1, 1, 0, 0, 0) := rfl
set_option maxRecDepth 20000 in
theorem fL_c0_52 : fetch tL_c0 52 = some (.sipush 255, 3, 0, 0, 255, 0) := rfl
set_option maxRecDepth 20000 in
theorem fL_c0_55 : fetch tL_c0 55 = some (.invokevirtual 43, 3, 4, 3, 0, 0) := rfl
set_option maxRecDepth 20000 in
theorem fL_c0_58 : fetch tL_c0 58 = some (.ldc2_w 99, 3, 0, 0, 0, 8) := rfl
set_option maxRecDepth 20000 in
theorem fL_c0_61 : fetch tL_c0 61 = some (.lcmp, 1, 0, 0, 0, 0) := rfl
set_option maxRecDepth 20000 in
theorem fL_c0_62 : fetch tL_c0 62 = some (.ifCond .ne 12, 3, 74, 0, 0, 0) := rfl
set_option maxRecDepth 20000 in
theorem fL_c0_65 : fetch tL_c0 65 = some (.aload_n 1, 1, 1, 0, 0, 0) := rfl
set_option maxRecDepth 20000 in
theorem fL_c0_66 : fetch tL_c0 66 = some (.invokevirtual 101, 3, 5, 3, 0, 0) := rfl
set_option maxRecDepth 20000 in
theorem fL_c0_69 : fetch tL_c0 69 = some (.bipush (-4), 2, 0, 0, (-4), 0) := rfl
set_option maxRecDepth 20000 in
theorem fL_c0_71 : fetch tL_c0 71 = some (.if_icmp .eq 5, 3, 76, 0, 0, 0) := rfl
set_option maxRecDepth 20000 in
theorem fL_c0_74 : fetch tL_c0 74 = some (.iconst 0, 1, 0, 0, 0, 0) := rfl
set_option maxRecDepth 20000 in
theorem fL_c0_75 : fetch tL_c0 75 = some (.ireturn, 1, 0, 0, 0, 0) := rfl
def tL_c1 : List (Nat × TE) := [(76, .iconst 0, 1, 0, 0, 0, 0), (77, .istore_n 3, 1, 3, 0, 0, 0), (78, .iload_n 3, 1, 3, 0, 0, 0), (79, .iconst 2, 1, 0, 0, 2, 0), (80, .iload_n 2, 1, 2, 0, 0, 0), (81, .iconst 4, 1, 0, 0, 4, 0), (82, .invokestatic 26, 3, 0, 0, 0, 0), (85, .iadd, 1, 0, 0, 0, 0), (86, .if_icmp .ge 126, 3, 212, 0, 0, 0), (89, .aload_n 0, 1, 0, 0, 0, 0), (90, .iconst 1, 1, 0, 0, 1, 0), (91, .iload_n 3, 1, 3, 0, 0, 0), (92, .iadd, 1, 0, 0, 0, 0), (93, .invokestatic 95, 3, 0, 0, 0, 0), (96, .istore 4, 2, 4, 0, 0, 0), (98, .aload_n 1, 1, 1, 0, 0, 0), (99, .invokevirtual 8, 3, 1, 3, 0, 0), (102, .istore 5, 2, 5, 0, 0, 0), (104, .aload_n 1, 1, 1, 0, 0, 0), (105, .iload 4, 2, 4, 0, 0, 0), (107, .bipush 8, 2, 0, 0, 8, 0), (109, .invokestatic 26, 3, 0, 0, 0, 0), (112, .iload 4, 2, 4, 0, 0, 0), (114, .iconst 3, 1, 0, 0, 3, 0), (115, .ishr, 1, 0, 0, 0, 0), (116, .bipush 8, 2, 0, 0, 8, 0), (118, .invokestatic 26, 3, 0, 0, 0, 0), (121, .iload 4, 2, 4, 0, 0, 0), (123, .bipush 6, 2, 0, 0, 6, 0), (125, .ishr, 1, 0, 0, 0, 0), (126, .bipush 11, 2, 0, 0, 11, 0), (128, .invokestatic 26, 3, 0, 0, 0, 0), (131, .iconst 1, 1, 0, 0, 1, 0), (132, .iload 4, 2, 4, 0, 0, 0), (134, .bipush 10, 2, 0, 0, 10, 0), (136, .ishr, 1, 0, 0, 0, 0), (137, .iconst 5, 1, 0, 0, 5, 0), (138, .invokestatic 26, 3, 0, 0, 0, 0), (141, .iadd, 1, 0, 0, 0, 0), (142, .invokevirtual 72, 3, 2, 3, 0, 0), (145, .istore 6, 2, 6, 0, 0, 0), (147, .iload 6, 2, 6, 0, 0, 0), (149, .ifCond .lt 57, 3, 206, 0, 0, 0), (152, .iload 6, 2, 6, 0, 0, 0), (154, .iload 5, 2, 5, 0, 0, 0), (156, .if_icmp .ne 48, 3, 204, 0, 0, 0), (159, .aload_n 1, 1, 1, 0, 0, 0), (160, .iload 4, 2, 4, 0, 0, 0), (162, .bipush 8, 2, 0, 0, 8, 0), (164, .invokestatic 26, 3, 0, 0, 0, 0), (167, .iload 4, 2, 4, 0, 0, 0), (169, .iconst 3, 1, 0, 0, 3, 0), (170, .ishr, 1, 0, 0, 0, 0), (171, .bipush 8, 2, 0, 0, 8, 0), (173, .invokestatic 26, 3, 0, 0, 0, 0), (176, .invokevirtual 104, 3, 3, 3, 0, 0), (179, .iload 6, 2, 6, 0, 0, 0), (181, .if_icmp .ne 23, 3, 204, 0, 0, 0), (184, .aload_n 1, 1, 1, 0, 0, 0), (185, .iload 6, 2, 6, 0, 0, 0), (187, .iconst 2, 1, 0, 0, 2, 0), (188, .invokevirtual 107, 3, 4, 3, 0, 0), (191, .iload 4, 2, 4, 0, 0, 0), (193, .bipush 6, 2, 0, 0, 6, 0), (195, .ishr, 1, 0, 0, 0, 0), (196, .bipush 11, 2, 0, 0, 11, 0), (198, .invokestatic 26, 3, 0, 0, 0, 0), (201, .if_icmp .eq 5, 3, 206, 0, 0, 0), (204, .iconst 0, 1, 0, 0, 0, 0), (205, .ireturn, 1, 0, 0, 0, 0), (206, .iinc 3 1, 3, 3, 0, 1, 0), (209, .goto (-131), 3, 78, 0, 0, 0)]
theorem tkL_c1 : tOk cL_law "RumourSourceLaw" 17 tL_c1 = true := by decide +kernel
set_option maxRecDepth 20000 in
theorem fL_c1_76 : fetch tL_c1 76 = some (.iconst 0, 1, 0, 0, 0, 0) := rfl
set_option maxRecDepth 20000 in
theorem fL_c1_77 : fetch tL_c1 77 = some (.istore_n 3, 1, 3, 0, 0, 0) := rfl
set_option maxRecDepth 20000 in
theorem fL_c1_78 : fetch tL_c1 78 = some (.iload_n 3, 1, 3, 0, 0, 0) := rfl
set_option maxRecDepth 20000 in
theorem fL_c1_79 : fetch tL_c1 79 = some (.iconst 2, 1, 0, 0, 2, 0) := rfl
set_option maxRecDepth 20000 in
theorem fL_c1_80 : fetch tL_c1 80 = some (.iload_n 2, 1, 2, 0, 0, 0) := rfl
set_option maxRecDepth 20000 in
theorem fL_c1_81 : fetch tL_c1 81 = some (.iconst 4, 1, 0, 0, 4, 0) := rfl
set_option maxRecDepth 20000 in
theorem fL_c1_82 : fetch tL_c1 82 = some (.invokestatic 26, 3, 0, 0, 0, 0) := rfl
set_option maxRecDepth 20000 in
theorem fL_c1_85 : fetch tL_c1 85 = some (.iadd, 1, 0, 0, 0, 0) := rfl
set_option maxRecDepth 20000 in
theorem fL_c1_86 : fetch tL_c1 86 = some (.if_icmp .ge 126, 3, 212, 0, 0, 0) := rfl
set_option maxRecDepth 20000 in
theorem fL_c1_89 : fetch tL_c1 89 = some (.aload_n 0, 1, 0, 0, 0, 0) := rfl
set_option maxRecDepth 20000 in
theorem fL_c1_90 : fetch tL_c1 90 = some (.iconst 1, 1, 0, 0, 1, 0) := rfl
set_option maxRecDepth 20000 in
theorem fL_c1_91 : fetch tL_c1 91 = some (.iload_n 3, 1, 3, 0, 0, 0) := rfl
set_option maxRecDepth 20000 in
theorem fL_c1_92 : fetch tL_c1 92 = some (.iadd, 1, 0, 0, 0, 0) := rfl
set_option maxRecDepth 20000 in
theorem fL_c1_93 : fetch tL_c1 93 = some (.invokestatic 95, 3, 0, 0, 0, 0) := rfl
set_option maxRecDepth 20000 in
theorem fL_c1_96 : fetch tL_c1 96 = some (.istore 4, 2, 4, 0, 0, 0) := rfl
set_option maxRecDepth 20000 in
theorem fL_c1_98 : fetch tL_c1 98 = some (.aload_n 1, 1, 1, 0, 0, 0) := rfl
set_option maxRecDepth 20000 in
theorem fL_c1_99 : fetch tL_c1 99 = some (.invokevirtual 8, 3, 1, 3, 0, 0) := rfl
set_option maxRecDepth 20000 in
theorem fL_c1_102 : fetch tL_c1 102 = some (.istore 5, 2, 5, 0, 0, 0) := rfl
set_option maxRecDepth 20000 in
theorem fL_c1_104 : fetch tL_c1 104 = some (.aload_n 1, 1, 1, 0, 0, 0) := rfl
set_option maxRecDepth 20000 in
theorem fL_c1_105 : fetch tL_c1 105 = some (.iload 4, 2, 4, 0, 0, 0) := rfl
set_option maxRecDepth 20000 in
theorem fL_c1_107 : fetch tL_c1 107 = some (.bipush 8, 2, 0, 0, 8, 0) := rfl
set_option maxRecDepth 20000 in
theorem fL_c1_109 : fetch tL_c1 109 = some (.invokestatic 26, 3, 0, 0, 0, 0) := rfl
set_option maxRecDepth 20000 in
theorem fL_c1_112 : fetch tL_c1 112 = some (.iload 4, 2, 4, 0, 0, 0) := rfl
set_option maxRecDepth 20000 in
theorem fL_c1_114 : fetch tL_c1 114 = some (.iconst 3, 1, 0, 0, 3, 0) := rfl
set_option maxRecDepth 20000 in
theorem fL_c1_115 : fetch tL_c1 115 = some (.ishr, 1, 0, 0, 0, 0) := rfl
set_option maxRecDepth 20000 in
theorem fL_c1_116 : fetch tL_c1 116 = some (.bipush 8, 2, 0, 0, 8, 0) := rfl
set_option maxRecDepth 20000 in
theorem fL_c1_118 : fetch tL_c1 118 = some (.invokestatic 26, 3, 0, 0, 0, 0) := rfl
set_option maxRecDepth 20000 in
theorem fL_c1_121 : fetch tL_c1 121 = some (.iload 4, 2, 4, 0, 0, 0) := rfl
set_option maxRecDepth 20000 in
theorem fL_c1_123 : fetch tL_c1 123 = some (.bipush 6, 2, 0, 0, 6, 0) := rfl
set_option maxRecDepth 20000 in
theorem fL_c1_125 : fetch tL_c1 125 = some (.ishr, 1, 0, 0, 0, 0) := rfl
set_option maxRecDepth 20000 in
theorem fL_c1_126 : fetch tL_c1 126 = some (.bipush 11, 2, 0, 0, 11, 0) := rfl
set_option maxRecDepth 20000 in
theorem fL_c1_128 : fetch tL_c1 128 = some (.invokestatic 26, 3, 0, 0, 0, 0) := rfl
set_option maxRecDepth 20000 in
theorem fL_c1_131 : fetch tL_c1 131 = some (.iconst 1, 1, 0, 0, 1, 0) := rfl
set_option maxRecDepth 20000 in
theorem fL_c1_132 : fetch tL_c1 132 = some (.iload 4, 2, 4, 0, 0, 0) := rfl
set_option maxRecDepth 20000 in
theorem fL_c1_134 : fetch tL_c1 134 = some (.bipush 10, 2, 0, 0, 10, 0) := rfl
set_option maxRecDepth 20000 in
theorem fL_c1_136 : fetch tL_c1 136 = some (.ishr, 1, 0, 0, 0, 0) := rfl
set_option maxRecDepth 20000 in
theorem fL_c1_137 : fetch tL_c1 137 = some (.iconst 5, 1, 0, 0, 5, 0) := rfl
set_option maxRecDepth 20000 in
theorem fL_c1_138 : fetch tL_c1 138 = some (.invokestatic 26, 3, 0, 0, 0, 0) := rfl
set_option maxRecDepth 20000 in
theorem fL_c1_141 : fetch tL_c1 141 = some (.iadd, 1, 0, 0, 0, 0) := rfl
set_option maxRecDepth 20000 in
theorem fL_c1_142 : fetch tL_c1 142 = some (.invokevirtual 72, 3, 2, 3, 0, 0) := rfl
set_option maxRecDepth 20000 in
theorem fL_c1_145 : fetch tL_c1 145 = some (.istore 6, 2, 6, 0, 0, 0) := rfl
set_option maxRecDepth 20000 in
theorem fL_c1_147 : fetch tL_c1 147 = some (.iload 6, 2, 6, 0, 0, 0) := rfl
set_option maxRecDepth 20000 in
theorem fL_c1_149 : fetch tL_c1 149 = some (.ifCond .lt 57, 3, 206, 0, 0, 0) := rfl
set_option maxRecDepth 20000 in
theorem fL_c1_152 : fetch tL_c1 152 = some (.iload 6, 2, 6, 0, 0, 0) := rfl
set_option maxRecDepth 20000 in
theorem fL_c1_154 : fetch tL_c1 154 = some (.iload 5, 2, 5, 0, 0, 0) := rfl
set_option maxRecDepth 20000 in
theorem fL_c1_156 : fetch tL_c1 156 = some (.if_icmp .ne 48, 3, 204, 0, 0, 0) := rfl
set_option maxRecDepth 20000 in
theorem fL_c1_159 : fetch tL_c1 159 = some (.aload_n 1, 1, 1, 0, 0, 0) := rfl
set_option maxRecDepth 20000 in
theorem fL_c1_160 : fetch tL_c1 160 = some (.iload 4, 2, 4, 0, 0, 0) := rfl
set_option maxRecDepth 20000 in
theorem fL_c1_162 : fetch tL_c1 162 = some (.bipush 8, 2, 0, 0, 8, 0) := rfl
set_option maxRecDepth 20000 in
theorem fL_c1_164 : fetch tL_c1 164 = some (.invokestatic 26, 3, 0, 0, 0, 0) := rfl
set_option maxRecDepth 20000 in
theorem fL_c1_167 : fetch tL_c1 167 = some (.iload 4, 2, 4, 0, 0, 0) := rfl
set_option maxRecDepth 20000 in
theorem fL_c1_169 : fetch tL_c1 169 = some (.iconst 3, 1, 0, 0, 3, 0) := rfl
set_option maxRecDepth 20000 in
theorem fL_c1_170 : fetch tL_c1 170 = some (.ishr, 1, 0, 0, 0, 0) := rfl
set_option maxRecDepth 20000 in
theorem fL_c1_171 : fetch tL_c1 171 = some (.bipush 8, 2, 0, 0, 8, 0) := rfl
set_option maxRecDepth 20000 in
theorem fL_c1_173 : fetch tL_c1 173 = some (.invokestatic 26, 3, 0, 0, 0, 0) := rfl
set_option maxRecDepth 20000 in
theorem fL_c1_176 : fetch tL_c1 176 = some (.invokevirtual 104, 3, 3, 3, 0, 0) := rfl
set_option maxRecDepth 20000 in
theorem fL_c1_179 : fetch tL_c1 179 = some (.iload 6, 2, 6, 0, 0, 0) := rfl
set_option maxRecDepth 20000 in
theorem fL_c1_181 : fetch tL_c1 181 = some (.if_icmp .ne 23, 3, 204, 0, 0, 0) := rfl
set_option maxRecDepth 20000 in
theorem fL_c1_184 : fetch tL_c1 184 = some (.aload_n 1, 1, 1, 0, 0, 0) := rfl
set_option maxRecDepth 20000 in
theorem fL_c1_185 : fetch tL_c1 185 = some (.iload 6, 2, 6, 0, 0, 0) := rfl
set_option maxRecDepth 20000 in
theorem fL_c1_187 : fetch tL_c1 187 = some (.iconst 2, 1, 0, 0, 2, 0) := rfl
set_option maxRecDepth 20000 in
theorem fL_c1_188 : fetch tL_c1 188 = some (.invokevirtual 107, 3, 4, 3, 0, 0) := rfl
set_option maxRecDepth 20000 in
theorem fL_c1_191 : fetch tL_c1 191 = some (.iload 4, 2, 4, 0, 0, 0) := rfl
set_option maxRecDepth 20000 in
theorem fL_c1_193 : fetch tL_c1 193 = some (.bipush 6, 2, 0, 0, 6, 0) := rfl
set_option maxRecDepth 20000 in
theorem fL_c1_195 : fetch tL_c1 195 = some (.ishr, 1, 0, 0, 0, 0) := rfl
set_option maxRecDepth 20000 in
theorem fL_c1_196 : fetch tL_c1 196 = some (.bipush 11, 2, 0, 0, 11, 0) := rfl
set_option maxRecDepth 20000 in
theorem fL_c1_198 : fetch tL_c1 198 = some (.invokestatic 26, 3, 0, 0, 0, 0) := rfl
set_option maxRecDepth 20000 in
theorem fL_c1_201 : fetch tL_c1 201 = some (.if_icmp .eq 5, 3, 206, 0, 0, 0) := rfl
set_option maxRecDepth 20000 in
theorem fL_c1_204 : fetch tL_c1 204 = some (.iconst 0, 1, 0, 0, 0, 0) := rfl
set_option maxRecDepth 20000 in
theorem fL_c1_205 : fetch tL_c1 205 = some (.ireturn, 1, 0, 0, 0, 0) := rfl
set_option maxRecDepth 20000 in
theorem fL_c1_206 : fetch tL_c1 206 = some (.iinc 3 1, 3, 3, 0, 1, 0) := rfl
set_option maxRecDepth 20000 in
theorem fL_c1_209 : fetch tL_c1 209 = some (.goto (-131), 3, 78, 0, 0, 0) := rfl
def tL_c2 : List (Nat × TE) := [(212, .iconst 0, 1, 0, 0, 0, 0), (213, .istore_n 3, 1, 3, 0, 0, 0), (214, .iload_n 3, 1, 3, 0, 0, 0), (215, .bipush 12, 2, 0, 0, 12, 0), (217, .if_icmp .ge 331, 3, 548, 0, 0, 0), (220, .aload_n 0, 1, 0, 0, 0, 0), (221, .bipush 8, 2, 0, 0, 8, 0), (223, .iload_n 3, 1, 3, 0, 0, 0), (224, .iadd, 1, 0, 0, 0, 0), (225, .invokestatic 95, 3, 0, 0, 0, 0), (228, .istore 4, 2, 4, 0, 0, 0), (230, .aload_n 1, 1, 1, 0, 0, 0), (231, .invokevirtual 110, 3, 0, 3, 0, 0), (234, .lstore 5, 2, 5, 0, 0, 0), (236, .aload_n 1, 1, 1, 0, 0, 0), (237, .iload 4, 2, 4, 0, 0, 0), (239, .invokestatic 114, 3, 1, 0, 0, 0), (242, .istore 7, 2, 7, 0, 0, 0), (244, .iload 7, 2, 7, 0, 0, 0), (246, .iconst (-1), 1, 0, 0, (-1), 0), (247, .if_icmp .ge 15, 3, 262, 0, 0, 0), (250, .aload_n 1, 1, 1, 0, 0, 0), (251, .invokevirtual 110, 3, 0, 3, 0, 0), (254, .lload 5, 2, 5, 0, 0, 0), (256, .lcmp, 1, 0, 0, 0, 0), (257, .ifCond .eq 5, 3, 262, 0, 0, 0), (260, .iconst 0, 1, 0, 0, 0, 0), (261, .ireturn, 1, 0, 0, 0, 0), (262, .iload 4, 2, 4, 0, 0, 0), (264, .bipush 10, 2, 0, 0, 10, 0), (266, .invokestatic 26, 3, 2, 0, 0, 0), (269, .bipush 7, 2, 0, 0, 7, 0), (271, .if_icmp .le 52, 3, 323, 0, 0, 0), (274, .aload_n 1, 1, 1, 0, 0, 0), (275, .iconst 1, 1, 0, 0, 1, 0), (276, .iload 4, 2, 4, 0, 0, 0), (278, .iconst 4, 1, 0, 0, 4, 0), (279, .ishr, 1, 0, 0, 0, 0), (280, .bipush 8, 2, 0, 0, 8, 0), (282, .invokestatic 26, 3, 2, 0, 0, 0), (285, .ishl, 1, 0, 0, 0, 0), (286, .iload 4, 2, 4, 0, 0, 0), (288, .bipush 20, 2, 0, 0, 20, 0), (290, .ishr, 1, 0, 0, 0, 0), (291, .iconst 3, 1, 0, 0, 3, 0), (292, .iand, 1, 0, 0, 0, 0), (293, .ifCond .ne 18, 3, 311, 0, 0, 0), (296, .iconst 1, 1, 0, 0, 1, 0), (297, .iload 4, 2, 4, 0, 0, 0), (299, .bipush 7, 2, 0, 0, 7, 0), (301, .ishr, 1, 0, 0, 0, 0), (302, .bipush 8, 2, 0, 0, 8, 0), (304, .invokestatic 26, 3, 2, 0, 0, 0), (307, .ishl, 1, 0, 0, 0, 0), (308, .goto 4, 3, 312, 0, 0, 0), (311, .iconst 0, 1, 0, 0, 0, 0), (312, .ior, 1, 0, 0, 0, 0), (313, .invokevirtual 40, 3, 3, 3, 0, 0), (316, .lconst 0, 1, 0, 0, 0, 0), (317, .lcmp, 1, 0, 0, 0, 0), (318, .ifCond .gt 5, 3, 323, 0, 0, 0), (321, .iconst 0, 1, 0, 0, 0, 0), (322, .ireturn, 1, 0, 0, 0, 0), (323, .iload 7, 2, 7, 0, 0, 0), (325, .iconst (-1), 1, 0, 0, (-1), 0), (326, .if_icmp .lt 32, 3, 358, 0, 0, 0), (329, .iload 4, 2, 4, 0, 0, 0), (331, .bipush 27, 2, 0, 0, 27, 0), (333, .ishr, 1, 0, 0, 0, 0), (334, .iconst 3, 1, 0, 0, 3, 0), (335, .iand, 1, 0, 0, 0, 0), (336, .ifCond .ne 22, 3, 358, 0, 0, 0), (339, .aload_n 1, 1, 1, 0, 0, 0), (340, .invokevirtual 69, 3, 4, 3, 0, 0), (343, .ifCond .lt 13, 3, 356, 0, 0, 0), (346, .aload_n 1, 1, 1, 0, 0, 0), (347, .invokevirtual 110, 3, 0, 3, 0, 0), (350, .lload 5, 2, 5, 0, 0, 0), (352, .lcmp, 1, 0, 0, 0, 0), (353, .ifCond .eq 5, 3, 358, 0, 0, 0), (356, .iconst 0, 1, 0, 0, 0, 0), (357, .ireturn, 1, 0, 0, 0, 0)]
theorem tkL_c2 : tOk cL_law "RumourSourceLaw" 17 tL_c2 = true := by decide +kernel
set_option maxRecDepth 20000 in
theorem fL_c2_212 : fetch tL_c2 212 = some (.iconst 0, 1, 0, 0, 0, 0) := rfl
set_option maxRecDepth 20000 in
theorem fL_c2_213 : fetch tL_c2 213 = some (.istore_n 3, 1, 3, 0, 0, 0) := rfl
set_option maxRecDepth 20000 in
theorem fL_c2_214 : fetch tL_c2 214 = some (.iload_n 3, 1, 3, 0, 0, 0) := rfl
set_option maxRecDepth 20000 in
theorem fL_c2_215 : fetch tL_c2 215 = some (.bipush 12, 2, 0, 0, 12, 0) := rfl
set_option maxRecDepth 20000 in
theorem fL_c2_217 : fetch tL_c2 217 = some (.if_icmp .ge 331, 3, 548, 0, 0, 0) := rfl
set_option maxRecDepth 20000 in
theorem fL_c2_220 : fetch tL_c2 220 = some (.aload_n 0, 1, 0, 0, 0, 0) := rfl
set_option maxRecDepth 20000 in
theorem fL_c2_221 : fetch tL_c2 221 = some (.bipush 8, 2, 0, 0, 8, 0) := rfl
set_option maxRecDepth 20000 in
theorem fL_c2_223 : fetch tL_c2 223 = some (.iload_n 3, 1, 3, 0, 0, 0) := rfl
set_option maxRecDepth 20000 in
theorem fL_c2_224 : fetch tL_c2 224 = some (.iadd, 1, 0, 0, 0, 0) := rfl
set_option maxRecDepth 20000 in
theorem fL_c2_225 : fetch tL_c2 225 = some (.invokestatic 95, 3, 0, 0, 0, 0) := rfl
set_option maxRecDepth 20000 in
theorem fL_c2_228 : fetch tL_c2 228 = some (.istore 4, 2, 4, 0, 0, 0) := rfl
set_option maxRecDepth 20000 in
theorem fL_c2_230 : fetch tL_c2 230 = some (.aload_n 1, 1, 1, 0, 0, 0) := rfl
set_option maxRecDepth 20000 in
theorem fL_c2_231 : fetch tL_c2 231 = some (.invokevirtual 110, 3, 0, 3, 0, 0) := rfl
set_option maxRecDepth 20000 in
theorem fL_c2_234 : fetch tL_c2 234 = some (.lstore 5, 2, 5, 0, 0, 0) := rfl
set_option maxRecDepth 20000 in
theorem fL_c2_236 : fetch tL_c2 236 = some (.aload_n 1, 1, 1, 0, 0, 0) := rfl
set_option maxRecDepth 20000 in
theorem fL_c2_237 : fetch tL_c2 237 = some (.iload 4, 2, 4, 0, 0, 0) := rfl
set_option maxRecDepth 20000 in
theorem fL_c2_239 : fetch tL_c2 239 = some (.invokestatic 114, 3, 1, 0, 0, 0) := rfl
set_option maxRecDepth 20000 in
theorem fL_c2_242 : fetch tL_c2 242 = some (.istore 7, 2, 7, 0, 0, 0) := rfl
set_option maxRecDepth 20000 in
theorem fL_c2_244 : fetch tL_c2 244 = some (.iload 7, 2, 7, 0, 0, 0) := rfl
set_option maxRecDepth 20000 in
theorem fL_c2_246 : fetch tL_c2 246 = some (.iconst (-1), 1, 0, 0, (-1), 0) := rfl
set_option maxRecDepth 20000 in
theorem fL_c2_247 : fetch tL_c2 247 = some (.if_icmp .ge 15, 3, 262, 0, 0, 0) := rfl
set_option maxRecDepth 20000 in
theorem fL_c2_250 : fetch tL_c2 250 = some (.aload_n 1, 1, 1, 0, 0, 0) := rfl
set_option maxRecDepth 20000 in
theorem fL_c2_251 : fetch tL_c2 251 = some (.invokevirtual 110, 3, 0, 3, 0, 0) := rfl
set_option maxRecDepth 20000 in
theorem fL_c2_254 : fetch tL_c2 254 = some (.lload 5, 2, 5, 0, 0, 0) := rfl
set_option maxRecDepth 20000 in
theorem fL_c2_256 : fetch tL_c2 256 = some (.lcmp, 1, 0, 0, 0, 0) := rfl
set_option maxRecDepth 20000 in
theorem fL_c2_257 : fetch tL_c2 257 = some (.ifCond .eq 5, 3, 262, 0, 0, 0) := rfl
set_option maxRecDepth 20000 in
theorem fL_c2_260 : fetch tL_c2 260 = some (.iconst 0, 1, 0, 0, 0, 0) := rfl
set_option maxRecDepth 20000 in
theorem fL_c2_261 : fetch tL_c2 261 = some (.ireturn, 1, 0, 0, 0, 0) := rfl
set_option maxRecDepth 20000 in
theorem fL_c2_262 : fetch tL_c2 262 = some (.iload 4, 2, 4, 0, 0, 0) := rfl
set_option maxRecDepth 20000 in
theorem fL_c2_264 : fetch tL_c2 264 = some (.bipush 10, 2, 0, 0, 10, 0) := rfl
set_option maxRecDepth 20000 in
theorem fL_c2_266 : fetch tL_c2 266 = some (.invokestatic 26, 3, 2, 0, 0, 0) := rfl
set_option maxRecDepth 20000 in
theorem fL_c2_269 : fetch tL_c2 269 = some (.bipush 7, 2, 0, 0, 7, 0) := rfl
set_option maxRecDepth 20000 in
theorem fL_c2_271 : fetch tL_c2 271 = some (.if_icmp .le 52, 3, 323, 0, 0, 0) := rfl
set_option maxRecDepth 20000 in
theorem fL_c2_274 : fetch tL_c2 274 = some (.aload_n 1, 1, 1, 0, 0, 0) := rfl
set_option maxRecDepth 20000 in
theorem fL_c2_275 : fetch tL_c2 275 = some (.iconst 1, 1, 0, 0, 1, 0) := rfl
set_option maxRecDepth 20000 in
theorem fL_c2_276 : fetch tL_c2 276 = some (.iload 4, 2, 4, 0, 0, 0) := rfl
set_option maxRecDepth 20000 in
theorem fL_c2_278 : fetch tL_c2 278 = some (.iconst 4, 1, 0, 0, 4, 0) := rfl
set_option maxRecDepth 20000 in
theorem fL_c2_279 : fetch tL_c2 279 = some (.ishr, 1, 0, 0, 0, 0) := rfl
set_option maxRecDepth 20000 in
theorem fL_c2_280 : fetch tL_c2 280 = some (.bipush 8, 2, 0, 0, 8, 0) := rfl
set_option maxRecDepth 20000 in
theorem fL_c2_282 : fetch tL_c2 282 = some (.invokestatic 26, 3, 2, 0, 0, 0) := rfl
set_option maxRecDepth 20000 in
theorem fL_c2_285 : fetch tL_c2 285 = some (.ishl, 1, 0, 0, 0, 0) := rfl
set_option maxRecDepth 20000 in
theorem fL_c2_286 : fetch tL_c2 286 = some (.iload 4, 2, 4, 0, 0, 0) := rfl
set_option maxRecDepth 20000 in
theorem fL_c2_288 : fetch tL_c2 288 = some (.bipush 20, 2, 0, 0, 20, 0) := rfl
set_option maxRecDepth 20000 in
theorem fL_c2_290 : fetch tL_c2 290 = some (.ishr, 1, 0, 0, 0, 0) := rfl
set_option maxRecDepth 20000 in
theorem fL_c2_291 : fetch tL_c2 291 = some (.iconst 3, 1, 0, 0, 3, 0) := rfl
set_option maxRecDepth 20000 in
theorem fL_c2_292 : fetch tL_c2 292 = some (.iand, 1, 0, 0, 0, 0) := rfl
set_option maxRecDepth 20000 in
theorem fL_c2_293 : fetch tL_c2 293 = some (.ifCond .ne 18, 3, 311, 0, 0, 0) := rfl
set_option maxRecDepth 20000 in
theorem fL_c2_296 : fetch tL_c2 296 = some (.iconst 1, 1, 0, 0, 1, 0) := rfl
set_option maxRecDepth 20000 in
theorem fL_c2_297 : fetch tL_c2 297 = some (.iload 4, 2, 4, 0, 0, 0) := rfl
set_option maxRecDepth 20000 in
theorem fL_c2_299 : fetch tL_c2 299 = some (.bipush 7, 2, 0, 0, 7, 0) := rfl
set_option maxRecDepth 20000 in
theorem fL_c2_301 : fetch tL_c2 301 = some (.ishr, 1, 0, 0, 0, 0) := rfl
set_option maxRecDepth 20000 in
theorem fL_c2_302 : fetch tL_c2 302 = some (.bipush 8, 2, 0, 0, 8, 0) := rfl
set_option maxRecDepth 20000 in
theorem fL_c2_304 : fetch tL_c2 304 = some (.invokestatic 26, 3, 2, 0, 0, 0) := rfl
set_option maxRecDepth 20000 in
theorem fL_c2_307 : fetch tL_c2 307 = some (.ishl, 1, 0, 0, 0, 0) := rfl
set_option maxRecDepth 20000 in
theorem fL_c2_308 : fetch tL_c2 308 = some (.goto 4, 3, 312, 0, 0, 0) := rfl
set_option maxRecDepth 20000 in
theorem fL_c2_311 : fetch tL_c2 311 = some (.iconst 0, 1, 0, 0, 0, 0) := rfl
set_option maxRecDepth 20000 in
theorem fL_c2_312 : fetch tL_c2 312 = some (.ior, 1, 0, 0, 0, 0) := rfl
set_option maxRecDepth 20000 in
theorem fL_c2_313 : fetch tL_c2 313 = some (.invokevirtual 40, 3, 3, 3, 0, 0) := rfl
set_option maxRecDepth 20000 in
theorem fL_c2_316 : fetch tL_c2 316 = some (.lconst 0, 1, 0, 0, 0, 0) := rfl
set_option maxRecDepth 20000 in
theorem fL_c2_317 : fetch tL_c2 317 = some (.lcmp, 1, 0, 0, 0, 0) := rfl
set_option maxRecDepth 20000 in
theorem fL_c2_318 : fetch tL_c2 318 = some (.ifCond .gt 5, 3, 323, 0, 0, 0) := rfl
set_option maxRecDepth 20000 in
theorem fL_c2_321 : fetch tL_c2 321 = some (.iconst 0, 1, 0, 0, 0, 0) := rfl
set_option maxRecDepth 20000 in
theorem fL_c2_322 : fetch tL_c2 322 = some (.ireturn, 1, 0, 0, 0, 0) := rfl
set_option maxRecDepth 20000 in
theorem fL_c2_323 : fetch tL_c2 323 = some (.iload 7, 2, 7, 0, 0, 0) := rfl
set_option maxRecDepth 20000 in
theorem fL_c2_325 : fetch tL_c2 325 = some (.iconst (-1), 1, 0, 0, (-1), 0) := rfl
set_option maxRecDepth 20000 in
theorem fL_c2_326 : fetch tL_c2 326 = some (.if_icmp .lt 32, 3, 358, 0, 0, 0) := rfl
set_option maxRecDepth 20000 in
theorem fL_c2_329 : fetch tL_c2 329 = some (.iload 4, 2, 4, 0, 0, 0) := rfl
set_option maxRecDepth 20000 in
theorem fL_c2_331 : fetch tL_c2 331 = some (.bipush 27, 2, 0, 0, 27, 0) := rfl
set_option maxRecDepth 20000 in
theorem fL_c2_333 : fetch tL_c2 333 = some (.ishr, 1, 0, 0, 0, 0) := rfl
set_option maxRecDepth 20000 in
theorem fL_c2_334 : fetch tL_c2 334 = some (.iconst 3, 1, 0, 0, 3, 0) := rfl
set_option maxRecDepth 20000 in
theorem fL_c2_335 : fetch tL_c2 335 = some (.iand, 1, 0, 0, 0, 0) := rfl
set_option maxRecDepth 20000 in
theorem fL_c2_336 : fetch tL_c2 336 = some (.ifCond .ne 22, 3, 358, 0, 0, 0) := rfl
set_option maxRecDepth 20000 in
theorem fL_c2_339 : fetch tL_c2 339 = some (.aload_n 1, 1, 1, 0, 0, 0) := rfl
set_option maxRecDepth 20000 in
theorem fL_c2_340 : fetch tL_c2 340 = some (.invokevirtual 69, 3, 4, 3, 0, 0) := rfl
set_option maxRecDepth 20000 in
theorem fL_c2_343 : fetch tL_c2 343 = some (.ifCond .lt 13, 3, 356, 0, 0, 0) := rfl
set_option maxRecDepth 20000 in
theorem fL_c2_346 : fetch tL_c2 346 = some (.aload_n 1, 1, 1, 0, 0, 0) := rfl
set_option maxRecDepth 20000 in
theorem fL_c2_347 : fetch tL_c2 347 = some (.invokevirtual 110, 3, 0, 3, 0, 0) := rfl
set_option maxRecDepth 20000 in
theorem fL_c2_350 : fetch tL_c2 350 = some (.lload 5, 2, 5, 0, 0, 0) := rfl
set_option maxRecDepth 20000 in
theorem fL_c2_352 : fetch tL_c2 352 = some (.lcmp, 1, 0, 0, 0, 0) := rfl
set_option maxRecDepth 20000 in
theorem fL_c2_353 : fetch tL_c2 353 = some (.ifCond .eq 5, 3, 358, 0, 0, 0) := rfl
set_option maxRecDepth 20000 in
theorem fL_c2_356 : fetch tL_c2 356 = some (.iconst 0, 1, 0, 0, 0, 0) := rfl
set_option maxRecDepth 20000 in
theorem fL_c2_357 : fetch tL_c2 357 = some (.ireturn, 1, 0, 0, 0, 0) := rfl
def tL_c3 : List (Nat × TE) := [(358, .iload_n 3, 1, 3, 0, 0, 0), (359, .iconst 3, 1, 0, 0, 3, 0), (360, .irem, 1, 0, 0, 0, 0), (361, .iconst 2, 1, 0, 0, 2, 0), (362, .if_icmp .ne 180, 3, 542, 0, 0, 0), (365, .aload_n 1, 1, 1, 0, 0, 0), (366, .invokevirtual 110, 3, 0, 3, 0, 0), (369, .lstore 8, 2, 8, 0, 0, 0), (371, .iconst 1, 1, 0, 0, 1, 0), (372, .iload 4, 2, 4, 0, 0, 0), (374, .bipush 9, 2, 0, 0, 9, 0), (376, .ishr, 1, 0, 0, 0, 0), (377, .sipush 255, 3, 0, 0, 255, 0), (380, .invokestatic 26, 3, 1, 0, 0, 0), (383, .iadd, 1, 0, 0, 0, 0), (384, .istore 10, 2, 10, 0, 0, 0), (386, .iload 4, 2, 4, 0, 0, 0), (388, .bipush 17, 2, 0, 0, 17, 0), (390, .ishr, 1, 0, 0, 0, 0), (391, .bipush 8, 2, 0, 0, 8, 0), (393, .invokestatic 26, 3, 1, 0, 0, 0), (396, .istore 11, 2, 11, 0, 0, 0), (398, .aload_n 1, 1, 1, 0, 0, 0), (399, .iload 10, 2, 10, 0, 0, 0), (401, .invokestatic 118, 3, 2, 0, 0, 0), (404, .ifCond .eq 42, 3, 446, 0, 0, 0), (407, .aload_n 1, 1, 1, 0, 0, 0), (408, .invokestatic 122, 3, 3, 0, 0, 0), (411, .ifCond .eq 35, 3, 446, 0, 0, 0), (414, .aload_n 1, 1, 1, 0, 0, 0), (415, .iload 11, 2, 11, 0, 0, 0), (417, .invokevirtual 22, 3, 4, 3, 0, 0), (420, .bipush 100, 2, 0, 0, 100, 0), (422, .if_icmp .ne 14, 3, 436, 0, 0, 0), (425, .aload_n 1, 1, 1, 0, 0, 0), (426, .iload 10, 2, 10, 0, 0, 0), (428, .iload 11, 2, 11, 0, 0, 0), (430, .invokestatic 126, 3, 5, 0, 0, 0), (433, .ifCond .eq 13, 3, 446, 0, 0, 0), (436, .aload_n 1, 1, 1, 0, 0, 0), (437, .invokevirtual 110, 3, 0, 3, 0, 0), (440, .lload 8, 2, 8, 0, 0, 0), (442, .lcmp, 1, 0, 0, 0, 0), (443, .ifCond .eq 5, 3, 448, 0, 0, 0), (446, .iconst 0, 1, 0, 0, 0, 0), (447, .ireturn, 1, 0, 0, 0, 0), (448, .lconst 0, 1, 0, 0, 0, 0), (449, .lstore 12, 2, 12, 0, 0, 0), (451, .lconst 1, 1, 0, 0, 0, 1), (452, .lstore 14, 2, 14, 0, 0, 0), (454, .iconst (-1), 1, 0, 0, (-1), 0), (455, .istore 16, 2, 16, 0, 0, 0), (457, .iload 16, 2, 16, 0, 0, 0), (459, .bipush 30, 2, 0, 0, 30, 0), (461, .if_icmp .gt 24, 3, 485, 0, 0, 0), (464, .lload 12, 2, 12, 0, 0, 0), (466, .aload_n 1, 1, 1, 0, 0, 0), (467, .iload 10, 2, 10, 0, 0, 0), (469, .iload 11, 2, 11, 0, 0, 0), (471, .iload 16, 2, 16, 0, 0, 0), (473, .invokevirtual 130, 3, 6, 3, 0, 0), (476, .ladd, 1, 0, 0, 0, 0), (477, .lstore 12, 2, 12, 0, 0, 0), (479, .iinc 16 1, 3, 16, 0, 1, 0), (482, .goto (-25), 3, 457, 0, 0, 0), (485, .iconst 0, 1, 0, 0, 0, 0), (486, .istore 16, 2, 16, 0, 0, 0), (488, .iload 16, 2, 16, 0, 0, 0), (490, .aload_n 1, 1, 1, 0, 0, 0), (491, .invokevirtual 8, 3, 7, 3, 0, 0), (494, .if_icmp .ge 17, 3, 511, 0, 0, 0), (497, .lload 14, 2, 14, 0, 0, 0), (499, .ldc2_w 35, 3, 0, 0, 0, 10), (502, .lmul, 1, 0, 0, 0, 0), (503, .lstore 14, 2, 14, 0, 0, 0), (505, .iinc 16 1, 3, 16, 0, 1, 0), (508, .goto (-20), 3, 488, 0, 0, 0), (511, .lload 12, 2, 12, 0, 0, 0), (513, .lload 14, 2, 14, 0, 0, 0), (515, .lcmp, 1, 0, 0, 0, 0), (516, .ifCond .ne 24, 3, 540, 0, 0, 0), (519, .aload_n 1, 1, 1, 0, 0, 0), (520, .iload 10, 2, 10, 0, 0, 0), (522, .iconst 1, 1, 0, 0, 1, 0), (523, .iload 11, 2, 11, 0, 0, 0), (525, .ishl, 1, 0, 0, 0, 0), (526, .ior, 1, 0, 0, 0, 0), (527, .invokevirtual 43, 3, 8, 3, 0, 0), (530, .aload_n 1, 1, 1, 0, 0, 0), (531, .iload 10, 2, 10, 0, 0, 0), (533, .invokevirtual 43, 3, 8, 3, 0, 0), (536, .lcmp, 1, 0, 0, 0, 0), (537, .ifCond .ge 5, 3, 542, 0, 0, 0), (540, .iconst 0, 1, 0, 0, 0, 0), (541, .ireturn, 1, 0, 0, 0, 0), (542, .iinc 3 1, 3, 3, 0, 1, 0), (545, .goto (-331), 3, 214, 0, 0, 0)]
theorem tkL_c3 : tOk cL_law "RumourSourceLaw" 17 tL_c3 = true := by decide +kernel
set_option maxRecDepth 20000 in
theorem fL_c3_358 : fetch tL_c3 358 = some (.iload_n 3, 1, 3, 0, 0, 0) := rfl
set_option maxRecDepth 20000 in
theorem fL_c3_359 : fetch tL_c3 359 = some (.iconst 3, 1, 0, 0, 3, 0) := rfl
set_option maxRecDepth 20000 in
theorem fL_c3_360 : fetch tL_c3 360 = some (.irem, 1, 0, 0, 0, 0) := rfl
set_option maxRecDepth 20000 in
theorem fL_c3_361 : fetch tL_c3 361 = some (.iconst 2, 1, 0, 0, 2, 0) := rfl
set_option maxRecDepth 20000 in
theorem fL_c3_362 : fetch tL_c3 362 = some (.if_icmp .ne 180, 3, 542, 0, 0, 0) := rfl
set_option maxRecDepth 20000 in
theorem fL_c3_365 : fetch tL_c3 365 = some (.aload_n 1, 1, 1, 0, 0, 0) := rfl
set_option maxRecDepth 20000 in
theorem fL_c3_366 : fetch tL_c3 366 = some (.invokevirtual 110, 3, 0, 3, 0, 0) := rfl
set_option maxRecDepth 20000 in
theorem fL_c3_369 : fetch tL_c3 369 = some (.lstore 8, 2, 8, 0, 0, 0) := rfl
set_option maxRecDepth 20000 in
theorem fL_c3_371 : fetch tL_c3 371 = some (.iconst 1, 1, 0, 0, 1, 0) := rfl
set_option maxRecDepth 20000 in
theorem fL_c3_372 : fetch tL_c3 372 = some (.iload 4, 2, 4, 0, 0, 0) := rfl
set_option maxRecDepth 20000 in
theorem fL_c3_374 : fetch tL_c3 374 = some (.bipush 9, 2, 0, 0, 9, 0) := rfl
set_option maxRecDepth 20000 in
theorem fL_c3_376 : fetch tL_c3 376 = some (.ishr, 1, 0, 0, 0, 0) := rfl
set_option maxRecDepth 20000 in
theorem fL_c3_377 : fetch tL_c3 377 = some (.sipush 255, 3, 0, 0, 255, 0) := rfl
set_option maxRecDepth 20000 in
theorem fL_c3_380 : fetch tL_c3 380 = some (.invokestatic 26, 3, 1, 0, 0, 0) := rfl
set_option maxRecDepth 20000 in
theorem fL_c3_383 : fetch tL_c3 383 = some (.iadd, 1, 0, 0, 0, 0) := rfl
set_option maxRecDepth 20000 in
theorem fL_c3_384 : fetch tL_c3 384 = some (.istore 10, 2, 10, 0, 0, 0) := rfl
set_option maxRecDepth 20000 in
theorem fL_c3_386 : fetch tL_c3 386 = some (.iload 4, 2, 4, 0, 0, 0) := rfl
set_option maxRecDepth 20000 in
theorem fL_c3_388 : fetch tL_c3 388 = some (.bipush 17, 2, 0, 0, 17, 0) := rfl
set_option maxRecDepth 20000 in
theorem fL_c3_390 : fetch tL_c3 390 = some (.ishr, 1, 0, 0, 0, 0) := rfl
set_option maxRecDepth 20000 in
theorem fL_c3_391 : fetch tL_c3 391 = some (.bipush 8, 2, 0, 0, 8, 0) := rfl
set_option maxRecDepth 20000 in
theorem fL_c3_393 : fetch tL_c3 393 = some (.invokestatic 26, 3, 1, 0, 0, 0) := rfl
set_option maxRecDepth 20000 in
theorem fL_c3_396 : fetch tL_c3 396 = some (.istore 11, 2, 11, 0, 0, 0) := rfl
set_option maxRecDepth 20000 in
theorem fL_c3_398 : fetch tL_c3 398 = some (.aload_n 1, 1, 1, 0, 0, 0) := rfl
set_option maxRecDepth 20000 in
theorem fL_c3_399 : fetch tL_c3 399 = some (.iload 10, 2, 10, 0, 0, 0) := rfl
set_option maxRecDepth 20000 in
theorem fL_c3_401 : fetch tL_c3 401 = some (.invokestatic 118, 3, 2, 0, 0, 0) := rfl
set_option maxRecDepth 20000 in
theorem fL_c3_404 : fetch tL_c3 404 = some (.ifCond .eq 42, 3, 446, 0, 0, 0) := rfl
set_option maxRecDepth 20000 in
theorem fL_c3_407 : fetch tL_c3 407 = some (.aload_n 1, 1, 1, 0, 0, 0) := rfl
set_option maxRecDepth 20000 in
theorem fL_c3_408 : fetch tL_c3 408 = some (.invokestatic 122, 3, 3, 0, 0, 0) := rfl
set_option maxRecDepth 20000 in
theorem fL_c3_411 : fetch tL_c3 411 = some (.ifCond .eq 35, 3, 446, 0, 0, 0) := rfl
set_option maxRecDepth 20000 in
theorem fL_c3_414 : fetch tL_c3 414 = some (.aload_n 1, 1, 1, 0, 0, 0) := rfl
set_option maxRecDepth 20000 in
theorem fL_c3_415 : fetch tL_c3 415 = some (.iload 11, 2, 11, 0, 0, 0) := rfl
set_option maxRecDepth 20000 in
theorem fL_c3_417 : fetch tL_c3 417 = some (.invokevirtual 22, 3, 4, 3, 0, 0) := rfl
set_option maxRecDepth 20000 in
theorem fL_c3_420 : fetch tL_c3 420 = some (.bipush 100, 2, 0, 0, 100, 0) := rfl
set_option maxRecDepth 20000 in
theorem fL_c3_422 : fetch tL_c3 422 = some (.if_icmp .ne 14, 3, 436, 0, 0, 0) := rfl
set_option maxRecDepth 20000 in
theorem fL_c3_425 : fetch tL_c3 425 = some (.aload_n 1, 1, 1, 0, 0, 0) := rfl
set_option maxRecDepth 20000 in
theorem fL_c3_426 : fetch tL_c3 426 = some (.iload 10, 2, 10, 0, 0, 0) := rfl
set_option maxRecDepth 20000 in
theorem fL_c3_428 : fetch tL_c3 428 = some (.iload 11, 2, 11, 0, 0, 0) := rfl
set_option maxRecDepth 20000 in
theorem fL_c3_430 : fetch tL_c3 430 = some (.invokestatic 126, 3, 5, 0, 0, 0) := rfl
set_option maxRecDepth 20000 in
theorem fL_c3_433 : fetch tL_c3 433 = some (.ifCond .eq 13, 3, 446, 0, 0, 0) := rfl
set_option maxRecDepth 20000 in
theorem fL_c3_436 : fetch tL_c3 436 = some (.aload_n 1, 1, 1, 0, 0, 0) := rfl
set_option maxRecDepth 20000 in
theorem fL_c3_437 : fetch tL_c3 437 = some (.invokevirtual 110, 3, 0, 3, 0, 0) := rfl
set_option maxRecDepth 20000 in
theorem fL_c3_440 : fetch tL_c3 440 = some (.lload 8, 2, 8, 0, 0, 0) := rfl
set_option maxRecDepth 20000 in
theorem fL_c3_442 : fetch tL_c3 442 = some (.lcmp, 1, 0, 0, 0, 0) := rfl
set_option maxRecDepth 20000 in
theorem fL_c3_443 : fetch tL_c3 443 = some (.ifCond .eq 5, 3, 448, 0, 0, 0) := rfl
set_option maxRecDepth 20000 in
theorem fL_c3_446 : fetch tL_c3 446 = some (.iconst 0, 1, 0, 0, 0, 0) := rfl
set_option maxRecDepth 20000 in
theorem fL_c3_447 : fetch tL_c3 447 = some (.ireturn, 1, 0, 0, 0, 0) := rfl
set_option maxRecDepth 20000 in
theorem fL_c3_448 : fetch tL_c3 448 = some (.lconst 0, 1, 0, 0, 0, 0) := rfl
set_option maxRecDepth 20000 in
theorem fL_c3_449 : fetch tL_c3 449 = some (.lstore 12, 2, 12, 0, 0, 0) := rfl
set_option maxRecDepth 20000 in
theorem fL_c3_451 : fetch tL_c3 451 = some (.lconst 1, 1, 0, 0, 0, 1) := rfl
set_option maxRecDepth 20000 in
theorem fL_c3_452 : fetch tL_c3 452 = some (.lstore 14, 2, 14, 0, 0, 0) := rfl
set_option maxRecDepth 20000 in
theorem fL_c3_454 : fetch tL_c3 454 = some (.iconst (-1), 1, 0, 0, (-1), 0) := rfl
set_option maxRecDepth 20000 in
theorem fL_c3_455 : fetch tL_c3 455 = some (.istore 16, 2, 16, 0, 0, 0) := rfl
set_option maxRecDepth 20000 in
theorem fL_c3_457 : fetch tL_c3 457 = some (.iload 16, 2, 16, 0, 0, 0) := rfl
set_option maxRecDepth 20000 in
theorem fL_c3_459 : fetch tL_c3 459 = some (.bipush 30, 2, 0, 0, 30, 0) := rfl
set_option maxRecDepth 20000 in
theorem fL_c3_461 : fetch tL_c3 461 = some (.if_icmp .gt 24, 3, 485, 0, 0, 0) := rfl
set_option maxRecDepth 20000 in
theorem fL_c3_464 : fetch tL_c3 464 = some (.lload 12, 2, 12, 0, 0, 0) := rfl
set_option maxRecDepth 20000 in
theorem fL_c3_466 : fetch tL_c3 466 = some (.aload_n 1, 1, 1, 0, 0, 0) := rfl
set_option maxRecDepth 20000 in
theorem fL_c3_467 : fetch tL_c3 467 = some (.iload 10, 2, 10, 0, 0, 0) := rfl
set_option maxRecDepth 20000 in
theorem fL_c3_469 : fetch tL_c3 469 = some (.iload 11, 2, 11, 0, 0, 0) := rfl
set_option maxRecDepth 20000 in
theorem fL_c3_471 : fetch tL_c3 471 = some (.iload 16, 2, 16, 0, 0, 0) := rfl
set_option maxRecDepth 20000 in
theorem fL_c3_473 : fetch tL_c3 473 = some (.invokevirtual 130, 3, 6, 3, 0, 0) := rfl
set_option maxRecDepth 20000 in
theorem fL_c3_476 : fetch tL_c3 476 = some (.ladd, 1, 0, 0, 0, 0) := rfl
set_option maxRecDepth 20000 in
theorem fL_c3_477 : fetch tL_c3 477 = some (.lstore 12, 2, 12, 0, 0, 0) := rfl
set_option maxRecDepth 20000 in
theorem fL_c3_479 : fetch tL_c3 479 = some (.iinc 16 1, 3, 16, 0, 1, 0) := rfl
set_option maxRecDepth 20000 in
theorem fL_c3_482 : fetch tL_c3 482 = some (.goto (-25), 3, 457, 0, 0, 0) := rfl
set_option maxRecDepth 20000 in
theorem fL_c3_485 : fetch tL_c3 485 = some (.iconst 0, 1, 0, 0, 0, 0) := rfl
set_option maxRecDepth 20000 in
theorem fL_c3_486 : fetch tL_c3 486 = some (.istore 16, 2, 16, 0, 0, 0) := rfl
set_option maxRecDepth 20000 in
theorem fL_c3_488 : fetch tL_c3 488 = some (.iload 16, 2, 16, 0, 0, 0) := rfl
set_option maxRecDepth 20000 in
theorem fL_c3_490 : fetch tL_c3 490 = some (.aload_n 1, 1, 1, 0, 0, 0) := rfl
set_option maxRecDepth 20000 in
theorem fL_c3_491 : fetch tL_c3 491 = some (.invokevirtual 8, 3, 7, 3, 0, 0) := rfl
set_option maxRecDepth 20000 in
theorem fL_c3_494 : fetch tL_c3 494 = some (.if_icmp .ge 17, 3, 511, 0, 0, 0) := rfl
set_option maxRecDepth 20000 in
theorem fL_c3_497 : fetch tL_c3 497 = some (.lload 14, 2, 14, 0, 0, 0) := rfl
set_option maxRecDepth 20000 in
theorem fL_c3_499 : fetch tL_c3 499 = some (.ldc2_w 35, 3, 0, 0, 0, 10) := rfl
set_option maxRecDepth 20000 in
theorem fL_c3_502 : fetch tL_c3 502 = some (.lmul, 1, 0, 0, 0, 0) := rfl
set_option maxRecDepth 20000 in
theorem fL_c3_503 : fetch tL_c3 503 = some (.lstore 14, 2, 14, 0, 0, 0) := rfl
set_option maxRecDepth 20000 in
theorem fL_c3_505 : fetch tL_c3 505 = some (.iinc 16 1, 3, 16, 0, 1, 0) := rfl
set_option maxRecDepth 20000 in
theorem fL_c3_508 : fetch tL_c3 508 = some (.goto (-20), 3, 488, 0, 0, 0) := rfl
set_option maxRecDepth 20000 in
theorem fL_c3_511 : fetch tL_c3 511 = some (.lload 12, 2, 12, 0, 0, 0) := rfl
set_option maxRecDepth 20000 in
theorem fL_c3_513 : fetch tL_c3 513 = some (.lload 14, 2, 14, 0, 0, 0) := rfl
set_option maxRecDepth 20000 in
theorem fL_c3_515 : fetch tL_c3 515 = some (.lcmp, 1, 0, 0, 0, 0) := rfl
set_option maxRecDepth 20000 in
theorem fL_c3_516 : fetch tL_c3 516 = some (.ifCond .ne 24, 3, 540, 0, 0, 0) := rfl
set_option maxRecDepth 20000 in
theorem fL_c3_519 : fetch tL_c3 519 = some (.aload_n 1, 1, 1, 0, 0, 0) := rfl
set_option maxRecDepth 20000 in
theorem fL_c3_520 : fetch tL_c3 520 = some (.iload 10, 2, 10, 0, 0, 0) := rfl
set_option maxRecDepth 20000 in
theorem fL_c3_522 : fetch tL_c3 522 = some (.iconst 1, 1, 0, 0, 1, 0) := rfl
set_option maxRecDepth 20000 in
theorem fL_c3_523 : fetch tL_c3 523 = some (.iload 11, 2, 11, 0, 0, 0) := rfl
set_option maxRecDepth 20000 in
theorem fL_c3_525 : fetch tL_c3 525 = some (.ishl, 1, 0, 0, 0, 0) := rfl
set_option maxRecDepth 20000 in
theorem fL_c3_526 : fetch tL_c3 526 = some (.ior, 1, 0, 0, 0, 0) := rfl
set_option maxRecDepth 20000 in
theorem fL_c3_527 : fetch tL_c3 527 = some (.invokevirtual 43, 3, 8, 3, 0, 0) := rfl
set_option maxRecDepth 20000 in
theorem fL_c3_530 : fetch tL_c3 530 = some (.aload_n 1, 1, 1, 0, 0, 0) := rfl
set_option maxRecDepth 20000 in
theorem fL_c3_531 : fetch tL_c3 531 = some (.iload 10, 2, 10, 0, 0, 0) := rfl
set_option maxRecDepth 20000 in
theorem fL_c3_533 : fetch tL_c3 533 = some (.invokevirtual 43, 3, 8, 3, 0, 0) := rfl
set_option maxRecDepth 20000 in
theorem fL_c3_536 : fetch tL_c3 536 = some (.lcmp, 1, 0, 0, 0, 0) := rfl
set_option maxRecDepth 20000 in
theorem fL_c3_537 : fetch tL_c3 537 = some (.ifCond .ge 5, 3, 542, 0, 0, 0) := rfl
set_option maxRecDepth 20000 in
theorem fL_c3_540 : fetch tL_c3 540 = some (.iconst 0, 1, 0, 0, 0, 0) := rfl
set_option maxRecDepth 20000 in
theorem fL_c3_541 : fetch tL_c3 541 = some (.ireturn, 1, 0, 0, 0, 0) := rfl
set_option maxRecDepth 20000 in
theorem fL_c3_542 : fetch tL_c3 542 = some (.iinc 3 1, 3, 3, 0, 1, 0) := rfl
set_option maxRecDepth 20000 in
theorem fL_c3_545 : fetch tL_c3 545 = some (.goto (-331), 3, 214, 0, 0, 0) := rfl
def tL_c4 : List (Nat × TE) := [(548, .aload_n 1, 1, 1, 0, 0, 0), (549, .bipush 8, 2, 0, 0, 8, 0), (551, .iconst 0, 1, 0, 0, 0, 0), (552, .iconst 1, 1, 0, 0, 1, 0), (553, .iconst 1, 1, 0, 0, 1, 0), (554, .invokevirtual 72, 3, 0, 3, 0, 0), (557, .bipush (-2), 2, 0, 0, (-2), 0), (559, .if_icmp .ne 97, 3, 656, 0, 0, 0), (562, .aload_n 1, 1, 1, 0, 0, 0), (563, .iconst 0, 1, 0, 0, 0, 0), (564, .iconst 0, 1, 0, 0, 0, 0), (565, .iconst 1, 1, 0, 0, 1, 0), (566, .iconst 1, 1, 0, 0, 1, 0), (567, .invokevirtual 72, 3, 0, 3, 0, 0), (570, .bipush (-3), 2, 0, 0, (-3), 0), (572, .if_icmp .ne 84, 3, 656, 0, 0, 0), (575, .aload_n 1, 1, 1, 0, 0, 0), (576, .iconst 0, 1, 0, 0, 0, 0), (577, .bipush 31, 2, 0, 0, 31, 0), (579, .invokevirtual 66, 3, 1, 3, 0, 0), (582, .bipush (-3), 2, 0, 0, (-3), 0), (584, .if_icmp .ne 72, 3, 656, 0, 0, 0), (587, .aload_n 1, 1, 1, 0, 0, 0), (588, .iconst 0, 1, 0, 0, 0, 0), (589, .invokevirtual 40, 3, 2, 3, 0, 0), (592, .ldc2_w 46, 3, 0, 0, 0, (-3)), (595, .lcmp, 1, 0, 0, 0, 0), (596, .ifCond .ne 60, 3, 656, 0, 0, 0), (599, .aload_n 1, 1, 1, 0, 0, 0), (600, .sipush 256, 3, 0, 0, 256, 0), (603, .iconst 0, 1, 0, 0, 0, 0), (604, .invokevirtual 91, 3, 3, 3, 0, 0), (607, .bipush (-3), 2, 0, 0, (-3), 0), (609, .if_icmp .ne 47, 3, 656, 0, 0, 0), (612, .aload_n 1, 1, 1, 0, 0, 0), (613, .iconst 1, 1, 0, 0, 1, 0), (614, .bipush 8, 2, 0, 0, 8, 0), (616, .iconst 0, 1, 0, 0, 0, 0), (617, .invokevirtual 130, 3, 4, 3, 0, 0), (620, .ldc2_w 134, 3, 0, 0, 0, (-2)), (623, .lcmp, 1, 0, 0, 0, 0), (624, .ifCond .ne 32, 3, 656, 0, 0, 0), (627, .aload_n 1, 1, 1, 0, 0, 0), (628, .aload_n 1, 1, 1, 0, 0, 0), (629, .invokevirtual 8, 3, 5, 3, 0, 0), (632, .iconst 0, 1, 0, 0, 0, 0), (633, .invokevirtual 107, 3, 6, 3, 0, 0), (636, .bipush (-2), 2, 0, 0, (-2), 0), (638, .if_icmp .ne 18, 3, 656, 0, 0, 0), (641, .aload_n 1, 1, 1, 0, 0, 0), (642, .bipush 8, 2, 0, 0, 8, 0), (644, .invokevirtual 54, 3, 7, 3, 0, 0), (647, .bipush (-2), 2, 0, 0, (-2), 0), (649, .if_icmp .ne 7, 3, 656, 0, 0, 0), (652, .iconst 1, 1, 0, 0, 1, 0), (653, .goto 4, 3, 657, 0, 0, 0), (656, .iconst 0, 1, 0, 0, 0, 0), (657, .ireturn, 1, 0, 0, 0, 0)]
theorem tkL_c4 : tOk cL_law "RumourSourceLaw" 17 tL_c4 = true := by decide +kernel
set_option maxRecDepth 20000 in
theorem fL_c4_548 : fetch tL_c4 548 = some (.aload_n 1, 1, 1, 0, 0, 0) := rfl
set_option maxRecDepth 20000 in
theorem fL_c4_549 : fetch tL_c4 549 = some (.bipush 8, 2, 0, 0, 8, 0) := rfl
set_option maxRecDepth 20000 in
theorem fL_c4_551 : fetch tL_c4 551 = some (.iconst 0, 1, 0, 0, 0, 0) := rfl
set_option maxRecDepth 20000 in
theorem fL_c4_552 : fetch tL_c4 552 = some (.iconst 1, 1, 0, 0, 1, 0) := rfl
set_option maxRecDepth 20000 in
theorem fL_c4_553 : fetch tL_c4 553 = some (.iconst 1, 1, 0, 0, 1, 0) := rfl
set_option maxRecDepth 20000 in
theorem fL_c4_554 : fetch tL_c4 554 = some (.invokevirtual 72, 3, 0, 3, 0, 0) := rfl
set_option maxRecDepth 20000 in
theorem fL_c4_557 : fetch tL_c4 557 = some (.bipush (-2), 2, 0, 0, (-2), 0) := rfl
set_option maxRecDepth 20000 in
theorem fL_c4_559 : fetch tL_c4 559 = some (.if_icmp .ne 97, 3, 656, 0, 0, 0) := rfl
set_option maxRecDepth 20000 in
theorem fL_c4_562 : fetch tL_c4 562 = some (.aload_n 1, 1, 1, 0, 0, 0) := rfl
set_option maxRecDepth 20000 in
theorem fL_c4_563 : fetch tL_c4 563 = some (.iconst 0, 1, 0, 0, 0, 0) := rfl
set_option maxRecDepth 20000 in
theorem fL_c4_564 : fetch tL_c4 564 = some (.iconst 0, 1, 0, 0, 0, 0) := rfl
set_option maxRecDepth 20000 in
theorem fL_c4_565 : fetch tL_c4 565 = some (.iconst 1, 1, 0, 0, 1, 0) := rfl
set_option maxRecDepth 20000 in
theorem fL_c4_566 : fetch tL_c4 566 = some (.iconst 1, 1, 0, 0, 1, 0) := rfl
set_option maxRecDepth 20000 in
theorem fL_c4_567 : fetch tL_c4 567 = some (.invokevirtual 72, 3, 0, 3, 0, 0) := rfl
set_option maxRecDepth 20000 in
theorem fL_c4_570 : fetch tL_c4 570 = some (.bipush (-3), 2, 0, 0, (-3), 0) := rfl
set_option maxRecDepth 20000 in
theorem fL_c4_572 : fetch tL_c4 572 = some (.if_icmp .ne 84, 3, 656, 0, 0, 0) := rfl
set_option maxRecDepth 20000 in
theorem fL_c4_575 : fetch tL_c4 575 = some (.aload_n 1, 1, 1, 0, 0, 0) := rfl
set_option maxRecDepth 20000 in
theorem fL_c4_576 : fetch tL_c4 576 = some (.iconst 0, 1, 0, 0, 0, 0) := rfl
set_option maxRecDepth 20000 in
theorem fL_c4_577 : fetch tL_c4 577 = some (.bipush 31, 2, 0, 0, 31, 0) := rfl
set_option maxRecDepth 20000 in
theorem fL_c4_579 : fetch tL_c4 579 = some (.invokevirtual 66, 3, 1, 3, 0, 0) := rfl
set_option maxRecDepth 20000 in
theorem fL_c4_582 : fetch tL_c4 582 = some (.bipush (-3), 2, 0, 0, (-3), 0) := rfl
set_option maxRecDepth 20000 in
theorem fL_c4_584 : fetch tL_c4 584 = some (.if_icmp .ne 72, 3, 656, 0, 0, 0) := rfl
set_option maxRecDepth 20000 in
theorem fL_c4_587 : fetch tL_c4 587 = some (.aload_n 1, 1, 1, 0, 0, 0) := rfl
set_option maxRecDepth 20000 in
theorem fL_c4_588 : fetch tL_c4 588 = some (.iconst 0, 1, 0, 0, 0, 0) := rfl
set_option maxRecDepth 20000 in
theorem fL_c4_589 : fetch tL_c4 589 = some (.invokevirtual 40, 3, 2, 3, 0, 0) := rfl
set_option maxRecDepth 20000 in
theorem fL_c4_592 : fetch tL_c4 592 = some (.ldc2_w 46, 3, 0, 0, 0, (-3)) := rfl
set_option maxRecDepth 20000 in
theorem fL_c4_595 : fetch tL_c4 595 = some (.lcmp, 1, 0, 0, 0, 0) := rfl
set_option maxRecDepth 20000 in
theorem fL_c4_596 : fetch tL_c4 596 = some (.ifCond .ne 60, 3, 656, 0, 0, 0) := rfl
set_option maxRecDepth 20000 in
theorem fL_c4_599 : fetch tL_c4 599 = some (.aload_n 1, 1, 1, 0, 0, 0) := rfl
set_option maxRecDepth 20000 in
theorem fL_c4_600 : fetch tL_c4 600 = some (.sipush 256, 3, 0, 0, 256, 0) := rfl
set_option maxRecDepth 20000 in
theorem fL_c4_603 : fetch tL_c4 603 = some (.iconst 0, 1, 0, 0, 0, 0) := rfl
set_option maxRecDepth 20000 in
theorem fL_c4_604 : fetch tL_c4 604 = some (.invokevirtual 91, 3, 3, 3, 0, 0) := rfl
set_option maxRecDepth 20000 in
theorem fL_c4_607 : fetch tL_c4 607 = some (.bipush (-3), 2, 0, 0, (-3), 0) := rfl
set_option maxRecDepth 20000 in
theorem fL_c4_609 : fetch tL_c4 609 = some (.if_icmp .ne 47, 3, 656, 0, 0, 0) := rfl
set_option maxRecDepth 20000 in
theorem fL_c4_612 : fetch tL_c4 612 = some (.aload_n 1, 1, 1, 0, 0, 0) := rfl
set_option maxRecDepth 20000 in
theorem fL_c4_613 : fetch tL_c4 613 = some (.iconst 1, 1, 0, 0, 1, 0) := rfl
set_option maxRecDepth 20000 in
theorem fL_c4_614 : fetch tL_c4 614 = some (.bipush 8, 2, 0, 0, 8, 0) := rfl
set_option maxRecDepth 20000 in
theorem fL_c4_616 : fetch tL_c4 616 = some (.iconst 0, 1, 0, 0, 0, 0) := rfl
set_option maxRecDepth 20000 in
theorem fL_c4_617 : fetch tL_c4 617 = some (.invokevirtual 130, 3, 4, 3, 0, 0) := rfl
set_option maxRecDepth 20000 in
theorem fL_c4_620 : fetch tL_c4 620 = some (.ldc2_w 134, 3, 0, 0, 0, (-2)) := rfl
set_option maxRecDepth 20000 in
theorem fL_c4_623 : fetch tL_c4 623 = some (.lcmp, 1, 0, 0, 0, 0) := rfl
set_option maxRecDepth 20000 in
theorem fL_c4_624 : fetch tL_c4 624 = some (.ifCond .ne 32, 3, 656, 0, 0, 0) := rfl
set_option maxRecDepth 20000 in
theorem fL_c4_627 : fetch tL_c4 627 = some (.aload_n 1, 1, 1, 0, 0, 0) := rfl
set_option maxRecDepth 20000 in
theorem fL_c4_628 : fetch tL_c4 628 = some (.aload_n 1, 1, 1, 0, 0, 0) := rfl
set_option maxRecDepth 20000 in
theorem fL_c4_629 : fetch tL_c4 629 = some (.invokevirtual 8, 3, 5, 3, 0, 0) := rfl
set_option maxRecDepth 20000 in
theorem fL_c4_632 : fetch tL_c4 632 = some (.iconst 0, 1, 0, 0, 0, 0) := rfl
set_option maxRecDepth 20000 in
theorem fL_c4_633 : fetch tL_c4 633 = some (.invokevirtual 107, 3, 6, 3, 0, 0) := rfl
set_option maxRecDepth 20000 in
theorem fL_c4_636 : fetch tL_c4 636 = some (.bipush (-2), 2, 0, 0, (-2), 0) := rfl
set_option maxRecDepth 20000 in
theorem fL_c4_638 : fetch tL_c4 638 = some (.if_icmp .ne 18, 3, 656, 0, 0, 0) := rfl
set_option maxRecDepth 20000 in
theorem fL_c4_641 : fetch tL_c4 641 = some (.aload_n 1, 1, 1, 0, 0, 0) := rfl
set_option maxRecDepth 20000 in
theorem fL_c4_642 : fetch tL_c4 642 = some (.bipush 8, 2, 0, 0, 8, 0) := rfl
set_option maxRecDepth 20000 in
theorem fL_c4_644 : fetch tL_c4 644 = some (.invokevirtual 54, 3, 7, 3, 0, 0) := rfl
set_option maxRecDepth 20000 in
theorem fL_c4_647 : fetch tL_c4 647 = some (.bipush (-2), 2, 0, 0, (-2), 0) := rfl
set_option maxRecDepth 20000 in
theorem fL_c4_649 : fetch tL_c4 649 = some (.if_icmp .ne 7, 3, 656, 0, 0, 0) := rfl
set_option maxRecDepth 20000 in
theorem fL_c4_652 : fetch tL_c4 652 = some (.iconst 1, 1, 0, 0, 1, 0) := rfl
set_option maxRecDepth 20000 in
theorem fL_c4_653 : fetch tL_c4 653 = some (.goto 4, 3, 657, 0, 0, 0) := rfl
set_option maxRecDepth 20000 in
theorem fL_c4_656 : fetch tL_c4 656 = some (.iconst 0, 1, 0, 0, 0, 0) := rfl
set_option maxRecDepth 20000 in
theorem fL_c4_657 : fetch tL_c4 657 = some (.ireturn, 1, 0, 0, 0, 0) := rfl
end LAWTAB
