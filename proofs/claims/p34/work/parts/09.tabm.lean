section TABM
def tL_low : List (Nat × TE) := [(0, .iload_n 0, 1, 0, 0, 0, 0), (1, .ldc 7, 2, 0, 0, 2147483647, 0), (3, .iand, 1, 0, 0, 0, 0), (4, .iload_n 1, 1, 1, 0, 0, 0), (5, .irem, 1, 0, 0, 0, 0), (6, .ireturn, 1, 0, 0, 0, 0)]
theorem tkL_low : tOk cL_low "RumourSourceLaw" 2 tL_low = true := by decide +kernel
theorem fL_low_0 : fetch tL_low 0 = some (.iload_n 0, 1, 0, 0, 0, 0) := rfl
theorem fL_low_1 : fetch tL_low 1 = some (.ldc 7, 2, 0, 0, 2147483647, 0) := rfl
theorem fL_low_3 : fetch tL_low 3 = some (.iand, 1, 0, 0, 0, 0) := rfl
theorem fL_low_4 : fetch tL_low 4 = some (.iload_n 1, 1, 1, 0, 0, 0) := rfl
theorem fL_low_5 : fetch tL_low 5 = some (.irem, 1, 0, 0, 0, 0) := rfl
theorem fL_low_6 : fetch tL_low 6 = some (.ireturn, 1, 0, 0, 0, 0) := rfl
def tL_areOutcomesSound : List (Nat × TE) := [(0, .iconst 1, 1, 0, 0, 1, 0), (1, .aload_n 0, 1, 0, 0, 0, 0), (2, .invokevirtual 8, 3, 0, 3, 0, 0), (5, .ishl, 1, 0, 0, 0, 0), (6, .istore_n 2, 1, 2, 0, 0, 0), (7, .lconst 0, 1, 0, 0, 0, 0), (8, .lstore_n 3, 1, 3, 0, 0, 0), (9, .lconst 0, 1, 0, 0, 0, 0), (10, .lstore 5, 2, 5, 0, 0, 0), (12, .lconst 0, 1, 0, 0, 0, 0), (13, .lstore 7, 2, 7, 0, 0, 0), (15, .lconst 0, 1, 0, 0, 0, 0), (16, .lstore 9, 2, 9, 0, 0, 0), (18, .iconst 0, 1, 0, 0, 0, 0), (19, .istore 11, 2, 11, 0, 0, 0), (21, .iload 11, 2, 11, 0, 0, 0), (23, .iload_n 2, 1, 2, 0, 0, 0), (24, .if_icmp .ge 261, 3, 285, 0, 0, 0), (27, .aload_n 0, 1, 0, 0, 0, 0), (28, .iload 11, 2, 11, 0, 0, 0), (30, .invokevirtual 14, 3, 1, 3, 0, 0), (33, .lstore 12, 2, 12, 0, 0, 0), (35, .iconst 1, 1, 0, 0, 1, 0), (36, .istore 14, 2, 14, 0, 0, 0), (38, .iconst 0, 1, 0, 0, 0, 0), (39, .istore 15, 2, 15, 0, 0, 0), (41, .iload 15, 2, 15, 0, 0, 0), (43, .bipush 8, 2, 0, 0, 8, 0), (45, .if_icmp .ge 162, 3, 207, 0, 0, 0), (48, .aload_n 0, 1, 0, 0, 0, 0), (49, .iload_n 1, 1, 1, 0, 0, 0), (50, .iload 11, 2, 11, 0, 0, 0), (52, .iload 15, 2, 15, 0, 0, 0), (54, .invokevirtual 18, 3, 2, 3, 0, 0), (57, .istore 16, 2, 16, 0, 0, 0), (59, .iload_n 1, 1, 1, 0, 0, 0), (60, .iload 15, 2, 15, 0, 0, 0), (62, .ishr, 1, 0, 0, 0, 0), (63, .iconst 1, 1, 0, 0, 1, 0), (64, .iand, 1, 0, 0, 0, 0), (65, .iconst 1, 1, 0, 0, 1, 0), (66, .if_icmp .ne 11, 3, 77, 0, 0, 0), (69, .iload 16, 2, 16, 0, 0, 0), (71, .ifCond .eq 26, 3, 97, 0, 0, 0), (74, .goto 21, 3, 95, 0, 0, 0), (77, .iload 16, 2, 16, 0, 0, 0), (79, .ifCond .eq 16, 3, 95, 0, 0, 0), (82, .iload 16, 2, 16, 0, 0, 0), (84, .iconst (-1), 1, 0, 0, (-1), 0), (85, .if_icmp .lt 10, 3, 95, 0, 0, 0), (88, .iload 16, 2, 16, 0, 0, 0), (90, .bipush 30, 2, 0, 0, 30, 0), (92, .if_icmp .le 5, 3, 97, 0, 0, 0), (95, .iconst 0, 1, 0, 0, 0, 0), (96, .ireturn, 1, 0, 0, 0, 0), (97, .iload 14, 2, 14, 0, 0, 0), (99, .ifCond .eq 29, 3, 128, 0, 0, 0), (102, .aload_n 0, 1, 0, 0, 0, 0), (103, .iload 15, 2, 15, 0, 0, 0), (105, .invokevirtual 22, 3, 3, 3, 0, 0), (108, .bipush 100, 2, 0, 0, 100, 0), (110, .if_icmp .eq 14, 3, 124, 0, 0, 0), (113, .aload_n 0, 1, 0, 0, 0, 0), (114, .iload 15, 2, 15, 0, 0, 0), (116, .invokevirtual 22, 3, 3, 3, 0, 0), (119, .iload 16, 2, 16, 0, 0, 0), (121, .if_icmp .ne 7, 3, 128, 0, 0, 0), (124, .iconst 1, 1, 0, 0, 1, 0), (125, .goto 4, 3, 129, 0, 0, 0), (128, .iconst 0, 1, 0, 0, 0, 0), (129, .istore 14, 2, 14, 0, 0, 0), (131, .lload 7, 2, 7, 0, 0, 0), (133, .iload 16, 2, 16, 0, 0, 0), (135, .ifCond .lt 8, 3, 143, 0, 0, 0), (138, .lload 12, 2, 12, 0, 0, 0), (140, .goto 4, 3, 144, 0, 0, 0), (143, .lconst 0, 1, 0, 0, 0, 0), (144, .ladd, 1, 0, 0, 0, 0), (145, .lstore 7, 2, 7, 0, 0, 0), (147, .aload_n 0, 1, 0, 0, 0, 0), (148, .iload_n 1, 1, 1, 0, 0, 0), (149, .iload 11, 2, 11, 0, 0, 0), (151, .iconst 1, 1, 0, 0, 1, 0), (152, .iload 11, 2, 11, 0, 0, 0), (154, .bipush 7, 2, 0, 0, 7, 0), (156, .imul, 1, 0, 0, 0, 0), (157, .iload 15, 2, 15, 0, 0, 0), (159, .iadd, 1, 0, 0, 0, 0), (160, .aload_n 0, 1, 0, 0, 0, 0), (161, .invokevirtual 8, 3, 0, 3, 0, 0), (164, .iconst 1, 1, 0, 0, 1, 0), (165, .iadd, 1, 0, 0, 0, 0), (166, .invokestatic 26, 3, 4, 0, 0, 0), (169, .ishl, 1, 0, 0, 0, 0), (170, .iload_n 2, 1, 2, 0, 0, 0), (171, .iconst 1, 1, 0, 0, 1, 0), (172, .isub, 1, 0, 0, 0, 0), (173, .iand, 1, 0, 0, 0, 0), (174, .ior, 1, 0, 0, 0, 0), (175, .iload 15, 2, 15, 0, 0, 0), (177, .invokevirtual 18, 3, 2, 3, 0, 0), (180, .istore 17, 2, 17, 0, 0, 0), (182, .iload 16, 2, 16, 0, 0, 0), (184, .ifCond .lt 17, 3, 201, 0, 0, 0), (187, .iload 17, 2, 17, 0, 0, 0), (189, .ifCond .lt 10, 3, 199, 0, 0, 0), (192, .iload 17, 2, 17, 0, 0, 0), (194, .iload 16, 2, 16, 0, 0, 0), (196, .if_icmp .le 5, 3, 201, 0, 0, 0), (199, .iconst 0, 1, 0, 0, 0, 0), (200, .ireturn, 1, 0, 0, 0, 0), (201, .iinc 15 1, 3, 15, 0, 1, 0), (204, .goto (-163), 3, 41, 0, 0, 0), (207, .lload 12, 2, 12, 0, 0, 0), (209, .lconst 0, 1, 0, 0, 0, 0), (210, .lcmp, 1, 0, 0, 0, 0), (211, .ifCond .lt 23, 3, 234, 0, 0, 0), (214, .aload_n 0, 1, 0, 0, 0, 0), (215, .iload_n 1, 1, 1, 0, 0, 0), (216, .iload 11, 2, 11, 0, 0, 0), (218, .invokevirtual 32, 3, 5, 3, 0, 0), (221, .iload 14, 2, 14, 0, 0, 0), (223, .ifCond .eq 7, 3, 230, 0, 0, 0), (226, .iconst 1, 1, 0, 0, 1, 0), (227, .goto 4, 3, 231, 0, 0, 0), (230, .iconst 0, 1, 0, 0, 0, 0), (231, .if_icmp .eq 5, 3, 236, 0, 0, 0), (234, .iconst 0, 1, 0, 0, 0, 0), (235, .ireturn, 1, 0, 0, 0, 0), (236, .lload_n 3, 1, 3, 0, 0, 0), (237, .lload 12, 2, 12, 0, 0, 0), (239, .ladd, 1, 0, 0, 0, 0), (240, .lstore_n 3, 1, 3, 0, 0, 0), (241, .lload 5, 2, 5, 0, 0, 0), (243, .iload 14, 2, 14, 0, 0, 0), (245, .ifCond .eq 8, 3, 253, 0, 0, 0), (248, .lload 12, 2, 12, 0, 0, 0), (250, .goto 4, 3, 254, 0, 0, 0), (253, .lconst 0, 1, 0, 0, 0, 0), (254, .ladd, 1, 0, 0, 0, 0), (255, .lstore 5, 2, 5, 0, 0, 0), (257, .iload 14, 2, 14, 0, 0, 0), (259, .ifCond .eq 16, 3, 275, 0, 0, 0), (262, .lload 12, 2, 12, 0, 0, 0), (264, .lload 9, 2, 9, 0, 0, 0), (266, .lcmp, 1, 0, 0, 0, 0), (267, .ifCond .le 8, 3, 275, 0, 0, 0), (270, .lload 12, 2, 12, 0, 0, 0), (272, .goto 5, 3, 277, 0, 0, 0), (275, .lload 9, 2, 9, 0, 0, 0), (277, .lstore 9, 2, 9, 0, 0, 0), (279, .iinc 11 1, 3, 11, 0, 1, 0), (282, .goto (-261), 3, 21, 0, 0, 0), (285, .lconst 1, 1, 0, 0, 0, 1), (286, .lstore 11, 2, 11, 0, 0, 0), (288, .iconst 0, 1, 0, 0, 0, 0), (289, .istore 13, 2, 13, 0, 0, 0), (291, .iload 13, 2, 13, 0, 0, 0), (293, .aload_n 0, 1, 0, 0, 0, 0), (294, .invokevirtual 8, 3, 0, 3, 0, 0), (297, .if_icmp .ge 17, 3, 314, 0, 0, 0), (300, .lload 11, 2, 11, 0, 0, 0), (302, .ldc2_w 35, 3, 0, 0, 0, 10), (305, .lmul, 1, 0, 0, 0, 0), (306, .lstore 11, 2, 11, 0, 0, 0), (308, .iinc 13 1, 3, 13, 0, 1, 0), (311, .goto (-20), 3, 291, 0, 0, 0), (314, .aload_n 0, 1, 0, 0, 0, 0), (315, .iload_n 1, 1, 1, 0, 0, 0), (316, .invokevirtual 37, 3, 6, 3, 0, 0), (319, .istore 13, 2, 13, 0, 0, 0), (321, .lload_n 3, 1, 3, 0, 0, 0), (322, .lload 11, 2, 11, 0, 0, 0), (324, .lcmp, 1, 0, 0, 0, 0), (325, .ifCond .ne 78, 3, 403, 0, 0, 0), (328, .aload_n 0, 1, 0, 0, 0, 0), (329, .iload_n 1, 1, 1, 0, 0, 0), (330, .invokevirtual 40, 3, 7, 3, 0, 0), (333, .lload 5, 2, 5, 0, 0, 0), (335, .lcmp, 1, 0, 0, 0, 0), (336, .ifCond .ne 67, 3, 403, 0, 0, 0), (339, .aload_n 0, 1, 0, 0, 0, 0), (340, .iload_n 1, 1, 1, 0, 0, 0), (341, .invokevirtual 43, 3, 8, 3, 0, 0), (344, .lload 7, 2, 7, 0, 0, 0), (346, .lcmp, 1, 0, 0, 0, 0), (347, .ifCond .ne 56, 3, 403, 0, 0, 0), (350, .iload 13, 2, 13, 0, 0, 0), (352, .ifCond .ge 7, 3, 359, 0, 0, 0), (355, .iconst 1, 1, 0, 0, 1, 0), (356, .goto 4, 3, 360, 0, 0, 0), (359, .iconst 0, 1, 0, 0, 0, 0), (360, .lload 9, 2, 9, 0, 0, 0), (362, .lconst 0, 1, 0, 0, 0, 0), (363, .lcmp, 1, 0, 0, 0, 0), (364, .ifCond .ne 7, 3, 371, 0, 0, 0), (367, .iconst 1, 1, 0, 0, 1, 0), (368, .goto 4, 3, 372, 0, 0, 0), (371, .iconst 0, 1, 0, 0, 0, 0), (372, .if_icmp .ne 31, 3, 403, 0, 0, 0), (375, .iload 13, 2, 13, 0, 0, 0), (377, .ifCond .lt 28, 3, 405, 0, 0, 0), (380, .aload_n 0, 1, 0, 0, 0, 0), (381, .iload 13, 2, 13, 0, 0, 0), (383, .invokevirtual 14, 3, 1, 3, 0, 0), (386, .lload 9, 2, 9, 0, 0, 0), (388, .lcmp, 1, 0, 0, 0, 0), (389, .ifCond .ne 14, 3, 403, 0, 0, 0), (392, .aload_n 0, 1, 0, 0, 0, 0), (393, .iload_n 1, 1, 1, 0, 0, 0), (394, .iload 13, 2, 13, 0, 0, 0), (396, .invokevirtual 32, 3, 5, 3, 0, 0), (399, .iconst 1, 1, 0, 0, 1, 0), (400, .if_icmp .eq 5, 3, 405, 0, 0, 0), (403, .iconst 0, 1, 0, 0, 0, 0), (404, .ireturn, 1, 0, 0, 0, 0), (405, .aload_n 0, 1, 0, 0, 0, 0), (406, .iload_n 2, 1, 2, 0, 0, 0), (407, .invokevirtual 14, 3, 1, 3, 0, 0), (410, .ldc2_w 46, 3, 0, 0, 0, (-3)), (413, .lcmp, 1, 0, 0, 0, 0), (414, .ifCond .ne 19, 3, 433, 0, 0, 0), (417, .aload_n 0, 1, 0, 0, 0, 0), (418, .iload_n 1, 1, 1, 0, 0, 0), (419, .iload_n 2, 1, 2, 0, 0, 0), (420, .iconst 0, 1, 0, 0, 0, 0), (421, .invokevirtual 18, 3, 2, 3, 0, 0), (424, .bipush (-3), 2, 0, 0, (-3), 0), (426, .if_icmp .ne 7, 3, 433, 0, 0, 0), (429, .iconst 1, 1, 0, 0, 1, 0), (430, .goto 4, 3, 434, 0, 0, 0), (433, .iconst 0, 1, 0, 0, 0, 0), (434, .ireturn, 1, 0, 0, 0, 0)]
theorem tkL_areOutcomesSound : tOk cL_areOutcomesSound "RumourSourceLaw" 18 tL_areOutcomesSound = true := by decide +kernel
set_option maxRecDepth 20000 in
theorem fL_areOutcomesSound_0 : fetch tL_areOutcomesSound 0 = some (.iconst 1, 1, 0, 0, 1, 0) := rfl
set_option maxRecDepth 20000 in
theorem fL_areOutcomesSound_1 : fetch tL_areOutcomesSound 1 = some (.aload_n 0, 1, 0, 0, 0, 0) := rfl
set_option maxRecDepth 20000 in
theorem fL_areOutcomesSound_2 : fetch tL_areOutcomesSound 2 = some (.invokevirtual 8, 3, 0, 3, 0, 0) := rfl
set_option maxRecDepth 20000 in
theorem fL_areOutcomesSound_5 : fetch tL_areOutcomesSound 5 = some (.ishl, 1, 0, 0, 0, 0) := rfl
set_option maxRecDepth 20000 in
theorem fL_areOutcomesSound_6 : fetch tL_areOutcomesSound 6 = some (.istore_n 2, 1, 2, 0, 0, 0) := rfl
set_option maxRecDepth 20000 in
theorem fL_areOutcomesSound_7 : fetch tL_areOutcomesSound 7 = some (.lconst 0, 1, 0, 0, 0, 0) := rfl
set_option maxRecDepth 20000 in
theorem fL_areOutcomesSound_8 : fetch tL_areOutcomesSound 8 = some (.lstore_n 3, 1, 3, 0, 0, 0) := rfl
set_option maxRecDepth 20000 in
theorem fL_areOutcomesSound_9 : fetch tL_areOutcomesSound 9 = some (.lconst 0, 1, 0, 0, 0, 0) := rfl
set_option maxRecDepth 20000 in
theorem fL_areOutcomesSound_10 : fetch tL_areOutcomesSound 10 = some (.lstore 5, 2, 5, 0, 0, 0) := rfl
set_option maxRecDepth 20000 in
theorem fL_areOutcomesSound_12 : fetch tL_areOutcomesSound 12 = some (.lconst 0, 1, 0, 0, 0, 0) := rfl
set_option maxRecDepth 20000 in
theorem fL_areOutcomesSound_13 : fetch tL_areOutcomesSound 13 = some (.lstore 7, 2, 7, 0, 0, 0) := rfl
set_option maxRecDepth 20000 in
theorem fL_areOutcomesSound_15 : fetch tL_areOutcomesSound 15 = some (.lconst 0, 1, 0, 0, 0, 0) := rfl
set_option maxRecDepth 20000 in
theorem fL_areOutcomesSound_16 : fetch tL_areOutcomesSound 16 = some (.lstore 9, 2, 9, 0, 0, 0) := rfl
set_option maxRecDepth 20000 in
theorem fL_areOutcomesSound_18 : fetch tL_areOutcomesSound 18 = some (.iconst 0, 1, 0, 0, 0, 0) := rfl
set_option maxRecDepth 20000 in
theorem fL_areOutcomesSound_19 : fetch tL_areOutcomesSound 19 = some (.istore 11, 2, 11, 0, 0, 0) := rfl
set_option maxRecDepth 20000 in
theorem fL_areOutcomesSound_21 : fetch tL_areOutcomesSound 21 = some (.iload 11, 2, 11, 0, 0, 0) := rfl
set_option maxRecDepth 20000 in
theorem fL_areOutcomesSound_23 : fetch tL_areOutcomesSound 23 = some (.iload_n 2, 1, 2, 0, 0, 0) := rfl
set_option maxRecDepth 20000 in
theorem fL_areOutcomesSound_24 : fetch tL_areOutcomesSound 24 = some (.if_icmp .ge 261, 3, 285, 0, 0, 0) := rfl
set_option maxRecDepth 20000 in
theorem fL_areOutcomesSound_27 : fetch tL_areOutcomesSound 27 = some (.aload_n 0, 1, 0, 0, 0, 0) := rfl
set_option maxRecDepth 20000 in
theorem fL_areOutcomesSound_28 : fetch tL_areOutcomesSound 28 = some (.iload 11, 2, 11, 0, 0, 0) := rfl
set_option maxRecDepth 20000 in
theorem fL_areOutcomesSound_30 : fetch tL_areOutcomesSound 30 = some (.invokevirtual 14, 3, 1, 3, 0, 0) := rfl
set_option maxRecDepth 20000 in
theorem fL_areOutcomesSound_33 : fetch tL_areOutcomesSound 33 = some (.lstore 12, 2, 12, 0, 0, 0) := rfl
set_option maxRecDepth 20000 in
theorem fL_areOutcomesSound_35 : fetch tL_areOutcomesSound 35 = some (.iconst 1, 1, 0, 0, 1, 0) := rfl
set_option maxRecDepth 20000 in
theorem fL_areOutcomesSound_36 : fetch tL_areOutcomesSound 36 = some (.istore 14, 2, 14, 0, 0, 0) := rfl
set_option maxRecDepth 20000 in
theorem fL_areOutcomesSound_38 : fetch tL_areOutcomesSound 38 = some (.iconst 0, 1, 0, 0, 0, 0) := rfl
set_option maxRecDepth 20000 in
theorem fL_areOutcomesSound_39 : fetch tL_areOutcomesSound 39 = some (.istore 15, 2, 15, 0, 0, 0) := rfl
set_option maxRecDepth 20000 in
theorem fL_areOutcomesSound_41 : fetch tL_areOutcomesSound 41 = some (.iload 15, 2, 15, 0, 0, 0) := rfl
set_option maxRecDepth 20000 in
theorem fL_areOutcomesSound_43 : fetch tL_areOutcomesSound 43 = some (.bipush 8, 2, 0, 0, 8, 0) := rfl
set_option maxRecDepth 20000 in
theorem fL_areOutcomesSound_45 : fetch tL_areOutcomesSound 45 = some (.if_icmp .ge 162, 3, 207, 0, 0, 0) := rfl
set_option maxRecDepth 20000 in
theorem fL_areOutcomesSound_48 : fetch tL_areOutcomesSound 48 = some (.aload_n 0, 1, 0, 0, 0, 0) := rfl
set_option maxRecDepth 20000 in
theorem fL_areOutcomesSound_49 : fetch tL_areOutcomesSound 49 = some (.iload_n 1, 1, 1, 0, 0, 0) := rfl
set_option maxRecDepth 20000 in
theorem fL_areOutcomesSound_50 : fetch tL_areOutcomesSound 50 = some (.iload 11, 2, 11, 0, 0, 0) := rfl
set_option maxRecDepth 20000 in
theorem fL_areOutcomesSound_52 : fetch tL_areOutcomesSound 52 = some (.iload 15, 2, 15, 0, 0, 0) := rfl
set_option maxRecDepth 20000 in
theorem fL_areOutcomesSound_54 : fetch tL_areOutcomesSound 54 = some (.invokevirtual 18, 3, 2, 3, 0, 0) := rfl
set_option maxRecDepth 20000 in
theorem fL_areOutcomesSound_57 : fetch tL_areOutcomesSound 57 = some (.istore 16, 2, 16, 0, 0, 0) := rfl
set_option maxRecDepth 20000 in
theorem fL_areOutcomesSound_59 : fetch tL_areOutcomesSound 59 = some (.iload_n 1, 1, 1, 0, 0, 0) := rfl
set_option maxRecDepth 20000 in
theorem fL_areOutcomesSound_60 : fetch tL_areOutcomesSound 60 = some (.iload 15, 2, 15, 0, 0, 0) := rfl
set_option maxRecDepth 20000 in
theorem fL_areOutcomesSound_62 : fetch tL_areOutcomesSound 62 = some (.ishr, 1, 0, 0, 0, 0) := rfl
set_option maxRecDepth 20000 in
theorem fL_areOutcomesSound_63 : fetch tL_areOutcomesSound 63 = some (.iconst 1, 1, 0, 0, 1, 0) := rfl
set_option maxRecDepth 20000 in
theorem fL_areOutcomesSound_64 : fetch tL_areOutcomesSound 64 = some (.iand, 1, 0, 0, 0, 0) := rfl
set_option maxRecDepth 20000 in
theorem fL_areOutcomesSound_65 : fetch tL_areOutcomesSound 65 = some (.iconst 1, 1, 0, 0, 1, 0) := rfl
set_option maxRecDepth 20000 in
theorem fL_areOutcomesSound_66 : fetch tL_areOutcomesSound 66 = some (.if_icmp .ne 11, 3, 77, 0, 0, 0) := rfl
set_option maxRecDepth 20000 in
theorem fL_areOutcomesSound_69 : fetch tL_areOutcomesSound 69 = some (.iload 16, 2, 16, 0, 0, 0) := rfl
set_option maxRecDepth 20000 in
theorem fL_areOutcomesSound_71 : fetch tL_areOutcomesSound 71 = some (.ifCond .eq 26, 3, 97, 0, 0, 0) := rfl
set_option maxRecDepth 20000 in
theorem fL_areOutcomesSound_74 : fetch tL_areOutcomesSound 74 = some (.goto 21, 3, 95, 0, 0, 0) := rfl
set_option maxRecDepth 20000 in
theorem fL_areOutcomesSound_77 : fetch tL_areOutcomesSound 77 = some (.iload 16, 2, 16, 0, 0, 0) := rfl
set_option maxRecDepth 20000 in
theorem fL_areOutcomesSound_79 : fetch tL_areOutcomesSound 79 = some (.ifCond .eq 16, 3, 95, 0, 0, 0) := rfl
set_option maxRecDepth 20000 in
theorem fL_areOutcomesSound_82 : fetch tL_areOutcomesSound 82 = some (.iload 16, 2, 16, 0, 0, 0) := rfl
set_option maxRecDepth 20000 in
theorem fL_areOutcomesSound_84 : fetch tL_areOutcomesSound 84 = some (.iconst (-1), 1, 0, 0, (-1), 0) := rfl
set_option maxRecDepth 20000 in
theorem fL_areOutcomesSound_85 : fetch tL_areOutcomesSound 85 = some (.if_icmp .lt 10, 3, 95, 0, 0, 0) := rfl
set_option maxRecDepth 20000 in
theorem fL_areOutcomesSound_88 : fetch tL_areOutcomesSound 88 = some (.iload 16, 2, 16, 0, 0, 0) := rfl
set_option maxRecDepth 20000 in
theorem fL_areOutcomesSound_90 : fetch tL_areOutcomesSound 90 = some (.bipush 30, 2, 0, 0, 30, 0) := rfl
set_option maxRecDepth 20000 in
theorem fL_areOutcomesSound_92 : fetch tL_areOutcomesSound 92 = some (.if_icmp .le 5, 3, 97, 0, 0, 0) := rfl
set_option maxRecDepth 20000 in
theorem fL_areOutcomesSound_95 : fetch tL_areOutcomesSound 95 = some (.iconst 0, 1, 0, 0, 0, 0) := rfl
set_option maxRecDepth 20000 in
theorem fL_areOutcomesSound_96 : fetch tL_areOutcomesSound 96 = some (.ireturn, 1, 0, 0, 0, 0) := rfl
set_option maxRecDepth 20000 in
theorem fL_areOutcomesSound_97 : fetch tL_areOutcomesSound 97 = some (.iload 14, 2, 14, 0, 0, 0) := rfl
set_option maxRecDepth 20000 in
theorem fL_areOutcomesSound_99 : fetch tL_areOutcomesSound 99 = some (.ifCond .eq 29, 3, 128, 0, 0, 0) := rfl
set_option maxRecDepth 20000 in
theorem fL_areOutcomesSound_102 : fetch tL_areOutcomesSound 102 = some (.aload_n 0, 1, 0, 0, 0, 0) := rfl
set_option maxRecDepth 20000 in
theorem fL_areOutcomesSound_103 : fetch tL_areOutcomesSound 103 = some (.iload 15, 2, 15, 0, 0, 0) := rfl
set_option maxRecDepth 20000 in
theorem fL_areOutcomesSound_105 : fetch tL_areOutcomesSound 105 = some (.invokevirtual 22, 3, 3, 3, 0, 0) := rfl
set_option maxRecDepth 20000 in
theorem fL_areOutcomesSound_108 : fetch tL_areOutcomesSound 108 = some (.bipush 100, 2, 0, 0, 100, 0) := rfl
set_option maxRecDepth 20000 in
theorem fL_areOutcomesSound_110 : fetch tL_areOutcomesSound 110 = some (.if_icmp .eq 14, 3, 124, 0, 0, 0) := rfl
set_option maxRecDepth 20000 in
theorem fL_areOutcomesSound_113 : fetch tL_areOutcomesSound 113 = some (.aload_n 0, 1, 0, 0, 0, 0) := rfl
set_option maxRecDepth 20000 in
theorem fL_areOutcomesSound_114 : fetch tL_areOutcomesSound 114 = some (.iload 15, 2, 15, 0, 0, 0) := rfl
set_option maxRecDepth 20000 in
theorem fL_areOutcomesSound_116 : fetch tL_areOutcomesSound 116 = some (.invokevirtual 22, 3, 3, 3, 0, 0) := rfl
set_option maxRecDepth 20000 in
theorem fL_areOutcomesSound_119 : fetch tL_areOutcomesSound 119 = some (.iload 16, 2, 16, 0, 0, 0) := rfl
set_option maxRecDepth 20000 in
theorem fL_areOutcomesSound_121 : fetch tL_areOutcomesSound 121 = some (.if_icmp .ne 7, 3, 128, 0, 0, 0) := rfl
set_option maxRecDepth 20000 in
theorem fL_areOutcomesSound_124 : fetch tL_areOutcomesSound 124 = some (.iconst 1, 1, 0, 0, 1, 0) := rfl
set_option maxRecDepth 20000 in
theorem fL_areOutcomesSound_125 : fetch tL_areOutcomesSound 125 = some (.goto 4, 3, 129, 0, 0, 0) := rfl
set_option maxRecDepth 20000 in
theorem fL_areOutcomesSound_128 : fetch tL_areOutcomesSound 128 = some (.iconst 0, 1, 0, 0, 0, 0) := rfl
set_option maxRecDepth 20000 in
theorem fL_areOutcomesSound_129 : fetch tL_areOutcomesSound 129 = some (.istore 14, 2, 14, 0, 0, 0) := rfl
set_option maxRecDepth 20000 in
theorem fL_areOutcomesSound_131 : fetch tL_areOutcomesSound 131 = some (.lload 7, 2, 7, 0, 0, 0) := rfl
set_option maxRecDepth 20000 in
theorem fL_areOutcomesSound_133 : fetch tL_areOutcomesSound 133 = some (.iload 16, 2, 16, 0, 0, 0) := rfl
set_option maxRecDepth 20000 in
theorem fL_areOutcomesSound_135 : fetch tL_areOutcomesSound 135 = some (.ifCond .lt 8, 3, 143, 0, 0, 0) := rfl
set_option maxRecDepth 20000 in
theorem fL_areOutcomesSound_138 : fetch tL_areOutcomesSound 138 = some (.lload 12, 2, 12, 0, 0, 0) := rfl
set_option maxRecDepth 20000 in
theorem fL_areOutcomesSound_140 : fetch tL_areOutcomesSound 140 = some (.goto 4, 3, 144, 0, 0, 0) := rfl
set_option maxRecDepth 20000 in
theorem fL_areOutcomesSound_143 : fetch tL_areOutcomesSound 143 = some (.lconst 0, 1, 0, 0, 0, 0) := rfl
set_option maxRecDepth 20000 in
theorem fL_areOutcomesSound_144 : fetch tL_areOutcomesSound 144 = some (.ladd, 1, 0, 0, 0, 0) := rfl
set_option maxRecDepth 20000 in
theorem fL_areOutcomesSound_145 : fetch tL_areOutcomesSound 145 = some (.lstore 7, 2, 7, 0, 0, 0) := rfl
set_option maxRecDepth 20000 in
theorem fL_areOutcomesSound_147 : fetch tL_areOutcomesSound 147 = some (.aload_n 0, 1, 0, 0, 0, 0) := rfl
set_option maxRecDepth 20000 in
theorem fL_areOutcomesSound_148 : fetch tL_areOutcomesSound 148 = some (.iload_n 1, 1, 1, 0, 0, 0) := rfl
set_option maxRecDepth 20000 in
theorem fL_areOutcomesSound_149 : fetch tL_areOutcomesSound 149 = some (.iload 11, 2, 11, 0, 0, 0) := rfl
set_option maxRecDepth 20000 in
theorem fL_areOutcomesSound_151 : fetch tL_areOutcomesSound 151 = some (.iconst 1, 1, 0, 0, 1, 0) := rfl
set_option maxRecDepth 20000 in
theorem fL_areOutcomesSound_152 : fetch tL_areOutcomesSound 152 = some (.iload 11, 2, 11, 0, 0, 0) := rfl
set_option maxRecDepth 20000 in
theorem fL_areOutcomesSound_154 : fetch tL_areOutcomesSound 154 = some (.bipush 7, 2, 0, 0, 7, 0) := rfl
set_option maxRecDepth 20000 in
theorem fL_areOutcomesSound_156 : fetch tL_areOutcomesSound 156 = some (.imul, 1, 0, 0, 0, 0) := rfl
set_option maxRecDepth 20000 in
theorem fL_areOutcomesSound_157 : fetch tL_areOutcomesSound 157 = some (.iload 15, 2, 15, 0, 0, 0) := rfl
set_option maxRecDepth 20000 in
theorem fL_areOutcomesSound_159 : fetch tL_areOutcomesSound 159 = some (.iadd, 1, 0, 0, 0, 0) := rfl
set_option maxRecDepth 20000 in
theorem fL_areOutcomesSound_160 : fetch tL_areOutcomesSound 160 = some (.aload_n 0, 1, 0, 0, 0, 0) := rfl
set_option maxRecDepth 20000 in
theorem fL_areOutcomesSound_161 : fetch tL_areOutcomesSound 161 = some (.invokevirtual 8, 3, 0, 3, 0, 0) := rfl
set_option maxRecDepth 20000 in
theorem fL_areOutcomesSound_164 : fetch tL_areOutcomesSound 164 = some (.iconst 1, 1, 0, 0, 1, 0) := rfl
set_option maxRecDepth 20000 in
theorem fL_areOutcomesSound_165 : fetch tL_areOutcomesSound 165 = some (.iadd, 1, 0, 0, 0, 0) := rfl
set_option maxRecDepth 20000 in
theorem fL_areOutcomesSound_166 : fetch tL_areOutcomesSound 166 = some (.invokestatic 26, 3, 4, 0, 0, 0) := rfl
set_option maxRecDepth 20000 in
theorem fL_areOutcomesSound_169 : fetch tL_areOutcomesSound 169 = some (.ishl, 1, 0, 0, 0, 0) := rfl
set_option maxRecDepth 20000 in
theorem fL_areOutcomesSound_170 : fetch tL_areOutcomesSound 170 = some (.iload_n 2, 1, 2, 0, 0, 0) := rfl
set_option maxRecDepth 20000 in
theorem fL_areOutcomesSound_171 : fetch tL_areOutcomesSound 171 = some (.iconst 1, 1, 0, 0, 1, 0) := rfl
set_option maxRecDepth 20000 in
theorem fL_areOutcomesSound_172 : fetch tL_areOutcomesSound 172 = some (.isub, 1, 0, 0, 0, 0) := rfl
set_option maxRecDepth 20000 in
theorem fL_areOutcomesSound_173 : fetch tL_areOutcomesSound 173 = some (.iand, 1, 0, 0, 0, 0) := rfl
set_option maxRecDepth 20000 in
theorem fL_areOutcomesSound_174 : fetch tL_areOutcomesSound 174 = some (.ior, 1, 0, 0, 0, 0) := rfl
set_option maxRecDepth 20000 in
theorem fL_areOutcomesSound_175 : fetch tL_areOutcomesSound 175 = some (.iload 15, 2, 15, 0, 0, 0) := rfl
set_option maxRecDepth 20000 in
theorem fL_areOutcomesSound_177 : fetch tL_areOutcomesSound 177 = some (.invokevirtual 18, 3, 2, 3, 0, 0) := rfl
set_option maxRecDepth 20000 in
theorem fL_areOutcomesSound_180 : fetch tL_areOutcomesSound 180 = some (.istore 17, 2, 17, 0, 0, 0) := rfl
set_option maxRecDepth 20000 in
theorem fL_areOutcomesSound_182 : fetch tL_areOutcomesSound 182 = some (.iload 16, 2, 16, 0, 0, 0) := rfl
set_option maxRecDepth 20000 in
theorem fL_areOutcomesSound_184 : fetch tL_areOutcomesSound 184 = some (.ifCond .lt 17, 3, 201, 0, 0, 0) := rfl
set_option maxRecDepth 20000 in
theorem fL_areOutcomesSound_187 : fetch tL_areOutcomesSound 187 = some (.iload 17, 2, 17, 0, 0, 0) := rfl
set_option maxRecDepth 20000 in
theorem fL_areOutcomesSound_189 : fetch tL_areOutcomesSound 189 = some (.ifCond .lt 10, 3, 199, 0, 0, 0) := rfl
set_option maxRecDepth 20000 in
theorem fL_areOutcomesSound_192 : fetch tL_areOutcomesSound 192 = some (.iload 17, 2, 17, 0, 0, 0) := rfl
set_option maxRecDepth 20000 in
theorem fL_areOutcomesSound_194 : fetch tL_areOutcomesSound 194 = some (.iload 16, 2, 16, 0, 0, 0) := rfl
set_option maxRecDepth 20000 in
theorem fL_areOutcomesSound_196 : fetch tL_areOutcomesSound 196 = some (.if_icmp .le 5, 3, 201, 0, 0, 0) := rfl
set_option maxRecDepth 20000 in
theorem fL_areOutcomesSound_199 : fetch tL_areOutcomesSound 199 = some (.iconst 0, 1, 0, 0, 0, 0) := rfl
set_option maxRecDepth 20000 in
theorem fL_areOutcomesSound_200 : fetch tL_areOutcomesSound 200 = some (.ireturn, 1, 0, 0, 0, 0) := rfl
set_option maxRecDepth 20000 in
theorem fL_areOutcomesSound_201 : fetch tL_areOutcomesSound 201 = some (.iinc 15 1, 3, 15, 0, 1, 0) := rfl
set_option maxRecDepth 20000 in
theorem fL_areOutcomesSound_204 : fetch tL_areOutcomesSound 204 = some (.goto (-163), 3, 41, 0, 0, 0) := rfl
set_option maxRecDepth 20000 in
theorem fL_areOutcomesSound_207 : fetch tL_areOutcomesSound 207 = some (.lload 12, 2, 12, 0, 0, 0) := rfl
set_option maxRecDepth 20000 in
theorem fL_areOutcomesSound_209 : fetch tL_areOutcomesSound 209 = some (.lconst 0, 1, 0, 0, 0, 0) := rfl
set_option maxRecDepth 20000 in
theorem fL_areOutcomesSound_210 : fetch tL_areOutcomesSound 210 = some (.lcmp, 1, 0, 0, 0, 0) := rfl
set_option maxRecDepth 20000 in
theorem fL_areOutcomesSound_211 : fetch tL_areOutcomesSound 211 = some (.ifCond .lt 23, 3, 234, 0, 0, 0) := rfl
set_option maxRecDepth 20000 in
theorem fL_areOutcomesSound_214 : fetch tL_areOutcomesSound 214 = some (.aload_n 0, 1, 0, 0, 0, 0) := rfl
set_option maxRecDepth 20000 in
theorem fL_areOutcomesSound_215 : fetch tL_areOutcomesSound 215 = some (.iload_n 1, 1, 1, 0, 0, 0) := rfl
set_option maxRecDepth 20000 in
theorem fL_areOutcomesSound_216 : fetch tL_areOutcomesSound 216 = some (.iload 11, 2, 11, 0, 0, 0) := rfl
set_option maxRecDepth 20000 in
theorem fL_areOutcomesSound_218 : fetch tL_areOutcomesSound 218 = some (.invokevirtual 32, 3, 5, 3, 0, 0) := rfl
set_option maxRecDepth 20000 in
theorem fL_areOutcomesSound_221 : fetch tL_areOutcomesSound 221 = some (.iload 14, 2, 14, 0, 0, 0) := rfl
set_option maxRecDepth 20000 in
theorem fL_areOutcomesSound_223 : fetch tL_areOutcomesSound 223 = some (.ifCond .eq 7, 3, 230, 0, 0, 0) := rfl
set_option maxRecDepth 20000 in
theorem fL_areOutcomesSound_226 : fetch tL_areOutcomesSound 226 = some (.iconst 1, 1, 0, 0, 1, 0) := rfl
set_option maxRecDepth 20000 in
theorem fL_areOutcomesSound_227 : fetch tL_areOutcomesSound 227 = some (.goto 4, 3, 231, 0, 0, 0) := rfl
set_option maxRecDepth 20000 in
theorem fL_areOutcomesSound_230 : fetch tL_areOutcomesSound 230 = some (.iconst 0, 1, 0, 0, 0, 0) := rfl
set_option maxRecDepth 20000 in
theorem fL_areOutcomesSound_231 : fetch tL_areOutcomesSound 231 = some (.if_icmp .eq 5, 3, 236, 0, 0, 0) := rfl
set_option maxRecDepth 20000 in
theorem fL_areOutcomesSound_234 : fetch tL_areOutcomesSound 234 = some (.iconst 0, 1, 0, 0, 0, 0) := rfl
set_option maxRecDepth 20000 in
theorem fL_areOutcomesSound_235 : fetch tL_areOutcomesSound 235 = some (.ireturn, 1, 0, 0, 0, 0) := rfl
set_option maxRecDepth 20000 in
theorem fL_areOutcomesSound_236 : fetch tL_areOutcomesSound 236 = some (.lload_n 3, 1, 3, 0, 0, 0) := rfl
set_option maxRecDepth 20000 in
theorem fL_areOutcomesSound_237 : fetch tL_areOutcomesSound 237 = some (.lload 12, 2, 12, 0, 0, 0) := rfl
set_option maxRecDepth 20000 in
theorem fL_areOutcomesSound_239 : fetch tL_areOutcomesSound 239 = some (.ladd, 1, 0, 0, 0, 0) := rfl
set_option maxRecDepth 20000 in
theorem fL_areOutcomesSound_240 : fetch tL_areOutcomesSound 240 = some (.lstore_n 3, 1, 3, 0, 0, 0) := rfl
set_option maxRecDepth 20000 in
theorem fL_areOutcomesSound_241 : fetch tL_areOutcomesSound 241 = some (.lload 5, 2, 5, 0, 0, 0) := rfl
set_option maxRecDepth 20000 in
theorem fL_areOutcomesSound_243 : fetch tL_areOutcomesSound 243 = some (.iload 14, 2, 14, 0, 0, 0) := rfl
set_option maxRecDepth 20000 in
theorem fL_areOutcomesSound_245 : fetch tL_areOutcomesSound 245 = some (.ifCond .eq 8, 3, 253, 0, 0, 0) := rfl
set_option maxRecDepth 20000 in
theorem fL_areOutcomesSound_248 : fetch tL_areOutcomesSound 248 = some (.lload 12, 2, 12, 0, 0, 0) := rfl
set_option maxRecDepth 20000 in
theorem fL_areOutcomesSound_250 : fetch tL_areOutcomesSound 250 = some (.goto 4, 3, 254, 0, 0, 0) := rfl
set_option maxRecDepth 20000 in
theorem fL_areOutcomesSound_253 : fetch tL_areOutcomesSound 253 = some (.lconst 0, 1, 0, 0, 0, 0) := rfl
set_option maxRecDepth 20000 in
theorem fL_areOutcomesSound_254 : fetch tL_areOutcomesSound 254 = some (.ladd, 1, 0, 0, 0, 0) := rfl
set_option maxRecDepth 20000 in
theorem fL_areOutcomesSound_255 : fetch tL_areOutcomesSound 255 = some (.lstore 5, 2, 5, 0, 0, 0) := rfl
set_option maxRecDepth 20000 in
theorem fL_areOutcomesSound_257 : fetch tL_areOutcomesSound 257 = some (.iload 14, 2, 14, 0, 0, 0) := rfl
set_option maxRecDepth 20000 in
theorem fL_areOutcomesSound_259 : fetch tL_areOutcomesSound 259 = some (.ifCond .eq 16, 3, 275, 0, 0, 0) := rfl
set_option maxRecDepth 20000 in
theorem fL_areOutcomesSound_262 : fetch tL_areOutcomesSound 262 = some (.lload 12, 2, 12, 0, 0, 0) := rfl
set_option maxRecDepth 20000 in
theorem fL_areOutcomesSound_264 : fetch tL_areOutcomesSound 264 = some (.lload 9, 2, 9, 0, 0, 0) := rfl
set_option maxRecDepth 20000 in
theorem fL_areOutcomesSound_266 : fetch tL_areOutcomesSound 266 = some (.lcmp, 1, 0, 0, 0, 0) := rfl
set_option maxRecDepth 20000 in
theorem fL_areOutcomesSound_267 : fetch tL_areOutcomesSound 267 = some (.ifCond .le 8, 3, 275, 0, 0, 0) := rfl
set_option maxRecDepth 20000 in
theorem fL_areOutcomesSound_270 : fetch tL_areOutcomesSound 270 = some (.lload 12, 2, 12, 0, 0, 0) := rfl
set_option maxRecDepth 20000 in
theorem fL_areOutcomesSound_272 : fetch tL_areOutcomesSound 272 = some (.goto 5, 3, 277, 0, 0, 0) := rfl
set_option maxRecDepth 20000 in
theorem fL_areOutcomesSound_275 : fetch tL_areOutcomesSound 275 = some (.lload 9, 2, 9, 0, 0, 0) := rfl
set_option maxRecDepth 20000 in
theorem fL_areOutcomesSound_277 : fetch tL_areOutcomesSound 277 = some (.lstore 9, 2, 9, 0, 0, 0) := rfl
set_option maxRecDepth 20000 in
theorem fL_areOutcomesSound_279 : fetch tL_areOutcomesSound 279 = some (.iinc 11 1, 3, 11, 0, 1, 0) := rfl
set_option maxRecDepth 20000 in
theorem fL_areOutcomesSound_282 : fetch tL_areOutcomesSound 282 = some (.goto (-261), 3, 21, 0, 0, 0) := rfl
set_option maxRecDepth 20000 in
theorem fL_areOutcomesSound_285 : fetch tL_areOutcomesSound 285 = some (.lconst 1, 1, 0, 0, 0, 1) := rfl
set_option maxRecDepth 20000 in
theorem fL_areOutcomesSound_286 : fetch tL_areOutcomesSound 286 = some (.lstore 11, 2, 11, 0, 0, 0) := rfl
set_option maxRecDepth 20000 in
theorem fL_areOutcomesSound_288 : fetch tL_areOutcomesSound 288 = some (.iconst 0, 1, 0, 0, 0, 0) := rfl
set_option maxRecDepth 20000 in
theorem fL_areOutcomesSound_289 : fetch tL_areOutcomesSound 289 = some (.istore 13, 2, 13, 0, 0, 0) := rfl
set_option maxRecDepth 20000 in
theorem fL_areOutcomesSound_291 : fetch tL_areOutcomesSound 291 = some (.iload 13, 2, 13, 0, 0, 0) := rfl
set_option maxRecDepth 20000 in
theorem fL_areOutcomesSound_293 : fetch tL_areOutcomesSound 293 = some (.aload_n 0, 1, 0, 0, 0, 0) := rfl
set_option maxRecDepth 20000 in
theorem fL_areOutcomesSound_294 : fetch tL_areOutcomesSound 294 = some (.invokevirtual 8, 3, 0, 3, 0, 0) := rfl
set_option maxRecDepth 20000 in
theorem fL_areOutcomesSound_297 : fetch tL_areOutcomesSound 297 = some (.if_icmp .ge 17, 3, 314, 0, 0, 0) := rfl
set_option maxRecDepth 20000 in
theorem fL_areOutcomesSound_300 : fetch tL_areOutcomesSound 300 = some (.lload 11, 2, 11, 0, 0, 0) := rfl
set_option maxRecDepth 20000 in
theorem fL_areOutcomesSound_302 : fetch tL_areOutcomesSound 302 = some (.ldc2_w 35, 3, 0, 0, 0, 10) := rfl
set_option maxRecDepth 20000 in
theorem fL_areOutcomesSound_305 : fetch tL_areOutcomesSound 305 = some (.lmul, 1, 0, 0, 0, 0) := rfl
set_option maxRecDepth 20000 in
theorem fL_areOutcomesSound_306 : fetch tL_areOutcomesSound 306 = some (.lstore 11, 2, 11, 0, 0, 0) := rfl
set_option maxRecDepth 20000 in
theorem fL_areOutcomesSound_308 : fetch tL_areOutcomesSound 308 = some (.iinc 13 1, 3, 13, 0, 1, 0) := rfl
set_option maxRecDepth 20000 in
theorem fL_areOutcomesSound_311 : fetch tL_areOutcomesSound 311 = some (.goto (-20), 3, 291, 0, 0, 0) := rfl
set_option maxRecDepth 20000 in
theorem fL_areOutcomesSound_314 : fetch tL_areOutcomesSound 314 = some (.aload_n 0, 1, 0, 0, 0, 0) := rfl
set_option maxRecDepth 20000 in
theorem fL_areOutcomesSound_315 : fetch tL_areOutcomesSound 315 = some (.iload_n 1, 1, 1, 0, 0, 0) := rfl
set_option maxRecDepth 20000 in
theorem fL_areOutcomesSound_316 : fetch tL_areOutcomesSound 316 = some (.invokevirtual 37, 3, 6, 3, 0, 0) := rfl
set_option maxRecDepth 20000 in
theorem fL_areOutcomesSound_319 : fetch tL_areOutcomesSound 319 = some (.istore 13, 2, 13, 0, 0, 0) := rfl
set_option maxRecDepth 20000 in
theorem fL_areOutcomesSound_321 : fetch tL_areOutcomesSound 321 = some (.lload_n 3, 1, 3, 0, 0, 0) := rfl
set_option maxRecDepth 20000 in
theorem fL_areOutcomesSound_322 : fetch tL_areOutcomesSound 322 = some (.lload 11, 2, 11, 0, 0, 0) := rfl
set_option maxRecDepth 20000 in
theorem fL_areOutcomesSound_324 : fetch tL_areOutcomesSound 324 = some (.lcmp, 1, 0, 0, 0, 0) := rfl
set_option maxRecDepth 20000 in
theorem fL_areOutcomesSound_325 : fetch tL_areOutcomesSound 325 = some (.ifCond .ne 78, 3, 403, 0, 0, 0) := rfl
set_option maxRecDepth 20000 in
theorem fL_areOutcomesSound_328 : fetch tL_areOutcomesSound 328 = some (.aload_n 0, 1, 0, 0, 0, 0) := rfl
set_option maxRecDepth 20000 in
theorem fL_areOutcomesSound_329 : fetch tL_areOutcomesSound 329 = some (.iload_n 1, 1, 1, 0, 0, 0) := rfl
set_option maxRecDepth 20000 in
theorem fL_areOutcomesSound_330 : fetch tL_areOutcomesSound 330 = some (.invokevirtual 40, 3, 7, 3, 0, 0) := rfl
set_option maxRecDepth 20000 in
theorem fL_areOutcomesSound_333 : fetch tL_areOutcomesSound 333 = some (.lload 5, 2, 5, 0, 0, 0) := rfl
set_option maxRecDepth 20000 in
theorem fL_areOutcomesSound_335 : fetch tL_areOutcomesSound 335 = some (.lcmp, 1, 0, 0, 0, 0) := rfl
set_option maxRecDepth 20000 in
theorem fL_areOutcomesSound_336 : fetch tL_areOutcomesSound 336 = some (.ifCond .ne 67, 3, 403, 0, 0, 0) := rfl
set_option maxRecDepth 20000 in
theorem fL_areOutcomesSound_339 : fetch tL_areOutcomesSound 339 = some (.aload_n 0, 1, 0, 0, 0, 0) := rfl
set_option maxRecDepth 20000 in
theorem fL_areOutcomesSound_340 : fetch tL_areOutcomesSound 340 = some (.iload_n 1, 1, 1, 0, 0, 0) := rfl
set_option maxRecDepth 20000 in
theorem fL_areOutcomesSound_341 : fetch tL_areOutcomesSound 341 = some (.invokevirtual 43, 3, 8, 3, 0, 0) := rfl
set_option maxRecDepth 20000 in
theorem fL_areOutcomesSound_344 : fetch tL_areOutcomesSound 344 = some (.lload 7, 2, 7, 0, 0, 0) := rfl
set_option maxRecDepth 20000 in
theorem fL_areOutcomesSound_346 : fetch tL_areOutcomesSound 346 = some (.lcmp, 1, 0, 0, 0, 0) := rfl
set_option maxRecDepth 20000 in
theorem fL_areOutcomesSound_347 : fetch tL_areOutcomesSound 347 = some (.ifCond .ne 56, 3, 403, 0, 0, 0) := rfl
set_option maxRecDepth 20000 in
theorem fL_areOutcomesSound_350 : fetch tL_areOutcomesSound 350 = some (.iload 13, 2, 13, 0, 0, 0) := rfl
set_option maxRecDepth 20000 in
theorem fL_areOutcomesSound_352 : fetch tL_areOutcomesSound 352 = some (.ifCond .ge 7, 3, 359, 0, 0, 0) := rfl
set_option maxRecDepth 20000 in
theorem fL_areOutcomesSound_355 : fetch tL_areOutcomesSound 355 = some (.iconst 1, 1, 0, 0, 1, 0) := rfl
set_option maxRecDepth 20000 in
theorem fL_areOutcomesSound_356 : fetch tL_areOutcomesSound 356 = some (.goto 4, 3, 360, 0, 0, 0) := rfl
set_option maxRecDepth 20000 in
theorem fL_areOutcomesSound_359 : fetch tL_areOutcomesSound 359 = some (.iconst 0, 1, 0, 0, 0, 0) := rfl
set_option maxRecDepth 20000 in
theorem fL_areOutcomesSound_360 : fetch tL_areOutcomesSound 360 = some (.lload 9, 2, 9, 0, 0, 0) := rfl
set_option maxRecDepth 20000 in
theorem fL_areOutcomesSound_362 : fetch tL_areOutcomesSound 362 = some (.lconst 0, 1, 0, 0, 0, 0) := rfl
set_option maxRecDepth 20000 in
theorem fL_areOutcomesSound_363 : fetch tL_areOutcomesSound 363 = some (.lcmp, 1, 0, 0, 0, 0) := rfl
set_option maxRecDepth 20000 in
theorem fL_areOutcomesSound_364 : fetch tL_areOutcomesSound 364 = some (.ifCond .ne 7, 3, 371, 0, 0, 0) := rfl
set_option maxRecDepth 20000 in
theorem fL_areOutcomesSound_367 : fetch tL_areOutcomesSound 367 = some (.iconst 1, 1, 0, 0, 1, 0) := rfl
set_option maxRecDepth 20000 in
theorem fL_areOutcomesSound_368 : fetch tL_areOutcomesSound 368 = some (.goto 4, 3, 372, 0, 0, 0) := rfl
set_option maxRecDepth 20000 in
theorem fL_areOutcomesSound_371 : fetch tL_areOutcomesSound 371 = some (.iconst 0, 1, 0, 0, 0, 0) := rfl
set_option maxRecDepth 20000 in
theorem fL_areOutcomesSound_372 : fetch tL_areOutcomesSound 372 = some (.if_icmp .ne 31, 3, 403, 0, 0, 0) := rfl
set_option maxRecDepth 20000 in
theorem fL_areOutcomesSound_375 : fetch tL_areOutcomesSound 375 = some (.iload 13, 2, 13, 0, 0, 0) := rfl
set_option maxRecDepth 20000 in
theorem fL_areOutcomesSound_377 : fetch tL_areOutcomesSound 377 = some (.ifCond .lt 28, 3, 405, 0, 0, 0) := rfl
set_option maxRecDepth 20000 in
theorem fL_areOutcomesSound_380 : fetch tL_areOutcomesSound 380 = some (.aload_n 0, 1, 0, 0, 0, 0) := rfl
set_option maxRecDepth 20000 in
theorem fL_areOutcomesSound_381 : fetch tL_areOutcomesSound 381 = some (.iload 13, 2, 13, 0, 0, 0) := rfl
set_option maxRecDepth 20000 in
theorem fL_areOutcomesSound_383 : fetch tL_areOutcomesSound 383 = some (.invokevirtual 14, 3, 1, 3, 0, 0) := rfl
set_option maxRecDepth 20000 in
theorem fL_areOutcomesSound_386 : fetch tL_areOutcomesSound 386 = some (.lload 9, 2, 9, 0, 0, 0) := rfl
set_option maxRecDepth 20000 in
theorem fL_areOutcomesSound_388 : fetch tL_areOutcomesSound 388 = some (.lcmp, 1, 0, 0, 0, 0) := rfl
set_option maxRecDepth 20000 in
theorem fL_areOutcomesSound_389 : fetch tL_areOutcomesSound 389 = some (.ifCond .ne 14, 3, 403, 0, 0, 0) := rfl
set_option maxRecDepth 20000 in
theorem fL_areOutcomesSound_392 : fetch tL_areOutcomesSound 392 = some (.aload_n 0, 1, 0, 0, 0, 0) := rfl
set_option maxRecDepth 20000 in
theorem fL_areOutcomesSound_393 : fetch tL_areOutcomesSound 393 = some (.iload_n 1, 1, 1, 0, 0, 0) := rfl
set_option maxRecDepth 20000 in
theorem fL_areOutcomesSound_394 : fetch tL_areOutcomesSound 394 = some (.iload 13, 2, 13, 0, 0, 0) := rfl
set_option maxRecDepth 20000 in
theorem fL_areOutcomesSound_396 : fetch tL_areOutcomesSound 396 = some (.invokevirtual 32, 3, 5, 3, 0, 0) := rfl
set_option maxRecDepth 20000 in
theorem fL_areOutcomesSound_399 : fetch tL_areOutcomesSound 399 = some (.iconst 1, 1, 0, 0, 1, 0) := rfl
set_option maxRecDepth 20000 in
theorem fL_areOutcomesSound_400 : fetch tL_areOutcomesSound 400 = some (.if_icmp .eq 5, 3, 405, 0, 0, 0) := rfl
set_option maxRecDepth 20000 in
theorem fL_areOutcomesSound_403 : fetch tL_areOutcomesSound 403 = some (.iconst 0, 1, 0, 0, 0, 0) := rfl
set_option maxRecDepth 20000 in
theorem fL_areOutcomesSound_404 : fetch tL_areOutcomesSound 404 = some (.ireturn, 1, 0, 0, 0, 0) := rfl
set_option maxRecDepth 20000 in
theorem fL_areOutcomesSound_405 : fetch tL_areOutcomesSound 405 = some (.aload_n 0, 1, 0, 0, 0, 0) := rfl
set_option maxRecDepth 20000 in
theorem fL_areOutcomesSound_406 : fetch tL_areOutcomesSound 406 = some (.iload_n 2, 1, 2, 0, 0, 0) := rfl
set_option maxRecDepth 20000 in
theorem fL_areOutcomesSound_407 : fetch tL_areOutcomesSound 407 = some (.invokevirtual 14, 3, 1, 3, 0, 0) := rfl
set_option maxRecDepth 20000 in
theorem fL_areOutcomesSound_410 : fetch tL_areOutcomesSound 410 = some (.ldc2_w 46, 3, 0, 0, 0, (-3)) := rfl
set_option maxRecDepth 20000 in
theorem fL_areOutcomesSound_413 : fetch tL_areOutcomesSound 413 = some (.lcmp, 1, 0, 0, 0, 0) := rfl
set_option maxRecDepth 20000 in
theorem fL_areOutcomesSound_414 : fetch tL_areOutcomesSound 414 = some (.ifCond .ne 19, 3, 433, 0, 0, 0) := rfl
set_option maxRecDepth 20000 in
theorem fL_areOutcomesSound_417 : fetch tL_areOutcomesSound 417 = some (.aload_n 0, 1, 0, 0, 0, 0) := rfl
set_option maxRecDepth 20000 in
theorem fL_areOutcomesSound_418 : fetch tL_areOutcomesSound 418 = some (.iload_n 1, 1, 1, 0, 0, 0) := rfl
set_option maxRecDepth 20000 in
theorem fL_areOutcomesSound_419 : fetch tL_areOutcomesSound 419 = some (.iload_n 2, 1, 2, 0, 0, 0) := rfl
set_option maxRecDepth 20000 in
theorem fL_areOutcomesSound_420 : fetch tL_areOutcomesSound 420 = some (.iconst 0, 1, 0, 0, 0, 0) := rfl
set_option maxRecDepth 20000 in
theorem fL_areOutcomesSound_421 : fetch tL_areOutcomesSound 421 = some (.invokevirtual 18, 3, 2, 3, 0, 0) := rfl
set_option maxRecDepth 20000 in
theorem fL_areOutcomesSound_424 : fetch tL_areOutcomesSound 424 = some (.bipush (-3), 2, 0, 0, (-3), 0) := rfl
set_option maxRecDepth 20000 in
theorem fL_areOutcomesSound_426 : fetch tL_areOutcomesSound 426 = some (.if_icmp .ne 7, 3, 433, 0, 0, 0) := rfl
set_option maxRecDepth 20000 in
theorem fL_areOutcomesSound_429 : fetch tL_areOutcomesSound 429 = some (.iconst 1, 1, 0, 0, 1, 0) := rfl
set_option maxRecDepth 20000 in
theorem fL_areOutcomesSound_430 : fetch tL_areOutcomesSound 430 = some (.goto 4, 3, 434, 0, 0, 0) := rfl
set_option maxRecDepth 20000 in
theorem fL_areOutcomesSound_433 : fetch tL_areOutcomesSound 433 = some (.iconst 0, 1, 0, 0, 0, 0) := rfl
set_option maxRecDepth 20000 in
theorem fL_areOutcomesSound_434 : fetch tL_areOutcomesSound 434 = some (.ireturn, 1, 0, 0, 0, 0) := rfl
def tL_areCandidatesSound : List (Nat × TE) := [(0, .aload_n 0, 1, 0, 0, 0, 0), (1, .invokevirtual 48, 3, 0, 3, 0, 0), (4, .istore_n 1, 1, 1, 0, 0, 0), (5, .iconst 0, 1, 0, 0, 0, 0), (6, .istore_n 2, 1, 2, 0, 0, 0), (7, .iconst 0, 1, 0, 0, 0, 0), (8, .istore_n 3, 1, 3, 0, 0, 0), (9, .iconst 0, 1, 0, 0, 0, 0), (10, .istore 4, 2, 4, 0, 0, 0), (12, .iload 4, 2, 4, 0, 0, 0), (14, .iload_n 1, 1, 1, 0, 0, 0), (15, .if_icmp .ge 126, 3, 141, 0, 0, 0), (18, .aload_n 0, 1, 0, 0, 0, 0), (19, .iload 4, 2, 4, 0, 0, 0), (21, .invokevirtual 51, 3, 1, 3, 0, 0), (24, .istore 5, 2, 5, 0, 0, 0), (26, .aload_n 0, 1, 0, 0, 0, 0), (27, .iconst 1, 1, 0, 0, 1, 0), (28, .iload 5, 2, 5, 0, 0, 0), (30, .ishl, 1, 0, 0, 0, 0), (31, .invokevirtual 40, 3, 2, 3, 0, 0), (34, .lstore 6, 2, 6, 0, 0, 0), (36, .lload 6, 2, 6, 0, 0, 0), (38, .lconst 0, 1, 0, 0, 0, 0), (39, .lcmp, 1, 0, 0, 0, 0), (40, .ifCond .le 13, 3, 53, 0, 0, 0), (43, .iload_n 3, 1, 3, 0, 0, 0), (44, .iload 5, 2, 5, 0, 0, 0), (46, .ishr, 1, 0, 0, 0, 0), (47, .iconst 1, 1, 0, 0, 1, 0), (48, .iand, 1, 0, 0, 0, 0), (49, .iconst 1, 1, 0, 0, 1, 0), (50, .if_icmp .ne 5, 3, 55, 0, 0, 0), (53, .iconst 0, 1, 0, 0, 0, 0), (54, .ireturn, 1, 0, 0, 0, 0), (55, .iload 4, 2, 4, 0, 0, 0), (57, .ifCond .le 71, 3, 128, 0, 0, 0), (60, .aload_n 0, 1, 0, 0, 0, 0), (61, .iconst 1, 1, 0, 0, 1, 0), (62, .aload_n 0, 1, 0, 0, 0, 0), (63, .iload 4, 2, 4, 0, 0, 0), (65, .iconst 1, 1, 0, 0, 1, 0), (66, .isub, 1, 0, 0, 0, 0), (67, .invokevirtual 51, 3, 1, 3, 0, 0), (70, .ishl, 1, 0, 0, 0, 0), (71, .invokevirtual 40, 3, 2, 3, 0, 0), (74, .lstore 8, 2, 8, 0, 0, 0), (76, .lload 8, 2, 8, 0, 0, 0), (78, .lload 6, 2, 6, 0, 0, 0), (80, .lcmp, 1, 0, 0, 0, 0), (81, .ifCond .lt 45, 3, 126, 0, 0, 0), (84, .lload 8, 2, 8, 0, 0, 0), (86, .lload 6, 2, 6, 0, 0, 0), (88, .lcmp, 1, 0, 0, 0, 0), (89, .ifCond .ne 16, 3, 105, 0, 0, 0), (92, .aload_n 0, 1, 0, 0, 0, 0), (93, .iload 4, 2, 4, 0, 0, 0), (95, .iconst 1, 1, 0, 0, 1, 0), (96, .isub, 1, 0, 0, 0, 0), (97, .invokevirtual 51, 3, 1, 3, 0, 0), (100, .iload 5, 2, 5, 0, 0, 0), (102, .if_icmp .gt 24, 3, 126, 0, 0, 0), (105, .aload_n 0, 1, 0, 0, 0, 0), (106, .aload_n 0, 1, 0, 0, 0, 0), (107, .iload 4, 2, 4, 0, 0, 0), (109, .iconst 1, 1, 0, 0, 1, 0), (110, .isub, 1, 0, 0, 0, 0), (111, .invokevirtual 51, 3, 1, 3, 0, 0), (114, .invokevirtual 54, 3, 3, 3, 0, 0), (117, .aload_n 0, 1, 0, 0, 0, 0), (118, .iload 5, 2, 5, 0, 0, 0), (120, .invokevirtual 54, 3, 3, 3, 0, 0), (123, .if_icmp .ge 5, 3, 128, 0, 0, 0), (126, .iconst 0, 1, 0, 0, 0, 0), (127, .ireturn, 1, 0, 0, 0, 0), (128, .iload_n 3, 1, 3, 0, 0, 0), (129, .iconst 1, 1, 0, 0, 1, 0), (130, .iload 5, 2, 5, 0, 0, 0), (132, .ishl, 1, 0, 0, 0, 0), (133, .ior, 1, 0, 0, 0, 0), (134, .istore_n 3, 1, 3, 0, 0, 0), (135, .iinc 4 1, 3, 4, 0, 1, 0), (138, .goto (-126), 3, 12, 0, 0, 0), (141, .iconst 0, 1, 0, 0, 0, 0), (142, .istore 4, 2, 4, 0, 0, 0), (144, .iconst 0, 1, 0, 0, 0, 0), (145, .istore 5, 2, 5, 0, 0, 0), (147, .iload 5, 2, 5, 0, 0, 0), (149, .bipush 8, 2, 0, 0, 8, 0), (151, .if_icmp .ge 159, 3, 310, 0, 0, 0), (154, .iload_n 2, 1, 2, 0, 0, 0), (155, .aload_n 0, 1, 0, 0, 0, 0), (156, .iload 5, 2, 5, 0, 0, 0), (158, .invokevirtual 54, 3, 3, 3, 0, 0), (161, .iadd, 1, 0, 0, 0, 0), (162, .istore_n 2, 1, 2, 0, 0, 0), (163, .iload 4, 2, 4, 0, 0, 0), (165, .aload_n 0, 1, 0, 0, 0, 0), (166, .iconst 1, 1, 0, 0, 1, 0), (167, .iload 5, 2, 5, 0, 0, 0), (169, .ishl, 1, 0, 0, 0, 0), (170, .invokevirtual 40, 3, 2, 3, 0, 0), (173, .lconst 0, 1, 0, 0, 0, 0), (174, .lcmp, 1, 0, 0, 0, 0), (175, .ifCond .le 7, 3, 182, 0, 0, 0), (178, .iconst 1, 1, 0, 0, 1, 0), (179, .goto 4, 3, 183, 0, 0, 0), (182, .iconst 0, 1, 0, 0, 0, 0), (183, .iadd, 1, 0, 0, 0, 0), (184, .istore 4, 2, 4, 0, 0, 0), (186, .aload_n 0, 1, 0, 0, 0, 0), (187, .iload 5, 2, 5, 0, 0, 0), (189, .invokevirtual 57, 3, 4, 3, 0, 0), (192, .istore 6, 2, 6, 0, 0, 0), (194, .iload_n 3, 1, 3, 0, 0, 0), (195, .iload 5, 2, 5, 0, 0, 0), (197, .ishr, 1, 0, 0, 0, 0), (198, .iconst 1, 1, 0, 0, 1, 0), (199, .iand, 1, 0, 0, 0, 0), (200, .ifCond .ne 12, 3, 212, 0, 0, 0), (203, .aload_n 0, 1, 0, 0, 0, 0), (204, .iload 5, 2, 5, 0, 0, 0), (206, .invokevirtual 54, 3, 3, 3, 0, 0), (209, .ifCond .ne 33, 3, 242, 0, 0, 0), (212, .iload 6, 2, 6, 0, 0, 0), (214, .iload 5, 2, 5, 0, 0, 0), (216, .if_icmp .eq 26, 3, 242, 0, 0, 0), (219, .iload 6, 2, 6, 0, 0, 0), (221, .ifCond .lt 23, 3, 244, 0, 0, 0), (224, .aload_n 0, 1, 0, 0, 0, 0), (225, .iconst 1, 1, 0, 0, 1, 0), (226, .iload 5, 2, 5, 0, 0, 0), (228, .ishl, 1, 0, 0, 0, 0), (229, .iconst 1, 1, 0, 0, 1, 0), (230, .iload 6, 2, 6, 0, 0, 0), (232, .ishl, 1, 0, 0, 0, 0), (233, .ior, 1, 0, 0, 0, 0), (234, .invokevirtual 40, 3, 2, 3, 0, 0), (237, .lconst 0, 1, 0, 0, 0, 0), (238, .lcmp, 1, 0, 0, 0, 0), (239, .ifCond .gt 5, 3, 244, 0, 0, 0), (242, .iconst 0, 1, 0, 0, 0, 0), (243, .ireturn, 1, 0, 0, 0, 0), (244, .aload_n 0, 1, 0, 0, 0, 0), (245, .iload 5, 2, 5, 0, 0, 0), (247, .invokevirtual 60, 3, 5, 3, 0, 0), (250, .istore 7, 2, 7, 0, 0, 0), (252, .aload_n 0, 1, 0, 0, 0, 0), (253, .iload 5, 2, 5, 0, 0, 0), (255, .invokevirtual 22, 3, 6, 3, 0, 0), (258, .bipush 100, 2, 0, 0, 100, 0), (260, .if_icmp .eq 20, 3, 280, 0, 0, 0), (263, .iload 7, 2, 7, 0, 0, 0), (265, .iload_n 1, 1, 1, 0, 0, 0), (266, .ifCond .le 7, 3, 273, 0, 0, 0), (269, .iconst 1, 1, 0, 0, 1, 0), (270, .goto 4, 3, 274, 0, 0, 0), (273, .iconst 0, 1, 0, 0, 0, 0), (274, .if_icmp .eq 30, 3, 304, 0, 0, 0), (277, .goto 25, 3, 302, 0, 0, 0), (280, .iload 7, 2, 7, 0, 0, 0), (282, .ifCond .le 7, 3, 289, 0, 0, 0), (285, .iconst 1, 1, 0, 0, 1, 0), (286, .goto 4, 3, 290, 0, 0, 0), (289, .iconst 0, 1, 0, 0, 0, 0), (290, .iload_n 1, 1, 1, 0, 0, 0), (291, .ifCond .le 7, 3, 298, 0, 0, 0), (294, .iconst 1, 1, 0, 0, 1, 0), (295, .goto 4, 3, 299, 0, 0, 0), (298, .iconst 0, 1, 0, 0, 0, 0), (299, .if_icmp .eq 5, 3, 304, 0, 0, 0), (302, .iconst 0, 1, 0, 0, 0, 0), (303, .ireturn, 1, 0, 0, 0, 0), (304, .iinc 5 1, 3, 5, 0, 1, 0), (307, .goto (-160), 3, 147, 0, 0, 0), (310, .iload 4, 2, 4, 0, 0, 0), (312, .iload_n 1, 1, 1, 0, 0, 0), (313, .if_icmp .ne 59, 3, 372, 0, 0, 0), (316, .iload_n 2, 1, 2, 0, 0, 0), (317, .sipush 1000, 3, 0, 0, 1000, 0), (320, .if_icmp .gt 52, 3, 372, 0, 0, 0), (323, .iload_n 1, 1, 1, 0, 0, 0), (324, .ifCond .ne 10, 3, 334, 0, 0, 0), (327, .iload_n 2, 1, 2, 0, 0, 0), (328, .ifCond .ne 44, 3, 372, 0, 0, 0), (331, .goto 10, 3, 341, 0, 0, 0), (334, .iload_n 2, 1, 2, 0, 0, 0), (335, .sipush 991, 3, 0, 0, 991, 0), (338, .if_icmp .le 34, 3, 372, 0, 0, 0), (341, .aload_n 0, 1, 0, 0, 0, 0), (342, .iload_n 1, 1, 1, 0, 0, 0), (343, .invokevirtual 51, 3, 1, 3, 0, 0), (346, .bipush (-2), 2, 0, 0, (-2), 0), (348, .if_icmp .ne 24, 3, 372, 0, 0, 0), (351, .aload_n 0, 1, 0, 0, 0, 0), (352, .invokevirtual 63, 3, 7, 3, 0, 0), (355, .iload_n 1, 1, 1, 0, 0, 0), (356, .if_icmp .lt 16, 3, 372, 0, 0, 0), (359, .aload_n 0, 1, 0, 0, 0, 0), (360, .invokevirtual 63, 3, 7, 3, 0, 0), (363, .bipush 36, 2, 0, 0, 36, 0), (365, .if_icmp .gt 7, 3, 372, 0, 0, 0), (368, .iconst 1, 1, 0, 0, 1, 0), (369, .goto 4, 3, 373, 0, 0, 0), (372, .iconst 0, 1, 0, 0, 0, 0), (373, .ireturn, 1, 0, 0, 0, 0)]
theorem tkL_areCandidatesSound : tOk cL_areCandidatesSound "RumourSourceLaw" 10 tL_areCandidatesSound = true := by decide +kernel
set_option maxRecDepth 20000 in
theorem fL_areCandidatesSound_0 : fetch tL_areCandidatesSound 0 = some (.aload_n 0, 1, 0, 0, 0, 0) := rfl
set_option maxRecDepth 20000 in
theorem fL_areCandidatesSound_1 : fetch tL_areCandidatesSound 1 = some (.invokevirtual 48, 3, 0, 3, 0, 0) := rfl
set_option maxRecDepth 20000 in
theorem fL_areCandidatesSound_4 : fetch tL_areCandidatesSound 4 = some (.istore_n 1, 1, 1, 0, 0, 0) := rfl
set_option maxRecDepth 20000 in
theorem fL_areCandidatesSound_5 : fetch tL_areCandidatesSound 5 = some (.iconst 0, 1, 0, 0, 0, 0) := rfl
set_option maxRecDepth 20000 in
theorem fL_areCandidatesSound_6 : fetch tL_areCandidatesSound 6 = some (.istore_n 2, 1, 2, 0, 0, 0) := rfl
set_option maxRecDepth 20000 in
theorem fL_areCandidatesSound_7 : fetch tL_areCandidatesSound 7 = some (.iconst 0, 1, 0, 0, 0, 0) := rfl
set_option maxRecDepth 20000 in
theorem fL_areCandidatesSound_8 : fetch tL_areCandidatesSound 8 = some (.istore_n 3, 1, 3, 0, 0, 0) := rfl
set_option maxRecDepth 20000 in
theorem fL_areCandidatesSound_9 : fetch tL_areCandidatesSound 9 = some (.iconst 0, 1, 0, 0, 0, 0) := rfl
set_option maxRecDepth 20000 in
theorem fL_areCandidatesSound_10 : fetch tL_areCandidatesSound 10 = some (.istore 4, 2, 4, 0, 0, 0) := rfl
set_option maxRecDepth 20000 in
theorem fL_areCandidatesSound_12 : fetch tL_areCandidatesSound 12 = some (.iload 4, 2, 4, 0, 0, 0) := rfl
set_option maxRecDepth 20000 in
theorem fL_areCandidatesSound_14 : fetch tL_areCandidatesSound 14 = some (.iload_n 1, 1, 1, 0, 0, 0) := rfl
set_option maxRecDepth 20000 in
theorem fL_areCandidatesSound_15 : fetch tL_areCandidatesSound 15 = some (.if_icmp .ge 126, 3, 141, 0, 0, 0) := rfl
set_option maxRecDepth 20000 in
theorem fL_areCandidatesSound_18 : fetch tL_areCandidatesSound 18 = some (.aload_n 0, 1, 0, 0, 0, 0) := rfl
set_option maxRecDepth 20000 in
theorem fL_areCandidatesSound_19 : fetch tL_areCandidatesSound 19 = some (.iload 4, 2, 4, 0, 0, 0) := rfl
set_option maxRecDepth 20000 in
theorem fL_areCandidatesSound_21 : fetch tL_areCandidatesSound 21 = some (.invokevirtual 51, 3, 1, 3, 0, 0) := rfl
set_option maxRecDepth 20000 in
theorem fL_areCandidatesSound_24 : fetch tL_areCandidatesSound 24 = some (.istore 5, 2, 5, 0, 0, 0) := rfl
set_option maxRecDepth 20000 in
theorem fL_areCandidatesSound_26 : fetch tL_areCandidatesSound 26 = some (.aload_n 0, 1, 0, 0, 0, 0) := rfl
set_option maxRecDepth 20000 in
theorem fL_areCandidatesSound_27 : fetch tL_areCandidatesSound 27 = some (.iconst 1, 1, 0, 0, 1, 0) := rfl
set_option maxRecDepth 20000 in
theorem fL_areCandidatesSound_28 : fetch tL_areCandidatesSound 28 = some (.iload 5, 2, 5, 0, 0, 0) := rfl
set_option maxRecDepth 20000 in
theorem fL_areCandidatesSound_30 : fetch tL_areCandidatesSound 30 = some (.ishl, 1, 0, 0, 0, 0) := rfl
set_option maxRecDepth 20000 in
theorem fL_areCandidatesSound_31 : fetch tL_areCandidatesSound 31 = some (.invokevirtual 40, 3, 2, 3, 0, 0) := rfl
set_option maxRecDepth 20000 in
theorem fL_areCandidatesSound_34 : fetch tL_areCandidatesSound 34 = some (.lstore 6, 2, 6, 0, 0, 0) := rfl
set_option maxRecDepth 20000 in
theorem fL_areCandidatesSound_36 : fetch tL_areCandidatesSound 36 = some (.lload 6, 2, 6, 0, 0, 0) := rfl
set_option maxRecDepth 20000 in
theorem fL_areCandidatesSound_38 : fetch tL_areCandidatesSound 38 = some (.lconst 0, 1, 0, 0, 0, 0) := rfl
set_option maxRecDepth 20000 in
theorem fL_areCandidatesSound_39 : fetch tL_areCandidatesSound 39 = some (.lcmp, 1, 0, 0, 0, 0) := rfl
set_option maxRecDepth 20000 in
theorem fL_areCandidatesSound_40 : fetch tL_areCandidatesSound 40 = some (.ifCond .le 13, 3, 53, 0, 0, 0) := rfl
set_option maxRecDepth 20000 in
theorem fL_areCandidatesSound_43 : fetch tL_areCandidatesSound 43 = some (.iload_n 3, 1, 3, 0, 0, 0) := rfl
set_option maxRecDepth 20000 in
theorem fL_areCandidatesSound_44 : fetch tL_areCandidatesSound 44 = some (.iload 5, 2, 5, 0, 0, 0) := rfl
set_option maxRecDepth 20000 in
theorem fL_areCandidatesSound_46 : fetch tL_areCandidatesSound 46 = some (.ishr, 1, 0, 0, 0, 0) := rfl
set_option maxRecDepth 20000 in
theorem fL_areCandidatesSound_47 : fetch tL_areCandidatesSound 47 = some (.iconst 1, 1, 0, 0, 1, 0) := rfl
set_option maxRecDepth 20000 in
theorem fL_areCandidatesSound_48 : fetch tL_areCandidatesSound 48 = some (.iand, 1, 0, 0, 0, 0) := rfl
set_option maxRecDepth 20000 in
theorem fL_areCandidatesSound_49 : fetch tL_areCandidatesSound 49 = some (.iconst 1, 1, 0, 0, 1, 0) := rfl
set_option maxRecDepth 20000 in
theorem fL_areCandidatesSound_50 : fetch tL_areCandidatesSound 50 = some (.if_icmp .ne 5, 3, 55, 0, 0, 0) := rfl
set_option maxRecDepth 20000 in
theorem fL_areCandidatesSound_53 : fetch tL_areCandidatesSound 53 = some (.iconst 0, 1, 0, 0, 0, 0) := rfl
set_option maxRecDepth 20000 in
theorem fL_areCandidatesSound_54 : fetch tL_areCandidatesSound 54 = some (.ireturn, 1, 0, 0, 0, 0) := rfl
set_option maxRecDepth 20000 in
theorem fL_areCandidatesSound_55 : fetch tL_areCandidatesSound 55 = some (.iload 4, 2, 4, 0, 0, 0) := rfl
set_option maxRecDepth 20000 in
theorem fL_areCandidatesSound_57 : fetch tL_areCandidatesSound 57 = some (.ifCond .le 71, 3, 128, 0, 0, 0) := rfl
set_option maxRecDepth 20000 in
theorem fL_areCandidatesSound_60 : fetch tL_areCandidatesSound 60 = some (.aload_n 0, 1, 0, 0, 0, 0) := rfl
set_option maxRecDepth 20000 in
theorem fL_areCandidatesSound_61 : fetch tL_areCandidatesSound 61 = some (.iconst 1, 1, 0, 0, 1, 0) := rfl
set_option maxRecDepth 20000 in
theorem fL_areCandidatesSound_62 : fetch tL_areCandidatesSound 62 = some (.aload_n 0, 1, 0, 0, 0, 0) := rfl
set_option maxRecDepth 20000 in
theorem fL_areCandidatesSound_63 : fetch tL_areCandidatesSound 63 = some (.iload 4, 2, 4, 0, 0, 0) := rfl
set_option maxRecDepth 20000 in
theorem fL_areCandidatesSound_65 : fetch tL_areCandidatesSound 65 = some (.iconst 1, 1, 0, 0, 1, 0) := rfl
set_option maxRecDepth 20000 in
theorem fL_areCandidatesSound_66 : fetch tL_areCandidatesSound 66 = some (.isub, 1, 0, 0, 0, 0) := rfl
set_option maxRecDepth 20000 in
theorem fL_areCandidatesSound_67 : fetch tL_areCandidatesSound 67 = some (.invokevirtual 51, 3, 1, 3, 0, 0) := rfl
set_option maxRecDepth 20000 in
theorem fL_areCandidatesSound_70 : fetch tL_areCandidatesSound 70 = some (.ishl, 1, 0, 0, 0, 0) := rfl
set_option maxRecDepth 20000 in
theorem fL_areCandidatesSound_71 : fetch tL_areCandidatesSound 71 = some (.invokevirtual 40, 3, 2, 3, 0, 0) := rfl
set_option maxRecDepth 20000 in
theorem fL_areCandidatesSound_74 : fetch tL_areCandidatesSound 74 = some (.lstore 8, 2, 8, 0, 0, 0) := rfl
set_option maxRecDepth 20000 in
theorem fL_areCandidatesSound_76 : fetch tL_areCandidatesSound 76 = some (.lload 8, 2, 8, 0, 0, 0) := rfl
set_option maxRecDepth 20000 in
theorem fL_areCandidatesSound_78 : fetch tL_areCandidatesSound 78 = some (.lload 6, 2, 6, 0, 0, 0) := rfl
set_option maxRecDepth 20000 in
theorem fL_areCandidatesSound_80 : fetch tL_areCandidatesSound 80 = some (.lcmp, 1, 0, 0, 0, 0) := rfl
set_option maxRecDepth 20000 in
theorem fL_areCandidatesSound_81 : fetch tL_areCandidatesSound 81 = some (.ifCond .lt 45, 3, 126, 0, 0, 0) := rfl
set_option maxRecDepth 20000 in
theorem fL_areCandidatesSound_84 : fetch tL_areCandidatesSound 84 = some (.lload 8, 2, 8, 0, 0, 0) := rfl
set_option maxRecDepth 20000 in
theorem fL_areCandidatesSound_86 : fetch tL_areCandidatesSound 86 = some (.lload 6, 2, 6, 0, 0, 0) := rfl
set_option maxRecDepth 20000 in
theorem fL_areCandidatesSound_88 : fetch tL_areCandidatesSound 88 = some (.lcmp, 1, 0, 0, 0, 0) := rfl
set_option maxRecDepth 20000 in
theorem fL_areCandidatesSound_89 : fetch tL_areCandidatesSound 89 = some (.ifCond .ne 16, 3, 105, 0, 0, 0) := rfl
set_option maxRecDepth 20000 in
theorem fL_areCandidatesSound_92 : fetch tL_areCandidatesSound 92 = some (.aload_n 0, 1, 0, 0, 0, 0) := rfl
set_option maxRecDepth 20000 in
theorem fL_areCandidatesSound_93 : fetch tL_areCandidatesSound 93 = some (.iload 4, 2, 4, 0, 0, 0) := rfl
set_option maxRecDepth 20000 in
theorem fL_areCandidatesSound_95 : fetch tL_areCandidatesSound 95 = some (.iconst 1, 1, 0, 0, 1, 0) := rfl
set_option maxRecDepth 20000 in
theorem fL_areCandidatesSound_96 : fetch tL_areCandidatesSound 96 = some (.isub, 1, 0, 0, 0, 0) := rfl
set_option maxRecDepth 20000 in
theorem fL_areCandidatesSound_97 : fetch tL_areCandidatesSound 97 = some (.invokevirtual 51, 3, 1, 3, 0, 0) := rfl
set_option maxRecDepth 20000 in
theorem fL_areCandidatesSound_100 : fetch tL_areCandidatesSound 100 = some (.iload 5, 2, 5, 0, 0, 0) := rfl
set_option maxRecDepth 20000 in
theorem fL_areCandidatesSound_102 : fetch tL_areCandidatesSound 102 = some (.if_icmp .gt 24, 3, 126, 0, 0, 0) := rfl
set_option maxRecDepth 20000 in
theorem fL_areCandidatesSound_105 : fetch tL_areCandidatesSound 105 = some (.aload_n 0, 1, 0, 0, 0, 0) := rfl
set_option maxRecDepth 20000 in
theorem fL_areCandidatesSound_106 : fetch tL_areCandidatesSound 106 = some (.aload_n 0, 1, 0, 0, 0, 0) := rfl
set_option maxRecDepth 20000 in
theorem fL_areCandidatesSound_107 : fetch tL_areCandidatesSound 107 = some (.iload 4, 2, 4, 0, 0, 0) := rfl
set_option maxRecDepth 20000 in
theorem fL_areCandidatesSound_109 : fetch tL_areCandidatesSound 109 = some (.iconst 1, 1, 0, 0, 1, 0) := rfl
set_option maxRecDepth 20000 in
theorem fL_areCandidatesSound_110 : fetch tL_areCandidatesSound 110 = some (.isub, 1, 0, 0, 0, 0) := rfl
set_option maxRecDepth 20000 in
theorem fL_areCandidatesSound_111 : fetch tL_areCandidatesSound 111 = some (.invokevirtual 51, 3, 1, 3, 0, 0) := rfl
set_option maxRecDepth 20000 in
theorem fL_areCandidatesSound_114 : fetch tL_areCandidatesSound 114 = some (.invokevirtual 54, 3, 3, 3, 0, 0) := rfl
set_option maxRecDepth 20000 in
theorem fL_areCandidatesSound_117 : fetch tL_areCandidatesSound 117 = some (.aload_n 0, 1, 0, 0, 0, 0) := rfl
set_option maxRecDepth 20000 in
theorem fL_areCandidatesSound_118 : fetch tL_areCandidatesSound 118 = some (.iload 5, 2, 5, 0, 0, 0) := rfl
set_option maxRecDepth 20000 in
theorem fL_areCandidatesSound_120 : fetch tL_areCandidatesSound 120 = some (.invokevirtual 54, 3, 3, 3, 0, 0) := rfl
set_option maxRecDepth 20000 in
theorem fL_areCandidatesSound_123 : fetch tL_areCandidatesSound 123 = some (.if_icmp .ge 5, 3, 128, 0, 0, 0) := rfl
set_option maxRecDepth 20000 in
theorem fL_areCandidatesSound_126 : fetch tL_areCandidatesSound 126 = some (.iconst 0, 1, 0, 0, 0, 0) := rfl
set_option maxRecDepth 20000 in
theorem fL_areCandidatesSound_127 : fetch tL_areCandidatesSound 127 = some (.ireturn, 1, 0, 0, 0, 0) := rfl
set_option maxRecDepth 20000 in
theorem fL_areCandidatesSound_128 : fetch tL_areCandidatesSound 128 = some (.iload_n 3, 1, 3, 0, 0, 0) := rfl
set_option maxRecDepth 20000 in
theorem fL_areCandidatesSound_129 : fetch tL_areCandidatesSound 129 = some (.iconst 1, 1, 0, 0, 1, 0) := rfl
set_option maxRecDepth 20000 in
theorem fL_areCandidatesSound_130 : fetch tL_areCandidatesSound 130 = some (.iload 5, 2, 5, 0, 0, 0) := rfl
set_option maxRecDepth 20000 in
theorem fL_areCandidatesSound_132 : fetch tL_areCandidatesSound 132 = some (.ishl, 1, 0, 0, 0, 0) := rfl
set_option maxRecDepth 20000 in
theorem fL_areCandidatesSound_133 : fetch tL_areCandidatesSound 133 = some (.ior, 1, 0, 0, 0, 0) := rfl
set_option maxRecDepth 20000 in
theorem fL_areCandidatesSound_134 : fetch tL_areCandidatesSound 134 = some (.istore_n 3, 1, 3, 0, 0, 0) := rfl
set_option maxRecDepth 20000 in
theorem fL_areCandidatesSound_135 : fetch tL_areCandidatesSound 135 = some (.iinc 4 1, 3, 4, 0, 1, 0) := rfl
set_option maxRecDepth 20000 in
theorem fL_areCandidatesSound_138 : fetch tL_areCandidatesSound 138 = some (.goto (-126), 3, 12, 0, 0, 0) := rfl
set_option maxRecDepth 20000 in
theorem fL_areCandidatesSound_141 : fetch tL_areCandidatesSound 141 = some (.iconst 0, 1, 0, 0, 0, 0) := rfl
set_option maxRecDepth 20000 in
theorem fL_areCandidatesSound_142 : fetch tL_areCandidatesSound 142 = some (.istore 4, 2, 4, 0, 0, 0) := rfl
set_option maxRecDepth 20000 in
theorem fL_areCandidatesSound_144 : fetch tL_areCandidatesSound 144 = some (.iconst 0, 1, 0, 0, 0, 0) := rfl
set_option maxRecDepth 20000 in
theorem fL_areCandidatesSound_145 : fetch tL_areCandidatesSound 145 = some (.istore 5, 2, 5, 0, 0, 0) := rfl
set_option maxRecDepth 20000 in
theorem fL_areCandidatesSound_147 : fetch tL_areCandidatesSound 147 = some (.iload 5, 2, 5, 0, 0, 0) := rfl
set_option maxRecDepth 20000 in
theorem fL_areCandidatesSound_149 : fetch tL_areCandidatesSound 149 = some (.bipush 8, 2, 0, 0, 8, 0) := rfl
set_option maxRecDepth 20000 in
theorem fL_areCandidatesSound_151 : fetch tL_areCandidatesSound 151 = some (.if_icmp .ge 159, 3, 310, 0, 0, 0) := rfl
set_option maxRecDepth 20000 in
theorem fL_areCandidatesSound_154 : fetch tL_areCandidatesSound 154 = some (.iload_n 2, 1, 2, 0, 0, 0) := rfl
set_option maxRecDepth 20000 in
theorem fL_areCandidatesSound_155 : fetch tL_areCandidatesSound 155 = some (.aload_n 0, 1, 0, 0, 0, 0) := rfl
set_option maxRecDepth 20000 in
theorem fL_areCandidatesSound_156 : fetch tL_areCandidatesSound 156 = some (.iload 5, 2, 5, 0, 0, 0) := rfl
set_option maxRecDepth 20000 in
theorem fL_areCandidatesSound_158 : fetch tL_areCandidatesSound 158 = some (.invokevirtual 54, 3, 3, 3, 0, 0) := rfl
set_option maxRecDepth 20000 in
theorem fL_areCandidatesSound_161 : fetch tL_areCandidatesSound 161 = some (.iadd, 1, 0, 0, 0, 0) := rfl
set_option maxRecDepth 20000 in
theorem fL_areCandidatesSound_162 : fetch tL_areCandidatesSound 162 = some (.istore_n 2, 1, 2, 0, 0, 0) := rfl
set_option maxRecDepth 20000 in
theorem fL_areCandidatesSound_163 : fetch tL_areCandidatesSound 163 = some (.iload 4, 2, 4, 0, 0, 0) := rfl
set_option maxRecDepth 20000 in
theorem fL_areCandidatesSound_165 : fetch tL_areCandidatesSound 165 = some (.aload_n 0, 1, 0, 0, 0, 0) := rfl
set_option maxRecDepth 20000 in
theorem fL_areCandidatesSound_166 : fetch tL_areCandidatesSound 166 = some (.iconst 1, 1, 0, 0, 1, 0) := rfl
set_option maxRecDepth 20000 in
theorem fL_areCandidatesSound_167 : fetch tL_areCandidatesSound 167 = some (.iload 5, 2, 5, 0, 0, 0) := rfl
set_option maxRecDepth 20000 in
theorem fL_areCandidatesSound_169 : fetch tL_areCandidatesSound 169 = some (.ishl, 1, 0, 0, 0, 0) := rfl
set_option maxRecDepth 20000 in
theorem fL_areCandidatesSound_170 : fetch tL_areCandidatesSound 170 = some (.invokevirtual 40, 3, 2, 3, 0, 0) := rfl
set_option maxRecDepth 20000 in
theorem fL_areCandidatesSound_173 : fetch tL_areCandidatesSound 173 = some (.lconst 0, 1, 0, 0, 0, 0) := rfl
set_option maxRecDepth 20000 in
theorem fL_areCandidatesSound_174 : fetch tL_areCandidatesSound 174 = some (.lcmp, 1, 0, 0, 0, 0) := rfl
set_option maxRecDepth 20000 in
theorem fL_areCandidatesSound_175 : fetch tL_areCandidatesSound 175 = some (.ifCond .le 7, 3, 182, 0, 0, 0) := rfl
set_option maxRecDepth 20000 in
theorem fL_areCandidatesSound_178 : fetch tL_areCandidatesSound 178 = some (.iconst 1, 1, 0, 0, 1, 0) := rfl
set_option maxRecDepth 20000 in
theorem fL_areCandidatesSound_179 : fetch tL_areCandidatesSound 179 = some (.goto 4, 3, 183, 0, 0, 0) := rfl
set_option maxRecDepth 20000 in
theorem fL_areCandidatesSound_182 : fetch tL_areCandidatesSound 182 = some (.iconst 0, 1, 0, 0, 0, 0) := rfl
set_option maxRecDepth 20000 in
theorem fL_areCandidatesSound_183 : fetch tL_areCandidatesSound 183 = some (.iadd, 1, 0, 0, 0, 0) := rfl
set_option maxRecDepth 20000 in
theorem fL_areCandidatesSound_184 : fetch tL_areCandidatesSound 184 = some (.istore 4, 2, 4, 0, 0, 0) := rfl
set_option maxRecDepth 20000 in
theorem fL_areCandidatesSound_186 : fetch tL_areCandidatesSound 186 = some (.aload_n 0, 1, 0, 0, 0, 0) := rfl
set_option maxRecDepth 20000 in
theorem fL_areCandidatesSound_187 : fetch tL_areCandidatesSound 187 = some (.iload 5, 2, 5, 0, 0, 0) := rfl
set_option maxRecDepth 20000 in
theorem fL_areCandidatesSound_189 : fetch tL_areCandidatesSound 189 = some (.invokevirtual 57, 3, 4, 3, 0, 0) := rfl
set_option maxRecDepth 20000 in
theorem fL_areCandidatesSound_192 : fetch tL_areCandidatesSound 192 = some (.istore 6, 2, 6, 0, 0, 0) := rfl
set_option maxRecDepth 20000 in
theorem fL_areCandidatesSound_194 : fetch tL_areCandidatesSound 194 = some (.iload_n 3, 1, 3, 0, 0, 0) := rfl
set_option maxRecDepth 20000 in
theorem fL_areCandidatesSound_195 : fetch tL_areCandidatesSound 195 = some (.iload 5, 2, 5, 0, 0, 0) := rfl
set_option maxRecDepth 20000 in
theorem fL_areCandidatesSound_197 : fetch tL_areCandidatesSound 197 = some (.ishr, 1, 0, 0, 0, 0) := rfl
set_option maxRecDepth 20000 in
theorem fL_areCandidatesSound_198 : fetch tL_areCandidatesSound 198 = some (.iconst 1, 1, 0, 0, 1, 0) := rfl
set_option maxRecDepth 20000 in
theorem fL_areCandidatesSound_199 : fetch tL_areCandidatesSound 199 = some (.iand, 1, 0, 0, 0, 0) := rfl
set_option maxRecDepth 20000 in
theorem fL_areCandidatesSound_200 : fetch tL_areCandidatesSound 200 = some (.ifCond .ne 12, 3, 212, 0, 0, 0) := rfl
set_option maxRecDepth 20000 in
theorem fL_areCandidatesSound_203 : fetch tL_areCandidatesSound 203 = some (.aload_n 0, 1, 0, 0, 0, 0) := rfl
set_option maxRecDepth 20000 in
theorem fL_areCandidatesSound_204 : fetch tL_areCandidatesSound 204 = some (.iload 5, 2, 5, 0, 0, 0) := rfl
set_option maxRecDepth 20000 in
theorem fL_areCandidatesSound_206 : fetch tL_areCandidatesSound 206 = some (.invokevirtual 54, 3, 3, 3, 0, 0) := rfl
set_option maxRecDepth 20000 in
theorem fL_areCandidatesSound_209 : fetch tL_areCandidatesSound 209 = some (.ifCond .ne 33, 3, 242, 0, 0, 0) := rfl
set_option maxRecDepth 20000 in
theorem fL_areCandidatesSound_212 : fetch tL_areCandidatesSound 212 = some (.iload 6, 2, 6, 0, 0, 0) := rfl
set_option maxRecDepth 20000 in
theorem fL_areCandidatesSound_214 : fetch tL_areCandidatesSound 214 = some (.iload 5, 2, 5, 0, 0, 0) := rfl
set_option maxRecDepth 20000 in
theorem fL_areCandidatesSound_216 : fetch tL_areCandidatesSound 216 = some (.if_icmp .eq 26, 3, 242, 0, 0, 0) := rfl
set_option maxRecDepth 20000 in
theorem fL_areCandidatesSound_219 : fetch tL_areCandidatesSound 219 = some (.iload 6, 2, 6, 0, 0, 0) := rfl
set_option maxRecDepth 20000 in
theorem fL_areCandidatesSound_221 : fetch tL_areCandidatesSound 221 = some (.ifCond .lt 23, 3, 244, 0, 0, 0) := rfl
set_option maxRecDepth 20000 in
theorem fL_areCandidatesSound_224 : fetch tL_areCandidatesSound 224 = some (.aload_n 0, 1, 0, 0, 0, 0) := rfl
set_option maxRecDepth 20000 in
theorem fL_areCandidatesSound_225 : fetch tL_areCandidatesSound 225 = some (.iconst 1, 1, 0, 0, 1, 0) := rfl
set_option maxRecDepth 20000 in
theorem fL_areCandidatesSound_226 : fetch tL_areCandidatesSound 226 = some (.iload 5, 2, 5, 0, 0, 0) := rfl
set_option maxRecDepth 20000 in
theorem fL_areCandidatesSound_228 : fetch tL_areCandidatesSound 228 = some (.ishl, 1, 0, 0, 0, 0) := rfl
set_option maxRecDepth 20000 in
theorem fL_areCandidatesSound_229 : fetch tL_areCandidatesSound 229 = some (.iconst 1, 1, 0, 0, 1, 0) := rfl
set_option maxRecDepth 20000 in
theorem fL_areCandidatesSound_230 : fetch tL_areCandidatesSound 230 = some (.iload 6, 2, 6, 0, 0, 0) := rfl
set_option maxRecDepth 20000 in
theorem fL_areCandidatesSound_232 : fetch tL_areCandidatesSound 232 = some (.ishl, 1, 0, 0, 0, 0) := rfl
set_option maxRecDepth 20000 in
theorem fL_areCandidatesSound_233 : fetch tL_areCandidatesSound 233 = some (.ior, 1, 0, 0, 0, 0) := rfl
set_option maxRecDepth 20000 in
theorem fL_areCandidatesSound_234 : fetch tL_areCandidatesSound 234 = some (.invokevirtual 40, 3, 2, 3, 0, 0) := rfl
set_option maxRecDepth 20000 in
theorem fL_areCandidatesSound_237 : fetch tL_areCandidatesSound 237 = some (.lconst 0, 1, 0, 0, 0, 0) := rfl
set_option maxRecDepth 20000 in
theorem fL_areCandidatesSound_238 : fetch tL_areCandidatesSound 238 = some (.lcmp, 1, 0, 0, 0, 0) := rfl
set_option maxRecDepth 20000 in
theorem fL_areCandidatesSound_239 : fetch tL_areCandidatesSound 239 = some (.ifCond .gt 5, 3, 244, 0, 0, 0) := rfl
set_option maxRecDepth 20000 in
theorem fL_areCandidatesSound_242 : fetch tL_areCandidatesSound 242 = some (.iconst 0, 1, 0, 0, 0, 0) := rfl
set_option maxRecDepth 20000 in
theorem fL_areCandidatesSound_243 : fetch tL_areCandidatesSound 243 = some (.ireturn, 1, 0, 0, 0, 0) := rfl
set_option maxRecDepth 20000 in
theorem fL_areCandidatesSound_244 : fetch tL_areCandidatesSound 244 = some (.aload_n 0, 1, 0, 0, 0, 0) := rfl
set_option maxRecDepth 20000 in
theorem fL_areCandidatesSound_245 : fetch tL_areCandidatesSound 245 = some (.iload 5, 2, 5, 0, 0, 0) := rfl
set_option maxRecDepth 20000 in
theorem fL_areCandidatesSound_247 : fetch tL_areCandidatesSound 247 = some (.invokevirtual 60, 3, 5, 3, 0, 0) := rfl
set_option maxRecDepth 20000 in
theorem fL_areCandidatesSound_250 : fetch tL_areCandidatesSound 250 = some (.istore 7, 2, 7, 0, 0, 0) := rfl
set_option maxRecDepth 20000 in
theorem fL_areCandidatesSound_252 : fetch tL_areCandidatesSound 252 = some (.aload_n 0, 1, 0, 0, 0, 0) := rfl
set_option maxRecDepth 20000 in
theorem fL_areCandidatesSound_253 : fetch tL_areCandidatesSound 253 = some (.iload 5, 2, 5, 0, 0, 0) := rfl
set_option maxRecDepth 20000 in
theorem fL_areCandidatesSound_255 : fetch tL_areCandidatesSound 255 = some (.invokevirtual 22, 3, 6, 3, 0, 0) := rfl
set_option maxRecDepth 20000 in
theorem fL_areCandidatesSound_258 : fetch tL_areCandidatesSound 258 = some (.bipush 100, 2, 0, 0, 100, 0) := rfl
set_option maxRecDepth 20000 in
theorem fL_areCandidatesSound_260 : fetch tL_areCandidatesSound 260 = some (.if_icmp .eq 20, 3, 280, 0, 0, 0) := rfl
set_option maxRecDepth 20000 in
theorem fL_areCandidatesSound_263 : fetch tL_areCandidatesSound 263 = some (.iload 7, 2, 7, 0, 0, 0) := rfl
set_option maxRecDepth 20000 in
theorem fL_areCandidatesSound_265 : fetch tL_areCandidatesSound 265 = some (.iload_n 1, 1, 1, 0, 0, 0) := rfl
set_option maxRecDepth 20000 in
theorem fL_areCandidatesSound_266 : fetch tL_areCandidatesSound 266 = some (.ifCond .le 7, 3, 273, 0, 0, 0) := rfl
set_option maxRecDepth 20000 in
theorem fL_areCandidatesSound_269 : fetch tL_areCandidatesSound 269 = some (.iconst 1, 1, 0, 0, 1, 0) := rfl
set_option maxRecDepth 20000 in
theorem fL_areCandidatesSound_270 : fetch tL_areCandidatesSound 270 = some (.goto 4, 3, 274, 0, 0, 0) := rfl
set_option maxRecDepth 20000 in
theorem fL_areCandidatesSound_273 : fetch tL_areCandidatesSound 273 = some (.iconst 0, 1, 0, 0, 0, 0) := rfl
set_option maxRecDepth 20000 in
theorem fL_areCandidatesSound_274 : fetch tL_areCandidatesSound 274 = some (.if_icmp .eq 30, 3, 304, 0, 0, 0) := rfl
set_option maxRecDepth 20000 in
theorem fL_areCandidatesSound_277 : fetch tL_areCandidatesSound 277 = some (.goto 25, 3, 302, 0, 0, 0) := rfl
set_option maxRecDepth 20000 in
theorem fL_areCandidatesSound_280 : fetch tL_areCandidatesSound 280 = some (.iload 7, 2, 7, 0, 0, 0) := rfl
set_option maxRecDepth 20000 in
theorem fL_areCandidatesSound_282 : fetch tL_areCandidatesSound 282 = some (.ifCond .le 7, 3, 289, 0, 0, 0) := rfl
set_option maxRecDepth 20000 in
theorem fL_areCandidatesSound_285 : fetch tL_areCandidatesSound 285 = some (.iconst 1, 1, 0, 0, 1, 0) := rfl
set_option maxRecDepth 20000 in
theorem fL_areCandidatesSound_286 : fetch tL_areCandidatesSound 286 = some (.goto 4, 3, 290, 0, 0, 0) := rfl
set_option maxRecDepth 20000 in
theorem fL_areCandidatesSound_289 : fetch tL_areCandidatesSound 289 = some (.iconst 0, 1, 0, 0, 0, 0) := rfl
set_option maxRecDepth 20000 in
theorem fL_areCandidatesSound_290 : fetch tL_areCandidatesSound 290 = some (.iload_n 1, 1, 1, 0, 0, 0) := rfl
set_option maxRecDepth 20000 in
theorem fL_areCandidatesSound_291 : fetch tL_areCandidatesSound 291 = some (.ifCond .le 7, 3, 298, 0, 0, 0) := rfl
set_option maxRecDepth 20000 in
theorem fL_areCandidatesSound_294 : fetch tL_areCandidatesSound 294 = some (.iconst 1, 1, 0, 0, 1, 0) := rfl
set_option maxRecDepth 20000 in
theorem fL_areCandidatesSound_295 : fetch tL_areCandidatesSound 295 = some (.goto 4, 3, 299, 0, 0, 0) := rfl
set_option maxRecDepth 20000 in
theorem fL_areCandidatesSound_298 : fetch tL_areCandidatesSound 298 = some (.iconst 0, 1, 0, 0, 0, 0) := rfl
set_option maxRecDepth 20000 in
theorem fL_areCandidatesSound_299 : fetch tL_areCandidatesSound 299 = some (.if_icmp .eq 5, 3, 304, 0, 0, 0) := rfl
set_option maxRecDepth 20000 in
theorem fL_areCandidatesSound_302 : fetch tL_areCandidatesSound 302 = some (.iconst 0, 1, 0, 0, 0, 0) := rfl
set_option maxRecDepth 20000 in
theorem fL_areCandidatesSound_303 : fetch tL_areCandidatesSound 303 = some (.ireturn, 1, 0, 0, 0, 0) := rfl
set_option maxRecDepth 20000 in
theorem fL_areCandidatesSound_304 : fetch tL_areCandidatesSound 304 = some (.iinc 5 1, 3, 5, 0, 1, 0) := rfl
set_option maxRecDepth 20000 in
theorem fL_areCandidatesSound_307 : fetch tL_areCandidatesSound 307 = some (.goto (-160), 3, 147, 0, 0, 0) := rfl
set_option maxRecDepth 20000 in
theorem fL_areCandidatesSound_310 : fetch tL_areCandidatesSound 310 = some (.iload 4, 2, 4, 0, 0, 0) := rfl
set_option maxRecDepth 20000 in
theorem fL_areCandidatesSound_312 : fetch tL_areCandidatesSound 312 = some (.iload_n 1, 1, 1, 0, 0, 0) := rfl
set_option maxRecDepth 20000 in
theorem fL_areCandidatesSound_313 : fetch tL_areCandidatesSound 313 = some (.if_icmp .ne 59, 3, 372, 0, 0, 0) := rfl
set_option maxRecDepth 20000 in
theorem fL_areCandidatesSound_316 : fetch tL_areCandidatesSound 316 = some (.iload_n 2, 1, 2, 0, 0, 0) := rfl
set_option maxRecDepth 20000 in
theorem fL_areCandidatesSound_317 : fetch tL_areCandidatesSound 317 = some (.sipush 1000, 3, 0, 0, 1000, 0) := rfl
set_option maxRecDepth 20000 in
theorem fL_areCandidatesSound_320 : fetch tL_areCandidatesSound 320 = some (.if_icmp .gt 52, 3, 372, 0, 0, 0) := rfl
set_option maxRecDepth 20000 in
theorem fL_areCandidatesSound_323 : fetch tL_areCandidatesSound 323 = some (.iload_n 1, 1, 1, 0, 0, 0) := rfl
set_option maxRecDepth 20000 in
theorem fL_areCandidatesSound_324 : fetch tL_areCandidatesSound 324 = some (.ifCond .ne 10, 3, 334, 0, 0, 0) := rfl
set_option maxRecDepth 20000 in
theorem fL_areCandidatesSound_327 : fetch tL_areCandidatesSound 327 = some (.iload_n 2, 1, 2, 0, 0, 0) := rfl
set_option maxRecDepth 20000 in
theorem fL_areCandidatesSound_328 : fetch tL_areCandidatesSound 328 = some (.ifCond .ne 44, 3, 372, 0, 0, 0) := rfl
set_option maxRecDepth 20000 in
theorem fL_areCandidatesSound_331 : fetch tL_areCandidatesSound 331 = some (.goto 10, 3, 341, 0, 0, 0) := rfl
set_option maxRecDepth 20000 in
theorem fL_areCandidatesSound_334 : fetch tL_areCandidatesSound 334 = some (.iload_n 2, 1, 2, 0, 0, 0) := rfl
set_option maxRecDepth 20000 in
theorem fL_areCandidatesSound_335 : fetch tL_areCandidatesSound 335 = some (.sipush 991, 3, 0, 0, 991, 0) := rfl
set_option maxRecDepth 20000 in
theorem fL_areCandidatesSound_338 : fetch tL_areCandidatesSound 338 = some (.if_icmp .le 34, 3, 372, 0, 0, 0) := rfl
set_option maxRecDepth 20000 in
theorem fL_areCandidatesSound_341 : fetch tL_areCandidatesSound 341 = some (.aload_n 0, 1, 0, 0, 0, 0) := rfl
set_option maxRecDepth 20000 in
theorem fL_areCandidatesSound_342 : fetch tL_areCandidatesSound 342 = some (.iload_n 1, 1, 1, 0, 0, 0) := rfl
set_option maxRecDepth 20000 in
theorem fL_areCandidatesSound_343 : fetch tL_areCandidatesSound 343 = some (.invokevirtual 51, 3, 1, 3, 0, 0) := rfl
set_option maxRecDepth 20000 in
theorem fL_areCandidatesSound_346 : fetch tL_areCandidatesSound 346 = some (.bipush (-2), 2, 0, 0, (-2), 0) := rfl
set_option maxRecDepth 20000 in
theorem fL_areCandidatesSound_348 : fetch tL_areCandidatesSound 348 = some (.if_icmp .ne 24, 3, 372, 0, 0, 0) := rfl
set_option maxRecDepth 20000 in
theorem fL_areCandidatesSound_351 : fetch tL_areCandidatesSound 351 = some (.aload_n 0, 1, 0, 0, 0, 0) := rfl
set_option maxRecDepth 20000 in
theorem fL_areCandidatesSound_352 : fetch tL_areCandidatesSound 352 = some (.invokevirtual 63, 3, 7, 3, 0, 0) := rfl
set_option maxRecDepth 20000 in
theorem fL_areCandidatesSound_355 : fetch tL_areCandidatesSound 355 = some (.iload_n 1, 1, 1, 0, 0, 0) := rfl
set_option maxRecDepth 20000 in
theorem fL_areCandidatesSound_356 : fetch tL_areCandidatesSound 356 = some (.if_icmp .lt 16, 3, 372, 0, 0, 0) := rfl
set_option maxRecDepth 20000 in
theorem fL_areCandidatesSound_359 : fetch tL_areCandidatesSound 359 = some (.aload_n 0, 1, 0, 0, 0, 0) := rfl
set_option maxRecDepth 20000 in
theorem fL_areCandidatesSound_360 : fetch tL_areCandidatesSound 360 = some (.invokevirtual 63, 3, 7, 3, 0, 0) := rfl
set_option maxRecDepth 20000 in
theorem fL_areCandidatesSound_363 : fetch tL_areCandidatesSound 363 = some (.bipush 36, 2, 0, 0, 36, 0) := rfl
set_option maxRecDepth 20000 in
theorem fL_areCandidatesSound_365 : fetch tL_areCandidatesSound 365 = some (.if_icmp .gt 7, 3, 372, 0, 0, 0) := rfl
set_option maxRecDepth 20000 in
theorem fL_areCandidatesSound_368 : fetch tL_areCandidatesSound 368 = some (.iconst 1, 1, 0, 0, 1, 0) := rfl
set_option maxRecDepth 20000 in
theorem fL_areCandidatesSound_369 : fetch tL_areCandidatesSound 369 = some (.goto 4, 3, 373, 0, 0, 0) := rfl
set_option maxRecDepth 20000 in
theorem fL_areCandidatesSound_372 : fetch tL_areCandidatesSound 372 = some (.iconst 0, 1, 0, 0, 0, 0) := rfl
set_option maxRecDepth 20000 in
theorem fL_areCandidatesSound_373 : fetch tL_areCandidatesSound 373 = some (.ireturn, 1, 0, 0, 0, 0) := rfl
def tL_isDivided : List (Nat × TE) := [(0, .aload_n 0, 1, 0, 0, 0, 0), (1, .iload_n 1, 1, 1, 0, 0, 0), (2, .invokevirtual 40, 3, 0, 3, 0, 0), (5, .lstore_n 3, 1, 3, 0, 0, 0), (6, .lconst 0, 1, 0, 0, 0, 0), (7, .lstore 5, 2, 5, 0, 0, 0), (9, .iconst (-1), 1, 0, 0, (-1), 0), (10, .istore 7, 2, 7, 0, 0, 0), (12, .iload 7, 2, 7, 0, 0, 0), (14, .bipush 30, 2, 0, 0, 30, 0), (16, .if_icmp .gt 41, 3, 57, 0, 0, 0), (19, .aload_n 0, 1, 0, 0, 0, 0), (20, .iload_n 2, 1, 2, 0, 0, 0), (21, .iload 7, 2, 7, 0, 0, 0), (23, .invokevirtual 66, 3, 1, 3, 0, 0), (26, .iconst (-1), 1, 0, 0, (-1), 0), (27, .if_icmp .ge 5, 3, 32, 0, 0, 0), (30, .iconst 0, 1, 0, 0, 0, 0), (31, .ireturn, 1, 0, 0, 0, 0), (32, .lload 5, 2, 5, 0, 0, 0), (34, .aload_n 0, 1, 0, 0, 0, 0), (35, .iload_n 1, 1, 1, 0, 0, 0), (36, .invokevirtual 40, 3, 0, 3, 0, 0), (39, .ladd, 1, 0, 0, 0, 0), (40, .lstore 5, 2, 5, 0, 0, 0), (42, .aload_n 0, 1, 0, 0, 0, 0), (43, .invokevirtual 69, 3, 2, 3, 0, 0), (46, .ifCond .ge 5, 3, 51, 0, 0, 0), (49, .iconst 0, 1, 0, 0, 0, 0), (50, .ireturn, 1, 0, 0, 0, 0), (51, .iinc 7 1, 3, 7, 0, 1, 0), (54, .goto (-42), 3, 12, 0, 0, 0), (57, .lload 5, 2, 5, 0, 0, 0), (59, .lload_n 3, 1, 3, 0, 0, 0), (60, .lcmp, 1, 0, 0, 0, 0), (61, .ifCond .ne 7, 3, 68, 0, 0, 0), (64, .iconst 1, 1, 0, 0, 1, 0), (65, .goto 4, 3, 69, 0, 0, 0), (68, .iconst 0, 1, 0, 0, 0, 0), (69, .ireturn, 1, 0, 0, 0, 0)]
theorem tkL_isDivided : tOk cL_isDivided "RumourSourceLaw" 8 tL_isDivided = true := by decide +kernel
theorem fL_isDivided_0 : fetch tL_isDivided 0 = some (.aload_n 0, 1, 0, 0, 0, 0) := rfl
theorem fL_isDivided_1 : fetch tL_isDivided 1 = some (.iload_n 1, 1, 1, 0, 0, 0) := rfl
theorem fL_isDivided_2 : fetch tL_isDivided 2 = some (.invokevirtual 40, 3, 0, 3, 0, 0) := rfl
theorem fL_isDivided_5 : fetch tL_isDivided 5 = some (.lstore_n 3, 1, 3, 0, 0, 0) := rfl
theorem fL_isDivided_6 : fetch tL_isDivided 6 = some (.lconst 0, 1, 0, 0, 0, 0) := rfl
theorem fL_isDivided_7 : fetch tL_isDivided 7 = some (.lstore 5, 2, 5, 0, 0, 0) := rfl
theorem fL_isDivided_9 : fetch tL_isDivided 9 = some (.iconst (-1), 1, 0, 0, (-1), 0) := rfl
theorem fL_isDivided_10 : fetch tL_isDivided 10 = some (.istore 7, 2, 7, 0, 0, 0) := rfl
theorem fL_isDivided_12 : fetch tL_isDivided 12 = some (.iload 7, 2, 7, 0, 0, 0) := rfl
theorem fL_isDivided_14 : fetch tL_isDivided 14 = some (.bipush 30, 2, 0, 0, 30, 0) := rfl
theorem fL_isDivided_16 : fetch tL_isDivided 16 = some (.if_icmp .gt 41, 3, 57, 0, 0, 0) := rfl
theorem fL_isDivided_19 : fetch tL_isDivided 19 = some (.aload_n 0, 1, 0, 0, 0, 0) := rfl
theorem fL_isDivided_20 : fetch tL_isDivided 20 = some (.iload_n 2, 1, 2, 0, 0, 0) := rfl
theorem fL_isDivided_21 : fetch tL_isDivided 21 = some (.iload 7, 2, 7, 0, 0, 0) := rfl
theorem fL_isDivided_23 : fetch tL_isDivided 23 = some (.invokevirtual 66, 3, 1, 3, 0, 0) := rfl
theorem fL_isDivided_26 : fetch tL_isDivided 26 = some (.iconst (-1), 1, 0, 0, (-1), 0) := rfl
theorem fL_isDivided_27 : fetch tL_isDivided 27 = some (.if_icmp .ge 5, 3, 32, 0, 0, 0) := rfl
theorem fL_isDivided_30 : fetch tL_isDivided 30 = some (.iconst 0, 1, 0, 0, 0, 0) := rfl
theorem fL_isDivided_31 : fetch tL_isDivided 31 = some (.ireturn, 1, 0, 0, 0, 0) := rfl
theorem fL_isDivided_32 : fetch tL_isDivided 32 = some (.lload 5, 2, 5, 0, 0, 0) := rfl
theorem fL_isDivided_34 : fetch tL_isDivided 34 = some (.aload_n 0, 1, 0, 0, 0, 0) := rfl
theorem fL_isDivided_35 : fetch tL_isDivided 35 = some (.iload_n 1, 1, 1, 0, 0, 0) := rfl
theorem fL_isDivided_36 : fetch tL_isDivided 36 = some (.invokevirtual 40, 3, 0, 3, 0, 0) := rfl
theorem fL_isDivided_39 : fetch tL_isDivided 39 = some (.ladd, 1, 0, 0, 0, 0) := rfl
theorem fL_isDivided_40 : fetch tL_isDivided 40 = some (.lstore 5, 2, 5, 0, 0, 0) := rfl
theorem fL_isDivided_42 : fetch tL_isDivided 42 = some (.aload_n 0, 1, 0, 0, 0, 0) := rfl
theorem fL_isDivided_43 : fetch tL_isDivided 43 = some (.invokevirtual 69, 3, 2, 3, 0, 0) := rfl
theorem fL_isDivided_46 : fetch tL_isDivided 46 = some (.ifCond .ge 5, 3, 51, 0, 0, 0) := rfl
theorem fL_isDivided_49 : fetch tL_isDivided 49 = some (.iconst 0, 1, 0, 0, 0, 0) := rfl
theorem fL_isDivided_50 : fetch tL_isDivided 50 = some (.ireturn, 1, 0, 0, 0, 0) := rfl
theorem fL_isDivided_51 : fetch tL_isDivided 51 = some (.iinc 7 1, 3, 7, 0, 1, 0) := rfl
theorem fL_isDivided_54 : fetch tL_isDivided 54 = some (.goto (-42), 3, 12, 0, 0, 0) := rfl
theorem fL_isDivided_57 : fetch tL_isDivided 57 = some (.lload 5, 2, 5, 0, 0, 0) := rfl
theorem fL_isDivided_59 : fetch tL_isDivided 59 = some (.lload_n 3, 1, 3, 0, 0, 0) := rfl
theorem fL_isDivided_60 : fetch tL_isDivided 60 = some (.lcmp, 1, 0, 0, 0, 0) := rfl
theorem fL_isDivided_61 : fetch tL_isDivided 61 = some (.ifCond .ne 7, 3, 68, 0, 0, 0) := rfl
theorem fL_isDivided_64 : fetch tL_isDivided 64 = some (.iconst 1, 1, 0, 0, 1, 0) := rfl
theorem fL_isDivided_65 : fetch tL_isDivided 65 = some (.goto 4, 3, 69, 0, 0, 0) := rfl
theorem fL_isDivided_68 : fetch tL_isDivided 68 = some (.iconst 0, 1, 0, 0, 0, 0) := rfl
theorem fL_isDivided_69 : fetch tL_isDivided 69 = some (.ireturn, 1, 0, 0, 0, 0) := rfl
def tL_changes : List (Nat × TE) := [(0, .iload_n 1, 1, 1, 0, 0, 0), (1, .iconst 4, 1, 0, 0, 4, 0), (2, .ishr, 1, 0, 0, 0, 0), (3, .bipush 8, 2, 0, 0, 8, 0), (5, .invokestatic 26, 3, 0, 0, 0, 0), (8, .istore_n 2, 1, 2, 0, 0, 0), (9, .iload_n 1, 1, 1, 0, 0, 0), (10, .bipush 7, 2, 0, 0, 7, 0), (12, .ishr, 1, 0, 0, 0, 0), (13, .bipush 8, 2, 0, 0, 8, 0), (15, .invokestatic 26, 3, 0, 0, 0, 0), (18, .istore_n 3, 1, 3, 0, 0, 0), (19, .iload_n 1, 1, 1, 0, 0, 0), (20, .bipush 10, 2, 0, 0, 10, 0), (22, .invokestatic 26, 3, 0, 0, 0, 0), (25, .tableswitch 177 0 7 #[47, 47, 116, 129, 142, 159, 159, 165], 47, 0, 0, 0, 0), (72, .aload_n 0, 1, 0, 0, 0, 0), (73, .invokevirtual 8, 3, 1, 3, 0, 0), (76, .bipush 6, 2, 0, 0, 6, 0), (78, .if_icmp .ge 31, 3, 109, 0, 0, 0), (81, .aload_n 0, 1, 0, 0, 0, 0), (82, .iload_n 2, 1, 2, 0, 0, 0), (83, .iload_n 3, 1, 3, 0, 0, 0), (84, .iload_n 1, 1, 1, 0, 0, 0), (85, .bipush 10, 2, 0, 0, 10, 0), (87, .ishr, 1, 0, 0, 0, 0), (88, .bipush 11, 2, 0, 0, 11, 0), (90, .invokestatic 26, 3, 0, 0, 0, 0), (93, .iconst 1, 1, 0, 0, 1, 0), (94, .iload_n 1, 1, 1, 0, 0, 0), (95, .bipush 14, 2, 0, 0, 14, 0), (97, .ishr, 1, 0, 0, 0, 0), (98, .iconst 5, 1, 0, 0, 5, 0), (99, .invokestatic 26, 3, 0, 0, 0, 0), (102, .iadd, 1, 0, 0, 0, 0), (103, .invokevirtual 72, 3, 2, 3, 0, 0), (106, .goto 34, 3, 140, 0, 0, 0), (109, .aload_n 0, 1, 0, 0, 0, 0), (110, .iload_n 1, 1, 1, 0, 0, 0), (111, .iconst 4, 1, 0, 0, 4, 0), (112, .ishr, 1, 0, 0, 0, 0), (113, .bipush 8, 2, 0, 0, 8, 0), (115, .invokestatic 26, 3, 0, 0, 0, 0), (118, .iload_n 1, 1, 1, 0, 0, 0), (119, .bipush 10, 2, 0, 0, 10, 0), (121, .ishr, 1, 0, 0, 0, 0), (122, .bipush 11, 2, 0, 0, 11, 0), (124, .invokestatic 26, 3, 0, 0, 0, 0), (127, .iconst 1, 1, 0, 0, 1, 0), (128, .iload_n 1, 1, 1, 0, 0, 0), (129, .bipush 14, 2, 0, 0, 14, 0), (131, .ishr, 1, 0, 0, 0, 0), (132, .iconst 5, 1, 0, 0, 5, 0), (133, .invokestatic 26, 3, 0, 0, 0, 0), (136, .iadd, 1, 0, 0, 0, 0), (137, .invokevirtual 76, 3, 3, 3, 0, 0), (140, .ireturn, 1, 0, 0, 0, 0), (141, .aload_n 0, 1, 0, 0, 0, 0), (142, .iload_n 1, 1, 1, 0, 0, 0), (143, .iconst 4, 1, 0, 0, 4, 0), (144, .ishr, 1, 0, 0, 0, 0), (145, .bipush 8, 2, 0, 0, 8, 0), (147, .invokestatic 26, 3, 0, 0, 0, 0), (150, .invokevirtual 79, 3, 4, 3, 0, 0), (153, .ireturn, 1, 0, 0, 0, 0), (154, .aload_n 0, 1, 0, 0, 0, 0), (155, .iload_n 1, 1, 1, 0, 0, 0), (156, .iconst 4, 1, 0, 0, 4, 0), (157, .ishr, 1, 0, 0, 0, 0), (158, .bipush 18, 2, 0, 0, 18, 0), (160, .invokestatic 26, 3, 0, 0, 0, 0), (163, .invokevirtual 82, 3, 5, 3, 0, 0), (166, .ireturn, 1, 0, 0, 0, 0), (167, .aload_n 0, 1, 0, 0, 0, 0), (168, .iload_n 2, 1, 2, 0, 0, 0), (169, .iload_n 1, 1, 1, 0, 0, 0), (170, .bipush 7, 2, 0, 0, 7, 0), (172, .ishr, 1, 0, 0, 0, 0), (173, .bipush 10, 2, 0, 0, 10, 0), (175, .invokestatic 26, 3, 0, 0, 0, 0), (178, .iconst 1, 1, 0, 0, 1, 0), (179, .isub, 1, 0, 0, 0, 0), (180, .invokevirtual 66, 3, 6, 3, 0, 0), (183, .ireturn, 1, 0, 0, 0, 0), (184, .aload_n 0, 1, 0, 0, 0, 0), (185, .iload_n 2, 1, 2, 0, 0, 0), (186, .invokevirtual 85, 3, 7, 3, 0, 0), (189, .ireturn, 1, 0, 0, 0, 0), (190, .aload_n 0, 1, 0, 0, 0, 0), (191, .iload_n 1, 1, 1, 0, 0, 0), (192, .iconst 4, 1, 0, 0, 4, 0), (193, .ishr, 1, 0, 0, 0, 0), (194, .sipush 255, 3, 0, 0, 255, 0), (197, .iand, 1, 0, 0, 0, 0), (198, .invokevirtual 88, 3, 8, 3, 0, 0), (201, .ireturn, 1, 0, 0, 0, 0), (202, .aload_n 0, 1, 0, 0, 0, 0), (203, .iconst 1, 1, 0, 0, 1, 0), (204, .iload_n 2, 1, 2, 0, 0, 0), (205, .ishl, 1, 0, 0, 0, 0), (206, .iload_n 1, 1, 1, 0, 0, 0), (207, .bipush 20, 2, 0, 0, 20, 0), (209, .ishr, 1, 0, 0, 0, 0), (210, .iconst 3, 1, 0, 0, 3, 0), (211, .iand, 1, 0, 0, 0, 0), (212, .ifCond .ne 9, 3, 221, 0, 0, 0), (215, .iconst 1, 1, 0, 0, 1, 0), (216, .iload_n 3, 1, 3, 0, 0, 0), (217, .ishl, 1, 0, 0, 0, 0), (218, .goto 4, 3, 222, 0, 0, 0), (221, .iconst 0, 1, 0, 0, 0, 0), (222, .ior, 1, 0, 0, 0, 0), (223, .iload_n 1, 1, 1, 0, 0, 0), (224, .invokevirtual 91, 3, 9, 3, 0, 0), (227, .ireturn, 1, 0, 0, 0, 0)]
theorem tkL_changes : tOk cL_changes "RumourSourceLaw" 4 tL_changes = true := by decide +kernel
theorem fL_changes_0 : fetch tL_changes 0 = some (.iload_n 1, 1, 1, 0, 0, 0) := rfl
theorem fL_changes_1 : fetch tL_changes 1 = some (.iconst 4, 1, 0, 0, 4, 0) := rfl
theorem fL_changes_2 : fetch tL_changes 2 = some (.ishr, 1, 0, 0, 0, 0) := rfl
theorem fL_changes_3 : fetch tL_changes 3 = some (.bipush 8, 2, 0, 0, 8, 0) := rfl
theorem fL_changes_5 : fetch tL_changes 5 = some (.invokestatic 26, 3, 0, 0, 0, 0) := rfl
theorem fL_changes_8 : fetch tL_changes 8 = some (.istore_n 2, 1, 2, 0, 0, 0) := rfl
theorem fL_changes_9 : fetch tL_changes 9 = some (.iload_n 1, 1, 1, 0, 0, 0) := rfl
theorem fL_changes_10 : fetch tL_changes 10 = some (.bipush 7, 2, 0, 0, 7, 0) := rfl
theorem fL_changes_12 : fetch tL_changes 12 = some (.ishr, 1, 0, 0, 0, 0) := rfl
theorem fL_changes_13 : fetch tL_changes 13 = some (.bipush 8, 2, 0, 0, 8, 0) := rfl
theorem fL_changes_15 : fetch tL_changes 15 = some (.invokestatic 26, 3, 0, 0, 0, 0) := rfl
theorem fL_changes_18 : fetch tL_changes 18 = some (.istore_n 3, 1, 3, 0, 0, 0) := rfl
theorem fL_changes_19 : fetch tL_changes 19 = some (.iload_n 1, 1, 1, 0, 0, 0) := rfl
theorem fL_changes_20 : fetch tL_changes 20 = some (.bipush 10, 2, 0, 0, 10, 0) := rfl
theorem fL_changes_22 : fetch tL_changes 22 = some (.invokestatic 26, 3, 0, 0, 0, 0) := rfl
theorem fL_changes_25 : fetch tL_changes 25 = some (.tableswitch 177 0 7 #[47, 47, 116, 129, 142, 159, 159, 165], 47, 0, 0, 0, 0) := rfl
theorem fL_changes_72 : fetch tL_changes 72 = some (.aload_n 0, 1, 0, 0, 0, 0) := rfl
theorem fL_changes_73 : fetch tL_changes 73 = some (.invokevirtual 8, 3, 1, 3, 0, 0) := rfl
theorem fL_changes_76 : fetch tL_changes 76 = some (.bipush 6, 2, 0, 0, 6, 0) := rfl
theorem fL_changes_78 : fetch tL_changes 78 = some (.if_icmp .ge 31, 3, 109, 0, 0, 0) := rfl
theorem fL_changes_81 : fetch tL_changes 81 = some (.aload_n 0, 1, 0, 0, 0, 0) := rfl
theorem fL_changes_82 : fetch tL_changes 82 = some (.iload_n 2, 1, 2, 0, 0, 0) := rfl
theorem fL_changes_83 : fetch tL_changes 83 = some (.iload_n 3, 1, 3, 0, 0, 0) := rfl
theorem fL_changes_84 : fetch tL_changes 84 = some (.iload_n 1, 1, 1, 0, 0, 0) := rfl
theorem fL_changes_85 : fetch tL_changes 85 = some (.bipush 10, 2, 0, 0, 10, 0) := rfl
theorem fL_changes_87 : fetch tL_changes 87 = some (.ishr, 1, 0, 0, 0, 0) := rfl
theorem fL_changes_88 : fetch tL_changes 88 = some (.bipush 11, 2, 0, 0, 11, 0) := rfl
theorem fL_changes_90 : fetch tL_changes 90 = some (.invokestatic 26, 3, 0, 0, 0, 0) := rfl
theorem fL_changes_93 : fetch tL_changes 93 = some (.iconst 1, 1, 0, 0, 1, 0) := rfl
theorem fL_changes_94 : fetch tL_changes 94 = some (.iload_n 1, 1, 1, 0, 0, 0) := rfl
theorem fL_changes_95 : fetch tL_changes 95 = some (.bipush 14, 2, 0, 0, 14, 0) := rfl
theorem fL_changes_97 : fetch tL_changes 97 = some (.ishr, 1, 0, 0, 0, 0) := rfl
theorem fL_changes_98 : fetch tL_changes 98 = some (.iconst 5, 1, 0, 0, 5, 0) := rfl
theorem fL_changes_99 : fetch tL_changes 99 = some (.invokestatic 26, 3, 0, 0, 0, 0) := rfl
theorem fL_changes_102 : fetch tL_changes 102 = some (.iadd, 1, 0, 0, 0, 0) := rfl
theorem fL_changes_103 : fetch tL_changes 103 = some (.invokevirtual 72, 3, 2, 3, 0, 0) := rfl
theorem fL_changes_106 : fetch tL_changes 106 = some (.goto 34, 3, 140, 0, 0, 0) := rfl
theorem fL_changes_109 : fetch tL_changes 109 = some (.aload_n 0, 1, 0, 0, 0, 0) := rfl
theorem fL_changes_110 : fetch tL_changes 110 = some (.iload_n 1, 1, 1, 0, 0, 0) := rfl
theorem fL_changes_111 : fetch tL_changes 111 = some (.iconst 4, 1, 0, 0, 4, 0) := rfl
theorem fL_changes_112 : fetch tL_changes 112 = some (.ishr, 1, 0, 0, 0, 0) := rfl
theorem fL_changes_113 : fetch tL_changes 113 = some (.bipush 8, 2, 0, 0, 8, 0) := rfl
theorem fL_changes_115 : fetch tL_changes 115 = some (.invokestatic 26, 3, 0, 0, 0, 0) := rfl
theorem fL_changes_118 : fetch tL_changes 118 = some (.iload_n 1, 1, 1, 0, 0, 0) := rfl
theorem fL_changes_119 : fetch tL_changes 119 = some (.bipush 10, 2, 0, 0, 10, 0) := rfl
theorem fL_changes_121 : fetch tL_changes 121 = some (.ishr, 1, 0, 0, 0, 0) := rfl
theorem fL_changes_122 : fetch tL_changes 122 = some (.bipush 11, 2, 0, 0, 11, 0) := rfl
theorem fL_changes_124 : fetch tL_changes 124 = some (.invokestatic 26, 3, 0, 0, 0, 0) := rfl
theorem fL_changes_127 : fetch tL_changes 127 = some (.iconst 1, 1, 0, 0, 1, 0) := rfl
theorem fL_changes_128 : fetch tL_changes 128 = some (.iload_n 1, 1, 1, 0, 0, 0) := rfl
theorem fL_changes_129 : fetch tL_changes 129 = some (.bipush 14, 2, 0, 0, 14, 0) := rfl
theorem fL_changes_131 : fetch tL_changes 131 = some (.ishr, 1, 0, 0, 0, 0) := rfl
theorem fL_changes_132 : fetch tL_changes 132 = some (.iconst 5, 1, 0, 0, 5, 0) := rfl
theorem fL_changes_133 : fetch tL_changes 133 = some (.invokestatic 26, 3, 0, 0, 0, 0) := rfl
theorem fL_changes_136 : fetch tL_changes 136 = some (.iadd, 1, 0, 0, 0, 0) := rfl
theorem fL_changes_137 : fetch tL_changes 137 = some (.invokevirtual 76, 3, 3, 3, 0, 0) := rfl
theorem fL_changes_140 : fetch tL_changes 140 = some (.ireturn, 1, 0, 0, 0, 0) := rfl
theorem fL_changes_141 : fetch tL_changes 141 = some (.aload_n 0, 1, 0, 0, 0, 0) := rfl
theorem fL_changes_142 : fetch tL_changes 142 = some (.iload_n 1, 1, 1, 0, 0, 0) := rfl
theorem fL_changes_143 : fetch tL_changes 143 = some (.iconst 4, 1, 0, 0, 4, 0) := rfl
theorem fL_changes_144 : fetch tL_changes 144 = some (.ishr, 1, 0, 0, 0, 0) := rfl
theorem fL_changes_145 : fetch tL_changes 145 = some (.bipush 8, 2, 0, 0, 8, 0) := rfl
theorem fL_changes_147 : fetch tL_changes 147 = some (.invokestatic 26, 3, 0, 0, 0, 0) := rfl
theorem fL_changes_150 : fetch tL_changes 150 = some (.invokevirtual 79, 3, 4, 3, 0, 0) := rfl
theorem fL_changes_153 : fetch tL_changes 153 = some (.ireturn, 1, 0, 0, 0, 0) := rfl
theorem fL_changes_154 : fetch tL_changes 154 = some (.aload_n 0, 1, 0, 0, 0, 0) := rfl
theorem fL_changes_155 : fetch tL_changes 155 = some (.iload_n 1, 1, 1, 0, 0, 0) := rfl
theorem fL_changes_156 : fetch tL_changes 156 = some (.iconst 4, 1, 0, 0, 4, 0) := rfl
theorem fL_changes_157 : fetch tL_changes 157 = some (.ishr, 1, 0, 0, 0, 0) := rfl
theorem fL_changes_158 : fetch tL_changes 158 = some (.bipush 18, 2, 0, 0, 18, 0) := rfl
theorem fL_changes_160 : fetch tL_changes 160 = some (.invokestatic 26, 3, 0, 0, 0, 0) := rfl
theorem fL_changes_163 : fetch tL_changes 163 = some (.invokevirtual 82, 3, 5, 3, 0, 0) := rfl
theorem fL_changes_166 : fetch tL_changes 166 = some (.ireturn, 1, 0, 0, 0, 0) := rfl
theorem fL_changes_167 : fetch tL_changes 167 = some (.aload_n 0, 1, 0, 0, 0, 0) := rfl
theorem fL_changes_168 : fetch tL_changes 168 = some (.iload_n 2, 1, 2, 0, 0, 0) := rfl
theorem fL_changes_169 : fetch tL_changes 169 = some (.iload_n 1, 1, 1, 0, 0, 0) := rfl
theorem fL_changes_170 : fetch tL_changes 170 = some (.bipush 7, 2, 0, 0, 7, 0) := rfl
theorem fL_changes_172 : fetch tL_changes 172 = some (.ishr, 1, 0, 0, 0, 0) := rfl
theorem fL_changes_173 : fetch tL_changes 173 = some (.bipush 10, 2, 0, 0, 10, 0) := rfl
theorem fL_changes_175 : fetch tL_changes 175 = some (.invokestatic 26, 3, 0, 0, 0, 0) := rfl
theorem fL_changes_178 : fetch tL_changes 178 = some (.iconst 1, 1, 0, 0, 1, 0) := rfl
theorem fL_changes_179 : fetch tL_changes 179 = some (.isub, 1, 0, 0, 0, 0) := rfl
theorem fL_changes_180 : fetch tL_changes 180 = some (.invokevirtual 66, 3, 6, 3, 0, 0) := rfl
theorem fL_changes_183 : fetch tL_changes 183 = some (.ireturn, 1, 0, 0, 0, 0) := rfl
theorem fL_changes_184 : fetch tL_changes 184 = some (.aload_n 0, 1, 0, 0, 0, 0) := rfl
theorem fL_changes_185 : fetch tL_changes 185 = some (.iload_n 2, 1, 2, 0, 0, 0) := rfl
theorem fL_changes_186 : fetch tL_changes 186 = some (.invokevirtual 85, 3, 7, 3, 0, 0) := rfl
theorem fL_changes_189 : fetch tL_changes 189 = some (.ireturn, 1, 0, 0, 0, 0) := rfl
theorem fL_changes_190 : fetch tL_changes 190 = some (.aload_n 0, 1, 0, 0, 0, 0) := rfl
theorem fL_changes_191 : fetch tL_changes 191 = some (.iload_n 1, 1, 1, 0, 0, 0) := rfl
theorem fL_changes_192 : fetch tL_changes 192 = some (.iconst 4, 1, 0, 0, 4, 0) := rfl
theorem fL_changes_193 : fetch tL_changes 193 = some (.ishr, 1, 0, 0, 0, 0) := rfl
theorem fL_changes_194 : fetch tL_changes 194 = some (.sipush 255, 3, 0, 0, 255, 0) := rfl
theorem fL_changes_197 : fetch tL_changes 197 = some (.iand, 1, 0, 0, 0, 0) := rfl
theorem fL_changes_198 : fetch tL_changes 198 = some (.invokevirtual 88, 3, 8, 3, 0, 0) := rfl
theorem fL_changes_201 : fetch tL_changes 201 = some (.ireturn, 1, 0, 0, 0, 0) := rfl
theorem fL_changes_202 : fetch tL_changes 202 = some (.aload_n 0, 1, 0, 0, 0, 0) := rfl
theorem fL_changes_203 : fetch tL_changes 203 = some (.iconst 1, 1, 0, 0, 1, 0) := rfl
theorem fL_changes_204 : fetch tL_changes 204 = some (.iload_n 2, 1, 2, 0, 0, 0) := rfl
theorem fL_changes_205 : fetch tL_changes 205 = some (.ishl, 1, 0, 0, 0, 0) := rfl
theorem fL_changes_206 : fetch tL_changes 206 = some (.iload_n 1, 1, 1, 0, 0, 0) := rfl
theorem fL_changes_207 : fetch tL_changes 207 = some (.bipush 20, 2, 0, 0, 20, 0) := rfl
theorem fL_changes_209 : fetch tL_changes 209 = some (.ishr, 1, 0, 0, 0, 0) := rfl
theorem fL_changes_210 : fetch tL_changes 210 = some (.iconst 3, 1, 0, 0, 3, 0) := rfl
theorem fL_changes_211 : fetch tL_changes 211 = some (.iand, 1, 0, 0, 0, 0) := rfl
theorem fL_changes_212 : fetch tL_changes 212 = some (.ifCond .ne 9, 3, 221, 0, 0, 0) := rfl
theorem fL_changes_215 : fetch tL_changes 215 = some (.iconst 1, 1, 0, 0, 1, 0) := rfl
theorem fL_changes_216 : fetch tL_changes 216 = some (.iload_n 3, 1, 3, 0, 0, 0) := rfl
theorem fL_changes_217 : fetch tL_changes 217 = some (.ishl, 1, 0, 0, 0, 0) := rfl
theorem fL_changes_218 : fetch tL_changes 218 = some (.goto 4, 3, 222, 0, 0, 0) := rfl
theorem fL_changes_221 : fetch tL_changes 221 = some (.iconst 0, 1, 0, 0, 0, 0) := rfl
theorem fL_changes_222 : fetch tL_changes 222 = some (.ior, 1, 0, 0, 0, 0) := rfl
theorem fL_changes_223 : fetch tL_changes 223 = some (.iload_n 1, 1, 1, 0, 0, 0) := rfl
theorem fL_changes_224 : fetch tL_changes 224 = some (.invokevirtual 91, 3, 9, 3, 0, 0) := rfl
theorem fL_changes_227 : fetch tL_changes 227 = some (.ireturn, 1, 0, 0, 0, 0) := rfl
end TABM
