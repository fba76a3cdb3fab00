section TABS
def tX0_init : List (Nat × TE) := [(0, .aload_n 0, 1, 0, 0, 0, 0), (1, .invokespecial 3, 3, 0, 0, 0, 0), (4, .aload_n 0, 1, 0, 0, 0, 0), (5, .bipush 12, 2, 0, 0, 12, 0), (7, .newarray .int, 2, 0, 0, 0, 0), (9, .putfield 9, 3, 0, 0, 0, 0), (12, .aload_n 0, 1, 0, 0, 0, 0), (13, .bipush 12, 2, 0, 0, 12, 0), (15, .newarray .int, 2, 0, 0, 0, 0), (17, .putfield 15, 3, 0, 1, 0, 0), (20, .aload_n 0, 1, 0, 0, 0, 0), (21, .bipush 12, 2, 0, 0, 12, 0), (23, .newarray .int, 2, 0, 0, 0, 0), (25, .putfield 18, 3, 0, 2, 0, 0), (28, .aload_n 0, 1, 0, 0, 0, 0), (29, .bipush 12, 2, 0, 0, 12, 0), (31, .newarray .int, 2, 0, 0, 0, 0), (33, .putfield 21, 3, 0, 3, 0, 0), (36, .aload_n 0, 1, 0, 0, 0, 0), (37, .iconst 0, 1, 0, 0, 0, 0), (38, .putfield 24, 3, 0, 4, 0, 0), (41, .aload_n 0, 1, 0, 0, 0, 0), (42, .bipush 20, 2, 0, 0, 20, 0), (44, .putfield 28, 3, 0, 5, 0, 0), (47, .aload_n 0, 1, 0, 0, 0, 0), (48, .bipush 8, 2, 0, 0, 8, 0), (50, .newarray .int, 2, 0, 0, 0, 0), (52, .putfield 31, 3, 0, 6, 0, 0), (55, .aload_n 0, 1, 0, 0, 0, 0), (56, .sipush 255, 3, 0, 0, 255, 0), (59, .putfield 34, 3, 0, 7, 0, 0), (62, .iconst 0, 1, 0, 0, 0, 0), (63, .istore_n 1, 1, 1, 0, 0, 0), (64, .iload_n 1, 1, 1, 0, 0, 0), (65, .bipush 8, 2, 0, 0, 8, 0), (67, .if_icmp .ge 17, 3, 84, 0, 0, 0), (70, .aload_n 0, 1, 0, 0, 0, 0), (71, .getfield 31, 3, 0, 6, 0, 0), (74, .iload_n 1, 1, 1, 0, 0, 0), (75, .bipush 100, 2, 0, 0, 100, 0), (77, .iastore, 1, 0, 0, 0, 0), (78, .iinc 1 1, 3, 1, 0, 1, 0), (81, .goto (-17), 3, 64, 0, 0, 0), (84, .return_, 1, 0, 0, 0, 0)]
theorem tkX0_init : tOk cX0_init "RumourSource$Scene" 2 tX0_init = true := by decide +kernel
theorem fX0_init_0 : fetch tX0_init 0 = some (.aload_n 0, 1, 0, 0, 0, 0) := rfl
theorem fX0_init_1 : fetch tX0_init 1 = some (.invokespecial 3, 3, 0, 0, 0, 0) := rfl
theorem fX0_init_4 : fetch tX0_init 4 = some (.aload_n 0, 1, 0, 0, 0, 0) := rfl
theorem fX0_init_5 : fetch tX0_init 5 = some (.bipush 12, 2, 0, 0, 12, 0) := rfl
theorem fX0_init_7 : fetch tX0_init 7 = some (.newarray .int, 2, 0, 0, 0, 0) := rfl
theorem fX0_init_9 : fetch tX0_init 9 = some (.putfield 9, 3, 0, 0, 0, 0) := rfl
theorem fX0_init_12 : fetch tX0_init 12 = some (.aload_n 0, 1, 0, 0, 0, 0) := rfl
theorem fX0_init_13 : fetch tX0_init 13 = some (.bipush 12, 2, 0, 0, 12, 0) := rfl
theorem fX0_init_15 : fetch tX0_init 15 = some (.newarray .int, 2, 0, 0, 0, 0) := rfl
theorem fX0_init_17 : fetch tX0_init 17 = some (.putfield 15, 3, 0, 1, 0, 0) := rfl
theorem fX0_init_20 : fetch tX0_init 20 = some (.aload_n 0, 1, 0, 0, 0, 0) := rfl
theorem fX0_init_21 : fetch tX0_init 21 = some (.bipush 12, 2, 0, 0, 12, 0) := rfl
theorem fX0_init_23 : fetch tX0_init 23 = some (.newarray .int, 2, 0, 0, 0, 0) := rfl
theorem fX0_init_25 : fetch tX0_init 25 = some (.putfield 18, 3, 0, 2, 0, 0) := rfl
theorem fX0_init_28 : fetch tX0_init 28 = some (.aload_n 0, 1, 0, 0, 0, 0) := rfl
theorem fX0_init_29 : fetch tX0_init 29 = some (.bipush 12, 2, 0, 0, 12, 0) := rfl
theorem fX0_init_31 : fetch tX0_init 31 = some (.newarray .int, 2, 0, 0, 0, 0) := rfl
theorem fX0_init_33 : fetch tX0_init 33 = some (.putfield 21, 3, 0, 3, 0, 0) := rfl
theorem fX0_init_36 : fetch tX0_init 36 = some (.aload_n 0, 1, 0, 0, 0, 0) := rfl
theorem fX0_init_37 : fetch tX0_init 37 = some (.iconst 0, 1, 0, 0, 0, 0) := rfl
theorem fX0_init_38 : fetch tX0_init 38 = some (.putfield 24, 3, 0, 4, 0, 0) := rfl
theorem fX0_init_41 : fetch tX0_init 41 = some (.aload_n 0, 1, 0, 0, 0, 0) := rfl
theorem fX0_init_42 : fetch tX0_init 42 = some (.bipush 20, 2, 0, 0, 20, 0) := rfl
theorem fX0_init_44 : fetch tX0_init 44 = some (.putfield 28, 3, 0, 5, 0, 0) := rfl
theorem fX0_init_47 : fetch tX0_init 47 = some (.aload_n 0, 1, 0, 0, 0, 0) := rfl
theorem fX0_init_48 : fetch tX0_init 48 = some (.bipush 8, 2, 0, 0, 8, 0) := rfl
theorem fX0_init_50 : fetch tX0_init 50 = some (.newarray .int, 2, 0, 0, 0, 0) := rfl
theorem fX0_init_52 : fetch tX0_init 52 = some (.putfield 31, 3, 0, 6, 0, 0) := rfl
theorem fX0_init_55 : fetch tX0_init 55 = some (.aload_n 0, 1, 0, 0, 0, 0) := rfl
theorem fX0_init_56 : fetch tX0_init 56 = some (.sipush 255, 3, 0, 0, 255, 0) := rfl
theorem fX0_init_59 : fetch tX0_init 59 = some (.putfield 34, 3, 0, 7, 0, 0) := rfl
theorem fX0_init_62 : fetch tX0_init 62 = some (.iconst 0, 1, 0, 0, 0, 0) := rfl
theorem fX0_init_63 : fetch tX0_init 63 = some (.istore_n 1, 1, 1, 0, 0, 0) := rfl
theorem fX0_init_64 : fetch tX0_init 64 = some (.iload_n 1, 1, 1, 0, 0, 0) := rfl
theorem fX0_init_65 : fetch tX0_init 65 = some (.bipush 8, 2, 0, 0, 8, 0) := rfl
theorem fX0_init_67 : fetch tX0_init 67 = some (.if_icmp .ge 17, 3, 84, 0, 0, 0) := rfl
theorem fX0_init_70 : fetch tX0_init 70 = some (.aload_n 0, 1, 0, 0, 0, 0) := rfl
theorem fX0_init_71 : fetch tX0_init 71 = some (.getfield 31, 3, 0, 6, 0, 0) := rfl
theorem fX0_init_74 : fetch tX0_init 74 = some (.iload_n 1, 1, 1, 0, 0, 0) := rfl
theorem fX0_init_75 : fetch tX0_init 75 = some (.bipush 100, 2, 0, 0, 100, 0) := rfl
theorem fX0_init_77 : fetch tX0_init 77 = some (.iastore, 1, 0, 0, 0, 0) := rfl
theorem fX0_init_78 : fetch tX0_init 78 = some (.iinc 1 1, 3, 1, 0, 1, 0) := rfl
theorem fX0_init_81 : fetch tX0_init 81 = some (.goto (-17), 3, 64, 0, 0, 0) := rfl
theorem fX0_init_84 : fetch tX0_init 84 = some (.return_, 1, 0, 0, 0, 0) := rfl
def tX0_copyFrom : List (Nat × TE) := [(0, .iconst 0, 1, 0, 0, 0, 0), (1, .istore_n 2, 1, 2, 0, 0, 0), (2, .iload_n 2, 1, 2, 0, 0, 0), (3, .bipush 12, 2, 0, 0, 12, 0), (5, .if_icmp .ge 57, 3, 62, 0, 0, 0), (8, .aload_n 0, 1, 0, 0, 0, 0), (9, .getfield 9, 3, 0, 0, 0, 0), (12, .iload_n 2, 1, 2, 0, 0, 0), (13, .aload_n 1, 1, 1, 0, 0, 0), (14, .getfield 9, 3, 0, 0, 0, 0), (17, .iload_n 2, 1, 2, 0, 0, 0), (18, .iaload, 1, 0, 0, 0, 0), (19, .iastore, 1, 0, 0, 0, 0), (20, .aload_n 0, 1, 0, 0, 0, 0), (21, .getfield 15, 3, 0, 1, 0, 0), (24, .iload_n 2, 1, 2, 0, 0, 0), (25, .aload_n 1, 1, 1, 0, 0, 0), (26, .getfield 15, 3, 0, 1, 0, 0), (29, .iload_n 2, 1, 2, 0, 0, 0), (30, .iaload, 1, 0, 0, 0, 0), (31, .iastore, 1, 0, 0, 0, 0), (32, .aload_n 0, 1, 0, 0, 0, 0), (33, .getfield 18, 3, 0, 2, 0, 0), (36, .iload_n 2, 1, 2, 0, 0, 0), (37, .aload_n 1, 1, 1, 0, 0, 0), (38, .getfield 18, 3, 0, 2, 0, 0), (41, .iload_n 2, 1, 2, 0, 0, 0), (42, .iaload, 1, 0, 0, 0, 0), (43, .iastore, 1, 0, 0, 0, 0), (44, .aload_n 0, 1, 0, 0, 0, 0), (45, .getfield 21, 3, 0, 3, 0, 0), (48, .iload_n 2, 1, 2, 0, 0, 0), (49, .aload_n 1, 1, 1, 0, 0, 0), (50, .getfield 21, 3, 0, 3, 0, 0), (53, .iload_n 2, 1, 2, 0, 0, 0), (54, .iaload, 1, 0, 0, 0, 0), (55, .iastore, 1, 0, 0, 0, 0), (56, .iinc 2 1, 3, 2, 0, 1, 0), (59, .goto (-57), 3, 2, 0, 0, 0), (62, .iconst 0, 1, 0, 0, 0, 0), (63, .istore_n 2, 1, 2, 0, 0, 0), (64, .iload_n 2, 1, 2, 0, 0, 0), (65, .bipush 8, 2, 0, 0, 8, 0), (67, .if_icmp .ge 21, 3, 88, 0, 0, 0), (70, .aload_n 0, 1, 0, 0, 0, 0), (71, .getfield 31, 3, 0, 6, 0, 0), (74, .iload_n 2, 1, 2, 0, 0, 0), (75, .aload_n 1, 1, 1, 0, 0, 0), (76, .getfield 31, 3, 0, 6, 0, 0), (79, .iload_n 2, 1, 2, 0, 0, 0), (80, .iaload, 1, 0, 0, 0, 0), (81, .iastore, 1, 0, 0, 0, 0), (82, .iinc 2 1, 3, 2, 0, 1, 0), (85, .goto (-21), 3, 64, 0, 0, 0), (88, .aload_n 0, 1, 0, 0, 0, 0), (89, .aload_n 1, 1, 1, 0, 0, 0), (90, .getfield 24, 3, 0, 4, 0, 0), (93, .putfield 24, 3, 0, 4, 0, 0), (96, .aload_n 0, 1, 0, 0, 0, 0), (97, .aload_n 1, 1, 1, 0, 0, 0), (98, .getfield 28, 3, 0, 5, 0, 0), (101, .putfield 28, 3, 0, 5, 0, 0), (104, .aload_n 0, 1, 0, 0, 0, 0), (105, .aload_n 1, 1, 1, 0, 0, 0), (106, .getfield 34, 3, 0, 7, 0, 0), (109, .putfield 34, 3, 0, 7, 0, 0), (112, .return_, 1, 0, 0, 0, 0)]
theorem tkX0_copyFrom : tOk cX0_copyFrom "RumourSource$Scene" 3 tX0_copyFrom = true := by decide +kernel
theorem fX0_copyFrom_0 : fetch tX0_copyFrom 0 = some (.iconst 0, 1, 0, 0, 0, 0) := rfl
theorem fX0_copyFrom_1 : fetch tX0_copyFrom 1 = some (.istore_n 2, 1, 2, 0, 0, 0) := rfl
theorem fX0_copyFrom_2 : fetch tX0_copyFrom 2 = some (.iload_n 2, 1, 2, 0, 0, 0) := rfl
theorem fX0_copyFrom_3 : fetch tX0_copyFrom 3 = some (.bipush 12, 2, 0, 0, 12, 0) := rfl
theorem fX0_copyFrom_5 : fetch tX0_copyFrom 5 = some (.if_icmp .ge 57, 3, 62, 0, 0, 0) := rfl
theorem fX0_copyFrom_8 : fetch tX0_copyFrom 8 = some (.aload_n 0, 1, 0, 0, 0, 0) := rfl
theorem fX0_copyFrom_9 : fetch tX0_copyFrom 9 = some (.getfield 9, 3, 0, 0, 0, 0) := rfl
theorem fX0_copyFrom_12 : fetch tX0_copyFrom 12 = some (.iload_n 2, 1, 2, 0, 0, 0) := rfl
theorem fX0_copyFrom_13 : fetch tX0_copyFrom 13 = some (.aload_n 1, 1, 1, 0, 0, 0) := rfl
theorem fX0_copyFrom_14 : fetch tX0_copyFrom 14 = some (.getfield 9, 3, 0, 0, 0, 0) := rfl
theorem fX0_copyFrom_17 : fetch tX0_copyFrom 17 = some (.iload_n 2, 1, 2, 0, 0, 0) := rfl
theorem fX0_copyFrom_18 : fetch tX0_copyFrom 18 = some (.iaload, 1, 0, 0, 0, 0) := rfl
theorem fX0_copyFrom_19 : fetch tX0_copyFrom 19 = some (.iastore, 1, 0, 0, 0, 0) := rfl
theorem fX0_copyFrom_20 : fetch tX0_copyFrom 20 = some (.aload_n 0, 1, 0, 0, 0, 0) := rfl
theorem fX0_copyFrom_21 : fetch tX0_copyFrom 21 = some (.getfield 15, 3, 0, 1, 0, 0) := rfl
theorem fX0_copyFrom_24 : fetch tX0_copyFrom 24 = some (.iload_n 2, 1, 2, 0, 0, 0) := rfl
theorem fX0_copyFrom_25 : fetch tX0_copyFrom 25 = some (.aload_n 1, 1, 1, 0, 0, 0) := rfl
theorem fX0_copyFrom_26 : fetch tX0_copyFrom 26 = some (.getfield 15, 3, 0, 1, 0, 0) := rfl
theorem fX0_copyFrom_29 : fetch tX0_copyFrom 29 = some (.iload_n 2, 1, 2, 0, 0, 0) := rfl
theorem fX0_copyFrom_30 : fetch tX0_copyFrom 30 = some (.iaload, 1, 0, 0, 0, 0) := rfl
theorem fX0_copyFrom_31 : fetch tX0_copyFrom 31 = some (.iastore, 1, 0, 0, 0, 0) := rfl
theorem fX0_copyFrom_32 : fetch tX0_copyFrom 32 = some (.aload_n 0, 1, 0, 0, 0, 0) := rfl
theorem fX0_copyFrom_33 : fetch tX0_copyFrom 33 = some (.getfield 18, 3, 0, 2, 0, 0) := rfl
theorem fX0_copyFrom_36 : fetch tX0_copyFrom 36 = some (.iload_n 2, 1, 2, 0, 0, 0) := rfl
theorem fX0_copyFrom_37 : fetch tX0_copyFrom 37 = some (.aload_n 1, 1, 1, 0, 0, 0) := rfl
theorem fX0_copyFrom_38 : fetch tX0_copyFrom 38 = some (.getfield 18, 3, 0, 2, 0, 0) := rfl
theorem fX0_copyFrom_41 : fetch tX0_copyFrom 41 = some (.iload_n 2, 1, 2, 0, 0, 0) := rfl
theorem fX0_copyFrom_42 : fetch tX0_copyFrom 42 = some (.iaload, 1, 0, 0, 0, 0) := rfl
theorem fX0_copyFrom_43 : fetch tX0_copyFrom 43 = some (.iastore, 1, 0, 0, 0, 0) := rfl
theorem fX0_copyFrom_44 : fetch tX0_copyFrom 44 = some (.aload_n 0, 1, 0, 0, 0, 0) := rfl
theorem fX0_copyFrom_45 : fetch tX0_copyFrom 45 = some (.getfield 21, 3, 0, 3, 0, 0) := rfl
theorem fX0_copyFrom_48 : fetch tX0_copyFrom 48 = some (.iload_n 2, 1, 2, 0, 0, 0) := rfl
theorem fX0_copyFrom_49 : fetch tX0_copyFrom 49 = some (.aload_n 1, 1, 1, 0, 0, 0) := rfl
theorem fX0_copyFrom_50 : fetch tX0_copyFrom 50 = some (.getfield 21, 3, 0, 3, 0, 0) := rfl
theorem fX0_copyFrom_53 : fetch tX0_copyFrom 53 = some (.iload_n 2, 1, 2, 0, 0, 0) := rfl
theorem fX0_copyFrom_54 : fetch tX0_copyFrom 54 = some (.iaload, 1, 0, 0, 0, 0) := rfl
theorem fX0_copyFrom_55 : fetch tX0_copyFrom 55 = some (.iastore, 1, 0, 0, 0, 0) := rfl
theorem fX0_copyFrom_56 : fetch tX0_copyFrom 56 = some (.iinc 2 1, 3, 2, 0, 1, 0) := rfl
theorem fX0_copyFrom_59 : fetch tX0_copyFrom 59 = some (.goto (-57), 3, 2, 0, 0, 0) := rfl
theorem fX0_copyFrom_62 : fetch tX0_copyFrom 62 = some (.iconst 0, 1, 0, 0, 0, 0) := rfl
theorem fX0_copyFrom_63 : fetch tX0_copyFrom 63 = some (.istore_n 2, 1, 2, 0, 0, 0) := rfl
theorem fX0_copyFrom_64 : fetch tX0_copyFrom 64 = some (.iload_n 2, 1, 2, 0, 0, 0) := rfl
theorem fX0_copyFrom_65 : fetch tX0_copyFrom 65 = some (.bipush 8, 2, 0, 0, 8, 0) := rfl
theorem fX0_copyFrom_67 : fetch tX0_copyFrom 67 = some (.if_icmp .ge 21, 3, 88, 0, 0, 0) := rfl
theorem fX0_copyFrom_70 : fetch tX0_copyFrom 70 = some (.aload_n 0, 1, 0, 0, 0, 0) := rfl
theorem fX0_copyFrom_71 : fetch tX0_copyFrom 71 = some (.getfield 31, 3, 0, 6, 0, 0) := rfl
theorem fX0_copyFrom_74 : fetch tX0_copyFrom 74 = some (.iload_n 2, 1, 2, 0, 0, 0) := rfl
theorem fX0_copyFrom_75 : fetch tX0_copyFrom 75 = some (.aload_n 1, 1, 1, 0, 0, 0) := rfl
theorem fX0_copyFrom_76 : fetch tX0_copyFrom 76 = some (.getfield 31, 3, 0, 6, 0, 0) := rfl
theorem fX0_copyFrom_79 : fetch tX0_copyFrom 79 = some (.iload_n 2, 1, 2, 0, 0, 0) := rfl
theorem fX0_copyFrom_80 : fetch tX0_copyFrom 80 = some (.iaload, 1, 0, 0, 0, 0) := rfl
theorem fX0_copyFrom_81 : fetch tX0_copyFrom 81 = some (.iastore, 1, 0, 0, 0, 0) := rfl
theorem fX0_copyFrom_82 : fetch tX0_copyFrom 82 = some (.iinc 2 1, 3, 2, 0, 1, 0) := rfl
theorem fX0_copyFrom_85 : fetch tX0_copyFrom 85 = some (.goto (-21), 3, 64, 0, 0, 0) := rfl
theorem fX0_copyFrom_88 : fetch tX0_copyFrom 88 = some (.aload_n 0, 1, 0, 0, 0, 0) := rfl
theorem fX0_copyFrom_89 : fetch tX0_copyFrom 89 = some (.aload_n 1, 1, 1, 0, 0, 0) := rfl
theorem fX0_copyFrom_90 : fetch tX0_copyFrom 90 = some (.getfield 24, 3, 0, 4, 0, 0) := rfl
theorem fX0_copyFrom_93 : fetch tX0_copyFrom 93 = some (.putfield 24, 3, 0, 4, 0, 0) := rfl
theorem fX0_copyFrom_96 : fetch tX0_copyFrom 96 = some (.aload_n 0, 1, 0, 0, 0, 0) := rfl
theorem fX0_copyFrom_97 : fetch tX0_copyFrom 97 = some (.aload_n 1, 1, 1, 0, 0, 0) := rfl
theorem fX0_copyFrom_98 : fetch tX0_copyFrom 98 = some (.getfield 28, 3, 0, 5, 0, 0) := rfl
theorem fX0_copyFrom_101 : fetch tX0_copyFrom 101 = some (.putfield 28, 3, 0, 5, 0, 0) := rfl
theorem fX0_copyFrom_104 : fetch tX0_copyFrom 104 = some (.aload_n 0, 1, 0, 0, 0, 0) := rfl
theorem fX0_copyFrom_105 : fetch tX0_copyFrom 105 = some (.aload_n 1, 1, 1, 0, 0, 0) := rfl
theorem fX0_copyFrom_106 : fetch tX0_copyFrom 106 = some (.getfield 34, 3, 0, 7, 0, 0) := rfl
theorem fX0_copyFrom_109 : fetch tX0_copyFrom 109 = some (.putfield 34, 3, 0, 7, 0, 0) := rfl
theorem fX0_copyFrom_112 : fetch tX0_copyFrom 112 = some (.return_, 1, 0, 0, 0, 0) := rfl
def tX0_hasEdge : List (Nat × TE) := [(0, .iload_n 1, 1, 1, 0, 0, 0), (1, .ifCond .lt 15, 3, 16, 0, 0, 0), (4, .iload_n 1, 1, 1, 0, 0, 0), (5, .aload_n 0, 1, 0, 0, 0, 0), (6, .getfield 24, 3, 0, 4, 0, 0), (9, .if_icmp .ge 7, 3, 16, 0, 0, 0), (12, .iconst 1, 1, 0, 0, 1, 0), (13, .goto 4, 3, 17, 0, 0, 0), (16, .iconst 0, 1, 0, 0, 0, 0), (17, .ireturn, 1, 0, 0, 0, 0)]
theorem tkX0_hasEdge : tOk cX0_hasEdge "RumourSource$Scene" 2 tX0_hasEdge = true := by decide +kernel
theorem fX0_hasEdge_0 : fetch tX0_hasEdge 0 = some (.iload_n 1, 1, 1, 0, 0, 0) := rfl
theorem fX0_hasEdge_1 : fetch tX0_hasEdge 1 = some (.ifCond .lt 15, 3, 16, 0, 0, 0) := rfl
theorem fX0_hasEdge_4 : fetch tX0_hasEdge 4 = some (.iload_n 1, 1, 1, 0, 0, 0) := rfl
theorem fX0_hasEdge_5 : fetch tX0_hasEdge 5 = some (.aload_n 0, 1, 0, 0, 0, 0) := rfl
theorem fX0_hasEdge_6 : fetch tX0_hasEdge 6 = some (.getfield 24, 3, 0, 4, 0, 0) := rfl
theorem fX0_hasEdge_9 : fetch tX0_hasEdge 9 = some (.if_icmp .ge 7, 3, 16, 0, 0, 0) := rfl
theorem fX0_hasEdge_12 : fetch tX0_hasEdge 12 = some (.iconst 1, 1, 0, 0, 1, 0) := rfl
theorem fX0_hasEdge_13 : fetch tX0_hasEdge 13 = some (.goto 4, 3, 17, 0, 0, 0) := rfl
theorem fX0_hasEdge_16 : fetch tX0_hasEdge 16 = some (.iconst 0, 1, 0, 0, 0, 0) := rfl
theorem fX0_hasEdge_17 : fetch tX0_hasEdge 17 = some (.ireturn, 1, 0, 0, 0, 0) := rfl
def tX0_isFull : List (Nat × TE) := [(0, .aload_n 0, 1, 0, 0, 0, 0), (1, .getfield 24, 3, 0, 4, 0, 0), (4, .bipush 12, 2, 0, 0, 12, 0), (6, .if_icmp .lt 7, 3, 13, 0, 0, 0), (9, .iconst 1, 1, 0, 0, 1, 0), (10, .goto 4, 3, 14, 0, 0, 0), (13, .iconst 0, 1, 0, 0, 0, 0), (14, .ireturn, 1, 0, 0, 0, 0)]
theorem tkX0_isFull : tOk cX0_isFull "RumourSource$Scene" 1 tX0_isFull = true := by decide +kernel
theorem fX0_isFull_0 : fetch tX0_isFull 0 = some (.aload_n 0, 1, 0, 0, 0, 0) := rfl
theorem fX0_isFull_1 : fetch tX0_isFull 1 = some (.getfield 24, 3, 0, 4, 0, 0) := rfl
theorem fX0_isFull_4 : fetch tX0_isFull 4 = some (.bipush 12, 2, 0, 0, 12, 0) := rfl
theorem fX0_isFull_6 : fetch tX0_isFull 6 = some (.if_icmp .lt 7, 3, 13, 0, 0, 0) := rfl
theorem fX0_isFull_9 : fetch tX0_isFull 9 = some (.iconst 1, 1, 0, 0, 1, 0) := rfl
theorem fX0_isFull_10 : fetch tX0_isFull 10 = some (.goto 4, 3, 14, 0, 0, 0) := rfl
theorem fX0_isFull_13 : fetch tX0_isFull 13 = some (.iconst 0, 1, 0, 0, 0, 0) := rfl
theorem fX0_isFull_14 : fetch tX0_isFull 14 = some (.ireturn, 1, 0, 0, 0, 0) := rfl
def tX0_find : List (Nat × TE) := [(0, .iconst 0, 1, 0, 0, 0, 0), (1, .istore_n 3, 1, 3, 0, 0, 0), (2, .iload_n 3, 1, 3, 0, 0, 0), (3, .aload_n 0, 1, 0, 0, 0, 0), (4, .getfield 24, 3, 0, 4, 0, 0), (7, .if_icmp .ge 31, 3, 38, 0, 0, 0), (10, .aload_n 0, 1, 0, 0, 0, 0), (11, .getfield 9, 3, 0, 0, 0, 0), (14, .iload_n 3, 1, 3, 0, 0, 0), (15, .iaload, 1, 0, 0, 0, 0), (16, .iload_n 1, 1, 1, 0, 0, 0), (17, .if_icmp .ne 15, 3, 32, 0, 0, 0), (20, .aload_n 0, 1, 0, 0, 0, 0), (21, .getfield 15, 3, 0, 1, 0, 0), (24, .iload_n 3, 1, 3, 0, 0, 0), (25, .iaload, 1, 0, 0, 0, 0), (26, .iload_n 2, 1, 2, 0, 0, 0), (27, .if_icmp .ne 5, 3, 32, 0, 0, 0), (30, .iload_n 3, 1, 3, 0, 0, 0), (31, .ireturn, 1, 0, 0, 0, 0), (32, .iinc 3 1, 3, 3, 0, 1, 0), (35, .goto (-33), 3, 2, 0, 0, 0), (38, .iconst (-1), 1, 0, 0, (-1), 0), (39, .ireturn, 1, 0, 0, 0, 0)]
theorem tkX0_find : tOk cX0_find "RumourSource$Scene" 4 tX0_find = true := by decide +kernel
theorem fX0_find_0 : fetch tX0_find 0 = some (.iconst 0, 1, 0, 0, 0, 0) := rfl
theorem fX0_find_1 : fetch tX0_find 1 = some (.istore_n 3, 1, 3, 0, 0, 0) := rfl
theorem fX0_find_2 : fetch tX0_find 2 = some (.iload_n 3, 1, 3, 0, 0, 0) := rfl
theorem fX0_find_3 : fetch tX0_find 3 = some (.aload_n 0, 1, 0, 0, 0, 0) := rfl
theorem fX0_find_4 : fetch tX0_find 4 = some (.getfield 24, 3, 0, 4, 0, 0) := rfl
theorem fX0_find_7 : fetch tX0_find 7 = some (.if_icmp .ge 31, 3, 38, 0, 0, 0) := rfl
theorem fX0_find_10 : fetch tX0_find 10 = some (.aload_n 0, 1, 0, 0, 0, 0) := rfl
theorem fX0_find_11 : fetch tX0_find 11 = some (.getfield 9, 3, 0, 0, 0, 0) := rfl
theorem fX0_find_14 : fetch tX0_find 14 = some (.iload_n 3, 1, 3, 0, 0, 0) := rfl
theorem fX0_find_15 : fetch tX0_find 15 = some (.iaload, 1, 0, 0, 0, 0) := rfl
theorem fX0_find_16 : fetch tX0_find 16 = some (.iload_n 1, 1, 1, 0, 0, 0) := rfl
theorem fX0_find_17 : fetch tX0_find 17 = some (.if_icmp .ne 15, 3, 32, 0, 0, 0) := rfl
theorem fX0_find_20 : fetch tX0_find 20 = some (.aload_n 0, 1, 0, 0, 0, 0) := rfl
theorem fX0_find_21 : fetch tX0_find 21 = some (.getfield 15, 3, 0, 1, 0, 0) := rfl
theorem fX0_find_24 : fetch tX0_find 24 = some (.iload_n 3, 1, 3, 0, 0, 0) := rfl
theorem fX0_find_25 : fetch tX0_find 25 = some (.iaload, 1, 0, 0, 0, 0) := rfl
theorem fX0_find_26 : fetch tX0_find 26 = some (.iload_n 2, 1, 2, 0, 0, 0) := rfl
theorem fX0_find_27 : fetch tX0_find 27 = some (.if_icmp .ne 5, 3, 32, 0, 0, 0) := rfl
theorem fX0_find_30 : fetch tX0_find 30 = some (.iload_n 3, 1, 3, 0, 0, 0) := rfl
theorem fX0_find_31 : fetch tX0_find 31 = some (.ireturn, 1, 0, 0, 0, 0) := rfl
theorem fX0_find_32 : fetch tX0_find 32 = some (.iinc 3 1, 3, 3, 0, 1, 0) := rfl
theorem fX0_find_35 : fetch tX0_find 35 = some (.goto (-33), 3, 2, 0, 0, 0) := rfl
theorem fX0_find_38 : fetch tX0_find 38 = some (.iconst (-1), 1, 0, 0, (-1), 0) := rfl
theorem fX0_find_39 : fetch tX0_find 39 = some (.ireturn, 1, 0, 0, 0, 0) := rfl
def tX0_put : List (Nat × TE) := [(0, .aload_n 0, 1, 0, 0, 0, 0), (1, .iload_n 1, 1, 1, 0, 0, 0), (2, .iload_n 2, 1, 2, 0, 0, 0), (3, .invokevirtual 37, 3, 0, 0, 0, 0), (6, .istore 5, 2, 5, 0, 0, 0), (8, .iload 5, 2, 5, 0, 0, 0), (10, .iconst (-1), 1, 0, 0, (-1), 0), (11, .if_icmp .ne 58, 3, 69, 0, 0, 0), (14, .aload_n 0, 1, 0, 0, 0, 0), (15, .invokevirtual 41, 3, 1, 0, 0, 0), (18, .ifCond .ne 17, 3, 35, 0, 0, 0), (21, .iload_n 1, 1, 1, 0, 0, 0), (22, .invokestatic 45, 3, 2, 3, 0, 0), (25, .ifCond .eq 10, 3, 35, 0, 0, 0), (28, .iload_n 2, 1, 2, 0, 0, 0), (29, .invokestatic 45, 3, 2, 3, 0, 0), (32, .ifCond .ne 5, 3, 37, 0, 0, 0), (35, .iconst (-1), 1, 0, 0, (-1), 0), (36, .ireturn, 1, 0, 0, 0, 0), (37, .aload_n 0, 1, 0, 0, 0, 0), (38, .getfield 24, 3, 0, 4, 0, 0), (41, .istore 5, 2, 5, 0, 0, 0), (43, .aload_n 0, 1, 0, 0, 0, 0), (44, .getfield 9, 3, 0, 0, 0, 0), (47, .iload 5, 2, 5, 0, 0, 0), (49, .iload_n 1, 1, 1, 0, 0, 0), (50, .iastore, 1, 0, 0, 0, 0), (51, .aload_n 0, 1, 0, 0, 0, 0), (52, .getfield 15, 3, 0, 1, 0, 0), (55, .iload 5, 2, 5, 0, 0, 0), (57, .iload_n 2, 1, 2, 0, 0, 0), (58, .iastore, 1, 0, 0, 0, 0), (59, .aload_n 0, 1, 0, 0, 0, 0), (60, .dup, 1, 0, 0, 0, 0), (61, .getfield 24, 3, 0, 4, 0, 0), (64, .iconst 1, 1, 0, 0, 1, 0), (65, .iadd, 1, 0, 0, 0, 0), (66, .putfield 24, 3, 0, 4, 0, 0), (69, .aload_n 0, 1, 0, 0, 0, 0), (70, .getfield 18, 3, 0, 2, 0, 0), (73, .iload 5, 2, 5, 0, 0, 0), (75, .iload_n 3, 1, 3, 0, 0, 0), (76, .iastore, 1, 0, 0, 0, 0), (77, .aload_n 0, 1, 0, 0, 0, 0), (78, .getfield 21, 3, 0, 3, 0, 0), (81, .iload 5, 2, 5, 0, 0, 0), (83, .iload 4, 2, 4, 0, 0, 0), (85, .iastore, 1, 0, 0, 0, 0), (86, .iload 5, 2, 5, 0, 0, 0), (88, .ireturn, 1, 0, 0, 0, 0)]
theorem tkX0_put : tOk cX0_put "RumourSource$Scene" 6 tX0_put = true := by decide +kernel
theorem fX0_put_0 : fetch tX0_put 0 = some (.aload_n 0, 1, 0, 0, 0, 0) := rfl
theorem fX0_put_1 : fetch tX0_put 1 = some (.iload_n 1, 1, 1, 0, 0, 0) := rfl
theorem fX0_put_2 : fetch tX0_put 2 = some (.iload_n 2, 1, 2, 0, 0, 0) := rfl
theorem fX0_put_3 : fetch tX0_put 3 = some (.invokevirtual 37, 3, 0, 0, 0, 0) := rfl
theorem fX0_put_6 : fetch tX0_put 6 = some (.istore 5, 2, 5, 0, 0, 0) := rfl
theorem fX0_put_8 : fetch tX0_put 8 = some (.iload 5, 2, 5, 0, 0, 0) := rfl
theorem fX0_put_10 : fetch tX0_put 10 = some (.iconst (-1), 1, 0, 0, (-1), 0) := rfl
theorem fX0_put_11 : fetch tX0_put 11 = some (.if_icmp .ne 58, 3, 69, 0, 0, 0) := rfl
theorem fX0_put_14 : fetch tX0_put 14 = some (.aload_n 0, 1, 0, 0, 0, 0) := rfl
theorem fX0_put_15 : fetch tX0_put 15 = some (.invokevirtual 41, 3, 1, 0, 0, 0) := rfl
theorem fX0_put_18 : fetch tX0_put 18 = some (.ifCond .ne 17, 3, 35, 0, 0, 0) := rfl
theorem fX0_put_21 : fetch tX0_put 21 = some (.iload_n 1, 1, 1, 0, 0, 0) := rfl
theorem fX0_put_22 : fetch tX0_put 22 = some (.invokestatic 45, 3, 2, 3, 0, 0) := rfl
theorem fX0_put_25 : fetch tX0_put 25 = some (.ifCond .eq 10, 3, 35, 0, 0, 0) := rfl
theorem fX0_put_28 : fetch tX0_put 28 = some (.iload_n 2, 1, 2, 0, 0, 0) := rfl
theorem fX0_put_29 : fetch tX0_put 29 = some (.invokestatic 45, 3, 2, 3, 0, 0) := rfl
theorem fX0_put_32 : fetch tX0_put 32 = some (.ifCond .ne 5, 3, 37, 0, 0, 0) := rfl
theorem fX0_put_35 : fetch tX0_put 35 = some (.iconst (-1), 1, 0, 0, (-1), 0) := rfl
theorem fX0_put_36 : fetch tX0_put 36 = some (.ireturn, 1, 0, 0, 0, 0) := rfl
theorem fX0_put_37 : fetch tX0_put 37 = some (.aload_n 0, 1, 0, 0, 0, 0) := rfl
theorem fX0_put_38 : fetch tX0_put 38 = some (.getfield 24, 3, 0, 4, 0, 0) := rfl
theorem fX0_put_41 : fetch tX0_put 41 = some (.istore 5, 2, 5, 0, 0, 0) := rfl
theorem fX0_put_43 : fetch tX0_put 43 = some (.aload_n 0, 1, 0, 0, 0, 0) := rfl
theorem fX0_put_44 : fetch tX0_put 44 = some (.getfield 9, 3, 0, 0, 0, 0) := rfl
theorem fX0_put_47 : fetch tX0_put 47 = some (.iload 5, 2, 5, 0, 0, 0) := rfl
theorem fX0_put_49 : fetch tX0_put 49 = some (.iload_n 1, 1, 1, 0, 0, 0) := rfl
theorem fX0_put_50 : fetch tX0_put 50 = some (.iastore, 1, 0, 0, 0, 0) := rfl
theorem fX0_put_51 : fetch tX0_put 51 = some (.aload_n 0, 1, 0, 0, 0, 0) := rfl
theorem fX0_put_52 : fetch tX0_put 52 = some (.getfield 15, 3, 0, 1, 0, 0) := rfl
theorem fX0_put_55 : fetch tX0_put 55 = some (.iload 5, 2, 5, 0, 0, 0) := rfl
theorem fX0_put_57 : fetch tX0_put 57 = some (.iload_n 2, 1, 2, 0, 0, 0) := rfl
theorem fX0_put_58 : fetch tX0_put 58 = some (.iastore, 1, 0, 0, 0, 0) := rfl
theorem fX0_put_59 : fetch tX0_put 59 = some (.aload_n 0, 1, 0, 0, 0, 0) := rfl
theorem fX0_put_60 : fetch tX0_put 60 = some (.dup, 1, 0, 0, 0, 0) := rfl
theorem fX0_put_61 : fetch tX0_put 61 = some (.getfield 24, 3, 0, 4, 0, 0) := rfl
theorem fX0_put_64 : fetch tX0_put 64 = some (.iconst 1, 1, 0, 0, 1, 0) := rfl
theorem fX0_put_65 : fetch tX0_put 65 = some (.iadd, 1, 0, 0, 0, 0) := rfl
theorem fX0_put_66 : fetch tX0_put 66 = some (.putfield 24, 3, 0, 4, 0, 0) := rfl
theorem fX0_put_69 : fetch tX0_put 69 = some (.aload_n 0, 1, 0, 0, 0, 0) := rfl
theorem fX0_put_70 : fetch tX0_put 70 = some (.getfield 18, 3, 0, 2, 0, 0) := rfl
theorem fX0_put_73 : fetch tX0_put 73 = some (.iload 5, 2, 5, 0, 0, 0) := rfl
theorem fX0_put_75 : fetch tX0_put 75 = some (.iload_n 3, 1, 3, 0, 0, 0) := rfl
theorem fX0_put_76 : fetch tX0_put 76 = some (.iastore, 1, 0, 0, 0, 0) := rfl
theorem fX0_put_77 : fetch tX0_put 77 = some (.aload_n 0, 1, 0, 0, 0, 0) := rfl
theorem fX0_put_78 : fetch tX0_put 78 = some (.getfield 21, 3, 0, 3, 0, 0) := rfl
theorem fX0_put_81 : fetch tX0_put 81 = some (.iload 5, 2, 5, 0, 0, 0) := rfl
theorem fX0_put_83 : fetch tX0_put 83 = some (.iload 4, 2, 4, 0, 0, 0) := rfl
theorem fX0_put_85 : fetch tX0_put 85 = some (.iastore, 1, 0, 0, 0, 0) := rfl
theorem fX0_put_86 : fetch tX0_put 86 = some (.iload 5, 2, 5, 0, 0, 0) := rfl
theorem fX0_put_88 : fetch tX0_put 88 = some (.ireturn, 1, 0, 0, 0, 0) := rfl
def tX0_drop : List (Nat × TE) := [(0, .aload_n 0, 1, 0, 0, 0, 0), (1, .iload_n 1, 1, 1, 0, 0, 0), (2, .invokevirtual 49, 3, 0, 0, 0, 0), (5, .ifCond .ne 4, 3, 9, 0, 0, 0), (8, .return_, 1, 0, 0, 0, 0), (9, .aload_n 0, 1, 0, 0, 0, 0), (10, .dup, 1, 0, 0, 0, 0), (11, .getfield 24, 3, 0, 4, 0, 0), (14, .iconst 1, 1, 0, 0, 1, 0), (15, .isub, 1, 0, 0, 0, 0), (16, .putfield 24, 3, 0, 4, 0, 0), (19, .iload_n 1, 1, 1, 0, 0, 0), (20, .istore_n 2, 1, 2, 0, 0, 0), (21, .iload_n 2, 1, 2, 0, 0, 0), (22, .aload_n 0, 1, 0, 0, 0, 0), (23, .getfield 24, 3, 0, 4, 0, 0), (26, .if_icmp .ge 65, 3, 91, 0, 0, 0), (29, .aload_n 0, 1, 0, 0, 0, 0), (30, .getfield 9, 3, 0, 0, 0, 0), (33, .iload_n 2, 1, 2, 0, 0, 0), (34, .aload_n 0, 1, 0, 0, 0, 0), (35, .getfield 9, 3, 0, 0, 0, 0), (38, .iload_n 2, 1, 2, 0, 0, 0), (39, .iconst 1, 1, 0, 0, 1, 0), (40, .iadd, 1, 0, 0, 0, 0), (41, .iaload, 1, 0, 0, 0, 0), (42, .iastore, 1, 0, 0, 0, 0), (43, .aload_n 0, 1, 0, 0, 0, 0), (44, .getfield 15, 3, 0, 1, 0, 0), (47, .iload_n 2, 1, 2, 0, 0, 0), (48, .aload_n 0, 1, 0, 0, 0, 0), (49, .getfield 15, 3, 0, 1, 0, 0), (52, .iload_n 2, 1, 2, 0, 0, 0), (53, .iconst 1, 1, 0, 0, 1, 0), (54, .iadd, 1, 0, 0, 0, 0), (55, .iaload, 1, 0, 0, 0, 0), (56, .iastore, 1, 0, 0, 0, 0), (57, .aload_n 0, 1, 0, 0, 0, 0), (58, .getfield 18, 3, 0, 2, 0, 0), (61, .iload_n 2, 1, 2, 0, 0, 0), (62, .aload_n 0, 1, 0, 0, 0, 0), (63, .getfield 18, 3, 0, 2, 0, 0), (66, .iload_n 2, 1, 2, 0, 0, 0), (67, .iconst 1, 1, 0, 0, 1, 0), (68, .iadd, 1, 0, 0, 0, 0), (69, .iaload, 1, 0, 0, 0, 0), (70, .iastore, 1, 0, 0, 0, 0), (71, .aload_n 0, 1, 0, 0, 0, 0), (72, .getfield 21, 3, 0, 3, 0, 0), (75, .iload_n 2, 1, 2, 0, 0, 0), (76, .aload_n 0, 1, 0, 0, 0, 0), (77, .getfield 21, 3, 0, 3, 0, 0), (80, .iload_n 2, 1, 2, 0, 0, 0), (81, .iconst 1, 1, 0, 0, 1, 0), (82, .iadd, 1, 0, 0, 0, 0), (83, .iaload, 1, 0, 0, 0, 0), (84, .iastore, 1, 0, 0, 0, 0), (85, .iinc 2 1, 3, 2, 0, 1, 0), (88, .goto (-67), 3, 21, 0, 0, 0), (91, .return_, 1, 0, 0, 0, 0)]
theorem tkX0_drop : tOk cX0_drop "RumourSource$Scene" 3 tX0_drop = true := by decide +kernel
theorem fX0_drop_0 : fetch tX0_drop 0 = some (.aload_n 0, 1, 0, 0, 0, 0) := rfl
theorem fX0_drop_1 : fetch tX0_drop 1 = some (.iload_n 1, 1, 1, 0, 0, 0) := rfl
theorem fX0_drop_2 : fetch tX0_drop 2 = some (.invokevirtual 49, 3, 0, 0, 0, 0) := rfl
theorem fX0_drop_5 : fetch tX0_drop 5 = some (.ifCond .ne 4, 3, 9, 0, 0, 0) := rfl
theorem fX0_drop_8 : fetch tX0_drop 8 = some (.return_, 1, 0, 0, 0, 0) := rfl
theorem fX0_drop_9 : fetch tX0_drop 9 = some (.aload_n 0, 1, 0, 0, 0, 0) := rfl
theorem fX0_drop_10 : fetch tX0_drop 10 = some (.dup, 1, 0, 0, 0, 0) := rfl
theorem fX0_drop_11 : fetch tX0_drop 11 = some (.getfield 24, 3, 0, 4, 0, 0) := rfl
theorem fX0_drop_14 : fetch tX0_drop 14 = some (.iconst 1, 1, 0, 0, 1, 0) := rfl
theorem fX0_drop_15 : fetch tX0_drop 15 = some (.isub, 1, 0, 0, 0, 0) := rfl
theorem fX0_drop_16 : fetch tX0_drop 16 = some (.putfield 24, 3, 0, 4, 0, 0) := rfl
theorem fX0_drop_19 : fetch tX0_drop 19 = some (.iload_n 1, 1, 1, 0, 0, 0) := rfl
theorem fX0_drop_20 : fetch tX0_drop 20 = some (.istore_n 2, 1, 2, 0, 0, 0) := rfl
theorem fX0_drop_21 : fetch tX0_drop 21 = some (.iload_n 2, 1, 2, 0, 0, 0) := rfl
theorem fX0_drop_22 : fetch tX0_drop 22 = some (.aload_n 0, 1, 0, 0, 0, 0) := rfl
theorem fX0_drop_23 : fetch tX0_drop 23 = some (.getfield 24, 3, 0, 4, 0, 0) := rfl
theorem fX0_drop_26 : fetch tX0_drop 26 = some (.if_icmp .ge 65, 3, 91, 0, 0, 0) := rfl
theorem fX0_drop_29 : fetch tX0_drop 29 = some (.aload_n 0, 1, 0, 0, 0, 0) := rfl
theorem fX0_drop_30 : fetch tX0_drop 30 = some (.getfield 9, 3, 0, 0, 0, 0) := rfl
theorem fX0_drop_33 : fetch tX0_drop 33 = some (.iload_n 2, 1, 2, 0, 0, 0) := rfl
theorem fX0_drop_34 : fetch tX0_drop 34 = some (.aload_n 0, 1, 0, 0, 0, 0) := rfl
theorem fX0_drop_35 : fetch tX0_drop 35 = some (.getfield 9, 3, 0, 0, 0, 0) := rfl
theorem fX0_drop_38 : fetch tX0_drop 38 = some (.iload_n 2, 1, 2, 0, 0, 0) := rfl
theorem fX0_drop_39 : fetch tX0_drop 39 = some (.iconst 1, 1, 0, 0, 1, 0) := rfl
theorem fX0_drop_40 : fetch tX0_drop 40 = some (.iadd, 1, 0, 0, 0, 0) := rfl
theorem fX0_drop_41 : fetch tX0_drop 41 = some (.iaload, 1, 0, 0, 0, 0) := rfl
theorem fX0_drop_42 : fetch tX0_drop 42 = some (.iastore, 1, 0, 0, 0, 0) := rfl
theorem fX0_drop_43 : fetch tX0_drop 43 = some (.aload_n 0, 1, 0, 0, 0, 0) := rfl
theorem fX0_drop_44 : fetch tX0_drop 44 = some (.getfield 15, 3, 0, 1, 0, 0) := rfl
theorem fX0_drop_47 : fetch tX0_drop 47 = some (.iload_n 2, 1, 2, 0, 0, 0) := rfl
theorem fX0_drop_48 : fetch tX0_drop 48 = some (.aload_n 0, 1, 0, 0, 0, 0) := rfl
theorem fX0_drop_49 : fetch tX0_drop 49 = some (.getfield 15, 3, 0, 1, 0, 0) := rfl
theorem fX0_drop_52 : fetch tX0_drop 52 = some (.iload_n 2, 1, 2, 0, 0, 0) := rfl
theorem fX0_drop_53 : fetch tX0_drop 53 = some (.iconst 1, 1, 0, 0, 1, 0) := rfl
theorem fX0_drop_54 : fetch tX0_drop 54 = some (.iadd, 1, 0, 0, 0, 0) := rfl
theorem fX0_drop_55 : fetch tX0_drop 55 = some (.iaload, 1, 0, 0, 0, 0) := rfl
theorem fX0_drop_56 : fetch tX0_drop 56 = some (.iastore, 1, 0, 0, 0, 0) := rfl
theorem fX0_drop_57 : fetch tX0_drop 57 = some (.aload_n 0, 1, 0, 0, 0, 0) := rfl
theorem fX0_drop_58 : fetch tX0_drop 58 = some (.getfield 18, 3, 0, 2, 0, 0) := rfl
theorem fX0_drop_61 : fetch tX0_drop 61 = some (.iload_n 2, 1, 2, 0, 0, 0) := rfl
theorem fX0_drop_62 : fetch tX0_drop 62 = some (.aload_n 0, 1, 0, 0, 0, 0) := rfl
theorem fX0_drop_63 : fetch tX0_drop 63 = some (.getfield 18, 3, 0, 2, 0, 0) := rfl
theorem fX0_drop_66 : fetch tX0_drop 66 = some (.iload_n 2, 1, 2, 0, 0, 0) := rfl
theorem fX0_drop_67 : fetch tX0_drop 67 = some (.iconst 1, 1, 0, 0, 1, 0) := rfl
theorem fX0_drop_68 : fetch tX0_drop 68 = some (.iadd, 1, 0, 0, 0, 0) := rfl
theorem fX0_drop_69 : fetch tX0_drop 69 = some (.iaload, 1, 0, 0, 0, 0) := rfl
theorem fX0_drop_70 : fetch tX0_drop 70 = some (.iastore, 1, 0, 0, 0, 0) := rfl
theorem fX0_drop_71 : fetch tX0_drop 71 = some (.aload_n 0, 1, 0, 0, 0, 0) := rfl
theorem fX0_drop_72 : fetch tX0_drop 72 = some (.getfield 21, 3, 0, 3, 0, 0) := rfl
theorem fX0_drop_75 : fetch tX0_drop 75 = some (.iload_n 2, 1, 2, 0, 0, 0) := rfl
theorem fX0_drop_76 : fetch tX0_drop 76 = some (.aload_n 0, 1, 0, 0, 0, 0) := rfl
theorem fX0_drop_77 : fetch tX0_drop 77 = some (.getfield 21, 3, 0, 3, 0, 0) := rfl
theorem fX0_drop_80 : fetch tX0_drop 80 = some (.iload_n 2, 1, 2, 0, 0, 0) := rfl
theorem fX0_drop_81 : fetch tX0_drop 81 = some (.iconst 1, 1, 0, 0, 1, 0) := rfl
theorem fX0_drop_82 : fetch tX0_drop 82 = some (.iadd, 1, 0, 0, 0, 0) := rfl
theorem fX0_drop_83 : fetch tX0_drop 83 = some (.iaload, 1, 0, 0, 0, 0) := rfl
theorem fX0_drop_84 : fetch tX0_drop 84 = some (.iastore, 1, 0, 0, 0, 0) := rfl
theorem fX0_drop_85 : fetch tX0_drop 85 = some (.iinc 2 1, 3, 2, 0, 1, 0) := rfl
theorem fX0_drop_88 : fetch tX0_drop 88 = some (.goto (-67), 3, 21, 0, 0, 0) := rfl
theorem fX0_drop_91 : fetch tX0_drop 91 = some (.return_, 1, 0, 0, 0, 0) := rfl
def tX1_init : List (Nat × TE) := [(0, .aload_n 0, 1, 0, 0, 0, 0), (1, .invokespecial 3, 3, 0, 0, 0, 0), (4, .aload_n 0, 1, 0, 0, 0, 0), (5, .bipush 8, 2, 0, 0, 8, 0), (7, .newarray .int, 2, 0, 0, 0, 0), (9, .putfield 9, 3, 1, 0, 0, 0), (12, .aload_n 0, 1, 0, 0, 0, 0), (13, .bipush 8, 2, 0, 0, 8, 0), (15, .newarray .int, 2, 0, 0, 0, 0), (17, .putfield 15, 3, 1, 1, 0, 0), (20, .aload_n 0, 1, 0, 0, 0, 0), (21, .lconst 0, 1, 0, 0, 0, 0), (22, .putfield 18, 3, 1, 2, 0, 0), (25, .aload_n 0, 1, 0, 0, 0, 0), (26, .lconst 0, 1, 0, 0, 0, 0), (27, .putfield 22, 3, 1, 3, 0, 0), (30, .aload_n 0, 1, 0, 0, 0, 0), (31, .lconst 0, 1, 0, 0, 0, 0), (32, .putfield 25, 3, 1, 4, 0, 0), (35, .aload_n 0, 1, 0, 0, 0, 0), (36, .iconst (-1), 1, 0, 0, (-1), 0), (37, .putfield 28, 3, 1, 5, 0, 0), (40, .aload_n 0, 1, 0, 0, 0, 0), (41, .bipush 8, 2, 0, 0, 8, 0), (43, .newarray .long, 2, 0, 0, 0, 0), (45, .putfield 32, 3, 1, 6, 0, 0), (48, .aload_n 0, 1, 0, 0, 0, 0), (49, .iconst 0, 1, 0, 0, 0, 0), (50, .putfield 36, 3, 1, 7, 0, 0), (53, .return_, 1, 0, 0, 0, 0)]
theorem tkX1_init : tOk cX1_init "RumourSource$Spread" 1 tX1_init = true := by decide +kernel
theorem fX1_init_0 : fetch tX1_init 0 = some (.aload_n 0, 1, 0, 0, 0, 0) := rfl
theorem fX1_init_1 : fetch tX1_init 1 = some (.invokespecial 3, 3, 0, 0, 0, 0) := rfl
theorem fX1_init_4 : fetch tX1_init 4 = some (.aload_n 0, 1, 0, 0, 0, 0) := rfl
theorem fX1_init_5 : fetch tX1_init 5 = some (.bipush 8, 2, 0, 0, 8, 0) := rfl
theorem fX1_init_7 : fetch tX1_init 7 = some (.newarray .int, 2, 0, 0, 0, 0) := rfl
theorem fX1_init_9 : fetch tX1_init 9 = some (.putfield 9, 3, 1, 0, 0, 0) := rfl
theorem fX1_init_12 : fetch tX1_init 12 = some (.aload_n 0, 1, 0, 0, 0, 0) := rfl
theorem fX1_init_13 : fetch tX1_init 13 = some (.bipush 8, 2, 0, 0, 8, 0) := rfl
theorem fX1_init_15 : fetch tX1_init 15 = some (.newarray .int, 2, 0, 0, 0, 0) := rfl
theorem fX1_init_17 : fetch tX1_init 17 = some (.putfield 15, 3, 1, 1, 0, 0) := rfl
theorem fX1_init_20 : fetch tX1_init 20 = some (.aload_n 0, 1, 0, 0, 0, 0) := rfl
theorem fX1_init_21 : fetch tX1_init 21 = some (.lconst 0, 1, 0, 0, 0, 0) := rfl
theorem fX1_init_22 : fetch tX1_init 22 = some (.putfield 18, 3, 1, 2, 0, 0) := rfl
theorem fX1_init_25 : fetch tX1_init 25 = some (.aload_n 0, 1, 0, 0, 0, 0) := rfl
theorem fX1_init_26 : fetch tX1_init 26 = some (.lconst 0, 1, 0, 0, 0, 0) := rfl
theorem fX1_init_27 : fetch tX1_init 27 = some (.putfield 22, 3, 1, 3, 0, 0) := rfl
theorem fX1_init_30 : fetch tX1_init 30 = some (.aload_n 0, 1, 0, 0, 0, 0) := rfl
theorem fX1_init_31 : fetch tX1_init 31 = some (.lconst 0, 1, 0, 0, 0, 0) := rfl
theorem fX1_init_32 : fetch tX1_init 32 = some (.putfield 25, 3, 1, 4, 0, 0) := rfl
theorem fX1_init_35 : fetch tX1_init 35 = some (.aload_n 0, 1, 0, 0, 0, 0) := rfl
theorem fX1_init_36 : fetch tX1_init 36 = some (.iconst (-1), 1, 0, 0, (-1), 0) := rfl
theorem fX1_init_37 : fetch tX1_init 37 = some (.putfield 28, 3, 1, 5, 0, 0) := rfl
theorem fX1_init_40 : fetch tX1_init 40 = some (.aload_n 0, 1, 0, 0, 0, 0) := rfl
theorem fX1_init_41 : fetch tX1_init 41 = some (.bipush 8, 2, 0, 0, 8, 0) := rfl
theorem fX1_init_43 : fetch tX1_init 43 = some (.newarray .long, 2, 0, 0, 0, 0) := rfl
theorem fX1_init_45 : fetch tX1_init 45 = some (.putfield 32, 3, 1, 6, 0, 0) := rfl
theorem fX1_init_48 : fetch tX1_init 48 = some (.aload_n 0, 1, 0, 0, 0, 0) := rfl
theorem fX1_init_49 : fetch tX1_init 49 = some (.iconst 0, 1, 0, 0, 0, 0) := rfl
theorem fX1_init_50 : fetch tX1_init 50 = some (.putfield 36, 3, 1, 7, 0, 0) := rfl
theorem fX1_init_53 : fetch tX1_init 53 = some (.return_, 1, 0, 0, 0, 0) := rfl
def tX1_wantNothing : List (Nat × TE) := [(0, .iconst 0, 1, 0, 0, 0, 0), (1, .istore_n 1, 1, 1, 0, 0, 0), (2, .iload_n 1, 1, 1, 0, 0, 0), (3, .bipush 8, 2, 0, 0, 8, 0), (5, .if_icmp .ge 17, 3, 22, 0, 0, 0), (8, .aload_n 0, 1, 0, 0, 0, 0), (9, .getfield 15, 3, 1, 1, 0, 0), (12, .iload_n 1, 1, 1, 0, 0, 0), (13, .bipush 100, 2, 0, 0, 100, 0), (15, .iastore, 1, 0, 0, 0, 0), (16, .iinc 1 1, 3, 1, 0, 1, 0), (19, .goto (-17), 3, 2, 0, 0, 0), (22, .return_, 1, 0, 0, 0, 0)]
theorem tkX1_wantNothing : tOk cX1_wantNothing "RumourSource$Spread" 2 tX1_wantNothing = true := by decide +kernel
theorem fX1_wantNothing_0 : fetch tX1_wantNothing 0 = some (.iconst 0, 1, 0, 0, 0, 0) := rfl
theorem fX1_wantNothing_1 : fetch tX1_wantNothing 1 = some (.istore_n 1, 1, 1, 0, 0, 0) := rfl
theorem fX1_wantNothing_2 : fetch tX1_wantNothing 2 = some (.iload_n 1, 1, 1, 0, 0, 0) := rfl
theorem fX1_wantNothing_3 : fetch tX1_wantNothing 3 = some (.bipush 8, 2, 0, 0, 8, 0) := rfl
theorem fX1_wantNothing_5 : fetch tX1_wantNothing 5 = some (.if_icmp .ge 17, 3, 22, 0, 0, 0) := rfl
theorem fX1_wantNothing_8 : fetch tX1_wantNothing 8 = some (.aload_n 0, 1, 0, 0, 0, 0) := rfl
theorem fX1_wantNothing_9 : fetch tX1_wantNothing 9 = some (.getfield 15, 3, 1, 1, 0, 0) := rfl
theorem fX1_wantNothing_12 : fetch tX1_wantNothing 12 = some (.iload_n 1, 1, 1, 0, 0, 0) := rfl
theorem fX1_wantNothing_13 : fetch tX1_wantNothing 13 = some (.bipush 100, 2, 0, 0, 100, 0) := rfl
theorem fX1_wantNothing_15 : fetch tX1_wantNothing 15 = some (.iastore, 1, 0, 0, 0, 0) := rfl
theorem fX1_wantNothing_16 : fetch tX1_wantNothing 16 = some (.iinc 1 1, 3, 1, 0, 1, 0) := rfl
theorem fX1_wantNothing_19 : fetch tX1_wantNothing 19 = some (.goto (-17), 3, 2, 0, 0, 0) := rfl
theorem fX1_wantNothing_22 : fetch tX1_wantNothing 22 = some (.return_, 1, 0, 0, 0, 0) := rfl
def tX1_wantOnly : List (Nat × TE) := [(0, .aload_n 0, 1, 0, 0, 0, 0), (1, .invokevirtual 40, 3, 0, 1, 0, 0), (4, .iload_n 1, 1, 1, 0, 0, 0), (5, .invokestatic 43, 3, 1, 3, 0, 0), (8, .ifCond .eq 20, 3, 28, 0, 0, 0), (11, .aload_n 0, 1, 0, 0, 0, 0), (12, .getfield 15, 3, 1, 1, 0, 0), (15, .iload_n 1, 1, 1, 0, 0, 0), (16, .iload_n 2, 1, 2, 0, 0, 0), (17, .iconst (-1), 1, 0, 0, (-1), 0), (18, .if_icmp .ne 8, 3, 26, 0, 0, 0), (21, .bipush 31, 2, 0, 0, 31, 0), (23, .goto 4, 3, 27, 0, 0, 0), (26, .iload_n 2, 1, 2, 0, 0, 0), (27, .iastore, 1, 0, 0, 0, 0), (28, .return_, 1, 0, 0, 0, 0)]
theorem tkX1_wantOnly : tOk cX1_wantOnly "RumourSource$Spread" 3 tX1_wantOnly = true := by decide +kernel
theorem fX1_wantOnly_0 : fetch tX1_wantOnly 0 = some (.aload_n 0, 1, 0, 0, 0, 0) := rfl
theorem fX1_wantOnly_1 : fetch tX1_wantOnly 1 = some (.invokevirtual 40, 3, 0, 1, 0, 0) := rfl
theorem fX1_wantOnly_4 : fetch tX1_wantOnly 4 = some (.iload_n 1, 1, 1, 0, 0, 0) := rfl
theorem fX1_wantOnly_5 : fetch tX1_wantOnly 5 = some (.invokestatic 43, 3, 1, 3, 0, 0) := rfl
theorem fX1_wantOnly_8 : fetch tX1_wantOnly 8 = some (.ifCond .eq 20, 3, 28, 0, 0, 0) := rfl
theorem fX1_wantOnly_11 : fetch tX1_wantOnly 11 = some (.aload_n 0, 1, 0, 0, 0, 0) := rfl
theorem fX1_wantOnly_12 : fetch tX1_wantOnly 12 = some (.getfield 15, 3, 1, 1, 0, 0) := rfl
theorem fX1_wantOnly_15 : fetch tX1_wantOnly 15 = some (.iload_n 1, 1, 1, 0, 0, 0) := rfl
theorem fX1_wantOnly_16 : fetch tX1_wantOnly 16 = some (.iload_n 2, 1, 2, 0, 0, 0) := rfl
theorem fX1_wantOnly_17 : fetch tX1_wantOnly 17 = some (.iconst (-1), 1, 0, 0, (-1), 0) := rfl
theorem fX1_wantOnly_18 : fetch tX1_wantOnly 18 = some (.if_icmp .ne 8, 3, 26, 0, 0, 0) := rfl
theorem fX1_wantOnly_21 : fetch tX1_wantOnly 21 = some (.bipush 31, 2, 0, 0, 31, 0) := rfl
theorem fX1_wantOnly_23 : fetch tX1_wantOnly 23 = some (.goto 4, 3, 27, 0, 0, 0) := rfl
theorem fX1_wantOnly_26 : fetch tX1_wantOnly 26 = some (.iload_n 2, 1, 2, 0, 0, 0) := rfl
theorem fX1_wantOnly_27 : fetch tX1_wantOnly 27 = some (.iastore, 1, 0, 0, 0, 0) := rfl
theorem fX1_wantOnly_28 : fetch tX1_wantOnly 28 = some (.return_, 1, 0, 0, 0, 0) := rfl
def tX1_wantAsSeen : List (Nat × TE) := [(0, .iconst 0, 1, 0, 0, 0, 0), (1, .istore_n 2, 1, 2, 0, 0, 0), (2, .iload_n 2, 1, 2, 0, 0, 0), (3, .bipush 8, 2, 0, 0, 8, 0), (5, .if_icmp .ge 33, 3, 38, 0, 0, 0), (8, .aload_n 1, 1, 1, 0, 0, 0), (9, .getfield 47, 3, 0, 6, 0, 0), (12, .iload_n 2, 1, 2, 0, 0, 0), (13, .iaload, 1, 0, 0, 0, 0), (14, .istore_n 3, 1, 3, 0, 0, 0), (15, .aload_n 0, 1, 0, 0, 0, 0), (16, .getfield 15, 3, 1, 1, 0, 0), (19, .iload_n 2, 1, 2, 0, 0, 0), (20, .iload_n 3, 1, 3, 0, 0, 0), (21, .iconst (-1), 1, 0, 0, (-1), 0), (22, .if_icmp .ne 8, 3, 30, 0, 0, 0), (25, .bipush 31, 2, 0, 0, 31, 0), (27, .goto 4, 3, 31, 0, 0, 0), (30, .iload_n 3, 1, 3, 0, 0, 0), (31, .iastore, 1, 0, 0, 0, 0), (32, .iinc 2 1, 3, 2, 0, 1, 0), (35, .goto (-33), 3, 2, 0, 0, 0), (38, .return_, 1, 0, 0, 0, 0)]
theorem tkX1_wantAsSeen : tOk cX1_wantAsSeen "RumourSource$Spread" 4 tX1_wantAsSeen = true := by decide +kernel
theorem fX1_wantAsSeen_0 : fetch tX1_wantAsSeen 0 = some (.iconst 0, 1, 0, 0, 0, 0) := rfl
theorem fX1_wantAsSeen_1 : fetch tX1_wantAsSeen 1 = some (.istore_n 2, 1, 2, 0, 0, 0) := rfl
theorem fX1_wantAsSeen_2 : fetch tX1_wantAsSeen 2 = some (.iload_n 2, 1, 2, 0, 0, 0) := rfl
theorem fX1_wantAsSeen_3 : fetch tX1_wantAsSeen 3 = some (.bipush 8, 2, 0, 0, 8, 0) := rfl
theorem fX1_wantAsSeen_5 : fetch tX1_wantAsSeen 5 = some (.if_icmp .ge 33, 3, 38, 0, 0, 0) := rfl
theorem fX1_wantAsSeen_8 : fetch tX1_wantAsSeen 8 = some (.aload_n 1, 1, 1, 0, 0, 0) := rfl
theorem fX1_wantAsSeen_9 : fetch tX1_wantAsSeen 9 = some (.getfield 47, 3, 0, 6, 0, 0) := rfl
theorem fX1_wantAsSeen_12 : fetch tX1_wantAsSeen 12 = some (.iload_n 2, 1, 2, 0, 0, 0) := rfl
theorem fX1_wantAsSeen_13 : fetch tX1_wantAsSeen 13 = some (.iaload, 1, 0, 0, 0, 0) := rfl
theorem fX1_wantAsSeen_14 : fetch tX1_wantAsSeen 14 = some (.istore_n 3, 1, 3, 0, 0, 0) := rfl
theorem fX1_wantAsSeen_15 : fetch tX1_wantAsSeen 15 = some (.aload_n 0, 1, 0, 0, 0, 0) := rfl
theorem fX1_wantAsSeen_16 : fetch tX1_wantAsSeen 16 = some (.getfield 15, 3, 1, 1, 0, 0) := rfl
theorem fX1_wantAsSeen_19 : fetch tX1_wantAsSeen 19 = some (.iload_n 2, 1, 2, 0, 0, 0) := rfl
theorem fX1_wantAsSeen_20 : fetch tX1_wantAsSeen 20 = some (.iload_n 3, 1, 3, 0, 0, 0) := rfl
theorem fX1_wantAsSeen_21 : fetch tX1_wantAsSeen 21 = some (.iconst (-1), 1, 0, 0, (-1), 0) := rfl
theorem fX1_wantAsSeen_22 : fetch tX1_wantAsSeen 22 = some (.if_icmp .ne 8, 3, 30, 0, 0, 0) := rfl
theorem fX1_wantAsSeen_25 : fetch tX1_wantAsSeen 25 = some (.bipush 31, 2, 0, 0, 31, 0) := rfl
theorem fX1_wantAsSeen_27 : fetch tX1_wantAsSeen 27 = some (.goto 4, 3, 31, 0, 0, 0) := rfl
theorem fX1_wantAsSeen_30 : fetch tX1_wantAsSeen 30 = some (.iload_n 3, 1, 3, 0, 0, 0) := rfl
theorem fX1_wantAsSeen_31 : fetch tX1_wantAsSeen 31 = some (.iastore, 1, 0, 0, 0, 0) := rfl
theorem fX1_wantAsSeen_32 : fetch tX1_wantAsSeen 32 = some (.iinc 2 1, 3, 2, 0, 1, 0) := rfl
theorem fX1_wantAsSeen_35 : fetch tX1_wantAsSeen 35 = some (.goto (-33), 3, 2, 0, 0, 0) := rfl
theorem fX1_wantAsSeen_38 : fetch tX1_wantAsSeen 38 = some (.return_, 1, 0, 0, 0, 0) := rfl
def tX1_begin : List (Nat × TE) := [(0, .iconst 0, 1, 0, 0, 0, 0), (1, .istore_n 2, 1, 2, 0, 0, 0), (2, .iload_n 2, 1, 2, 0, 0, 0), (3, .bipush 8, 2, 0, 0, 8, 0), (5, .if_icmp .ge 30, 3, 35, 0, 0, 0), (8, .aload_n 0, 1, 0, 0, 0, 0), (9, .getfield 9, 3, 1, 0, 0, 0), (12, .iload_n 2, 1, 2, 0, 0, 0), (13, .iload_n 1, 1, 1, 0, 0, 0), (14, .iload_n 2, 1, 2, 0, 0, 0), (15, .ishr, 1, 0, 0, 0, 0), (16, .iconst 1, 1, 0, 0, 1, 0), (17, .iand, 1, 0, 0, 0, 0), (18, .iconst 1, 1, 0, 0, 1, 0), (19, .if_icmp .ne 7, 3, 26, 0, 0, 0), (22, .iconst 0, 1, 0, 0, 0, 0), (23, .goto 5, 3, 28, 0, 0, 0), (26, .bipush 31, 2, 0, 0, 31, 0), (28, .iastore, 1, 0, 0, 0, 0), (29, .iinc 2 1, 3, 2, 0, 1, 0), (32, .goto (-30), 3, 2, 0, 0, 0), (35, .return_, 1, 0, 0, 0, 0)]
theorem tkX1_begin : tOk cX1_begin "RumourSource$Spread" 3 tX1_begin = true := by decide +kernel
theorem fX1_begin_0 : fetch tX1_begin 0 = some (.iconst 0, 1, 0, 0, 0, 0) := rfl
theorem fX1_begin_1 : fetch tX1_begin 1 = some (.istore_n 2, 1, 2, 0, 0, 0) := rfl
theorem fX1_begin_2 : fetch tX1_begin 2 = some (.iload_n 2, 1, 2, 0, 0, 0) := rfl
theorem fX1_begin_3 : fetch tX1_begin 3 = some (.bipush 8, 2, 0, 0, 8, 0) := rfl
theorem fX1_begin_5 : fetch tX1_begin 5 = some (.if_icmp .ge 30, 3, 35, 0, 0, 0) := rfl
theorem fX1_begin_8 : fetch tX1_begin 8 = some (.aload_n 0, 1, 0, 0, 0, 0) := rfl
theorem fX1_begin_9 : fetch tX1_begin 9 = some (.getfield 9, 3, 1, 0, 0, 0) := rfl
theorem fX1_begin_12 : fetch tX1_begin 12 = some (.iload_n 2, 1, 2, 0, 0, 0) := rfl
theorem fX1_begin_13 : fetch tX1_begin 13 = some (.iload_n 1, 1, 1, 0, 0, 0) := rfl
theorem fX1_begin_14 : fetch tX1_begin 14 = some (.iload_n 2, 1, 2, 0, 0, 0) := rfl
theorem fX1_begin_15 : fetch tX1_begin 15 = some (.ishr, 1, 0, 0, 0, 0) := rfl
theorem fX1_begin_16 : fetch tX1_begin 16 = some (.iconst 1, 1, 0, 0, 1, 0) := rfl
theorem fX1_begin_17 : fetch tX1_begin 17 = some (.iand, 1, 0, 0, 0, 0) := rfl
theorem fX1_begin_18 : fetch tX1_begin 18 = some (.iconst 1, 1, 0, 0, 1, 0) := rfl
theorem fX1_begin_19 : fetch tX1_begin 19 = some (.if_icmp .ne 7, 3, 26, 0, 0, 0) := rfl
theorem fX1_begin_22 : fetch tX1_begin 22 = some (.iconst 0, 1, 0, 0, 0, 0) := rfl
theorem fX1_begin_23 : fetch tX1_begin 23 = some (.goto 5, 3, 28, 0, 0, 0) := rfl
theorem fX1_begin_26 : fetch tX1_begin 26 = some (.bipush 31, 2, 0, 0, 31, 0) := rfl
theorem fX1_begin_28 : fetch tX1_begin 28 = some (.iastore, 1, 0, 0, 0, 0) := rfl
theorem fX1_begin_29 : fetch tX1_begin 29 = some (.iinc 2 1, 3, 2, 0, 1, 0) := rfl
theorem fX1_begin_32 : fetch tX1_begin 32 = some (.goto (-30), 3, 2, 0, 0, 0) := rfl
theorem fX1_begin_35 : fetch tX1_begin 35 = some (.return_, 1, 0, 0, 0, 0) := rfl
def tX1_follow : List (Nat × TE) := [(0, .aload_n 0, 1, 0, 0, 0, 0), (1, .iload_n 2, 1, 2, 0, 0, 0), (2, .invokevirtual 52, 3, 0, 1, 0, 0), (5, .iconst 1, 1, 0, 0, 1, 0), (6, .istore 4, 2, 4, 0, 0, 0), (8, .iload 4, 2, 4, 0, 0, 0), (10, .bipush 8, 2, 0, 0, 8, 0), (12, .if_icmp .ge 89, 3, 101, 0, 0, 0), (15, .iconst 0, 1, 0, 0, 0, 0), (16, .istore 5, 2, 5, 0, 0, 0), (18, .iload 5, 2, 5, 0, 0, 0), (20, .aload_n 1, 1, 1, 0, 0, 0), (21, .getfield 56, 3, 0, 4, 0, 0), (24, .if_icmp .ge 71, 3, 95, 0, 0, 0), (27, .aload_n 1, 1, 1, 0, 0, 0), (28, .getfield 59, 3, 0, 1, 0, 0), (31, .iload 5, 2, 5, 0, 0, 0), (33, .iaload, 1, 0, 0, 0, 0), (34, .istore 6, 2, 6, 0, 0, 0), (36, .iload_n 3, 1, 3, 0, 0, 0), (37, .iload 5, 2, 5, 0, 0, 0), (39, .ishr, 1, 0, 0, 0, 0), (40, .iconst 1, 1, 0, 0, 1, 0), (41, .iand, 1, 0, 0, 0, 0), (42, .iconst 1, 1, 0, 0, 1, 0), (43, .if_icmp .ne 13, 3, 56, 0, 0, 0), (46, .aload_n 0, 1, 0, 0, 0, 0), (47, .aload_n 1, 1, 1, 0, 0, 0), (48, .iload 5, 2, 5, 0, 0, 0), (50, .invokevirtual 62, 3, 1, 1, 0, 0), (53, .goto 5, 3, 58, 0, 0, 0), (56, .bipush 31, 2, 0, 0, 31, 0), (58, .istore 7, 2, 7, 0, 0, 0), (60, .iload 6, 2, 6, 0, 0, 0), (62, .invokestatic 43, 3, 2, 3, 0, 0), (65, .ifCond .eq 24, 3, 89, 0, 0, 0), (68, .iload 7, 2, 7, 0, 0, 0), (70, .aload_n 0, 1, 0, 0, 0, 0), (71, .getfield 9, 3, 1, 0, 0, 0), (74, .iload 6, 2, 6, 0, 0, 0), (76, .iaload, 1, 0, 0, 0, 0), (77, .if_icmp .ge 12, 3, 89, 0, 0, 0), (80, .aload_n 0, 1, 0, 0, 0, 0), (81, .getfield 9, 3, 1, 0, 0, 0), (84, .iload 6, 2, 6, 0, 0, 0), (86, .iload 7, 2, 7, 0, 0, 0), (88, .iastore, 1, 0, 0, 0, 0), (89, .iinc 5 1, 3, 5, 0, 1, 0), (92, .goto (-74), 3, 18, 0, 0, 0), (95, .iinc 4 1, 3, 4, 0, 1, 0), (98, .goto (-90), 3, 8, 0, 0, 0), (101, .return_, 1, 0, 0, 0, 0)]
theorem tkX1_follow : tOk cX1_follow "RumourSource$Spread" 8 tX1_follow = true := by decide +kernel
theorem fX1_follow_0 : fetch tX1_follow 0 = some (.aload_n 0, 1, 0, 0, 0, 0) := rfl
theorem fX1_follow_1 : fetch tX1_follow 1 = some (.iload_n 2, 1, 2, 0, 0, 0) := rfl
theorem fX1_follow_2 : fetch tX1_follow 2 = some (.invokevirtual 52, 3, 0, 1, 0, 0) := rfl
theorem fX1_follow_5 : fetch tX1_follow 5 = some (.iconst 1, 1, 0, 0, 1, 0) := rfl
theorem fX1_follow_6 : fetch tX1_follow 6 = some (.istore 4, 2, 4, 0, 0, 0) := rfl
theorem fX1_follow_8 : fetch tX1_follow 8 = some (.iload 4, 2, 4, 0, 0, 0) := rfl
theorem fX1_follow_10 : fetch tX1_follow 10 = some (.bipush 8, 2, 0, 0, 8, 0) := rfl
theorem fX1_follow_12 : fetch tX1_follow 12 = some (.if_icmp .ge 89, 3, 101, 0, 0, 0) := rfl
theorem fX1_follow_15 : fetch tX1_follow 15 = some (.iconst 0, 1, 0, 0, 0, 0) := rfl
theorem fX1_follow_16 : fetch tX1_follow 16 = some (.istore 5, 2, 5, 0, 0, 0) := rfl
theorem fX1_follow_18 : fetch tX1_follow 18 = some (.iload 5, 2, 5, 0, 0, 0) := rfl
theorem fX1_follow_20 : fetch tX1_follow 20 = some (.aload_n 1, 1, 1, 0, 0, 0) := rfl
theorem fX1_follow_21 : fetch tX1_follow 21 = some (.getfield 56, 3, 0, 4, 0, 0) := rfl
theorem fX1_follow_24 : fetch tX1_follow 24 = some (.if_icmp .ge 71, 3, 95, 0, 0, 0) := rfl
theorem fX1_follow_27 : fetch tX1_follow 27 = some (.aload_n 1, 1, 1, 0, 0, 0) := rfl
theorem fX1_follow_28 : fetch tX1_follow 28 = some (.getfield 59, 3, 0, 1, 0, 0) := rfl
theorem fX1_follow_31 : fetch tX1_follow 31 = some (.iload 5, 2, 5, 0, 0, 0) := rfl
theorem fX1_follow_33 : fetch tX1_follow 33 = some (.iaload, 1, 0, 0, 0, 0) := rfl
theorem fX1_follow_34 : fetch tX1_follow 34 = some (.istore 6, 2, 6, 0, 0, 0) := rfl
theorem fX1_follow_36 : fetch tX1_follow 36 = some (.iload_n 3, 1, 3, 0, 0, 0) := rfl
theorem fX1_follow_37 : fetch tX1_follow 37 = some (.iload 5, 2, 5, 0, 0, 0) := rfl
theorem fX1_follow_39 : fetch tX1_follow 39 = some (.ishr, 1, 0, 0, 0, 0) := rfl
theorem fX1_follow_40 : fetch tX1_follow 40 = some (.iconst 1, 1, 0, 0, 1, 0) := rfl
theorem fX1_follow_41 : fetch tX1_follow 41 = some (.iand, 1, 0, 0, 0, 0) := rfl
theorem fX1_follow_42 : fetch tX1_follow 42 = some (.iconst 1, 1, 0, 0, 1, 0) := rfl
theorem fX1_follow_43 : fetch tX1_follow 43 = some (.if_icmp .ne 13, 3, 56, 0, 0, 0) := rfl
theorem fX1_follow_46 : fetch tX1_follow 46 = some (.aload_n 0, 1, 0, 0, 0, 0) := rfl
theorem fX1_follow_47 : fetch tX1_follow 47 = some (.aload_n 1, 1, 1, 0, 0, 0) := rfl
theorem fX1_follow_48 : fetch tX1_follow 48 = some (.iload 5, 2, 5, 0, 0, 0) := rfl
theorem fX1_follow_50 : fetch tX1_follow 50 = some (.invokevirtual 62, 3, 1, 1, 0, 0) := rfl
theorem fX1_follow_53 : fetch tX1_follow 53 = some (.goto 5, 3, 58, 0, 0, 0) := rfl
theorem fX1_follow_56 : fetch tX1_follow 56 = some (.bipush 31, 2, 0, 0, 31, 0) := rfl
theorem fX1_follow_58 : fetch tX1_follow 58 = some (.istore 7, 2, 7, 0, 0, 0) := rfl
theorem fX1_follow_60 : fetch tX1_follow 60 = some (.iload 6, 2, 6, 0, 0, 0) := rfl
theorem fX1_follow_62 : fetch tX1_follow 62 = some (.invokestatic 43, 3, 2, 3, 0, 0) := rfl
theorem fX1_follow_65 : fetch tX1_follow 65 = some (.ifCond .eq 24, 3, 89, 0, 0, 0) := rfl
theorem fX1_follow_68 : fetch tX1_follow 68 = some (.iload 7, 2, 7, 0, 0, 0) := rfl
theorem fX1_follow_70 : fetch tX1_follow 70 = some (.aload_n 0, 1, 0, 0, 0, 0) := rfl
theorem fX1_follow_71 : fetch tX1_follow 71 = some (.getfield 9, 3, 1, 0, 0, 0) := rfl
theorem fX1_follow_74 : fetch tX1_follow 74 = some (.iload 6, 2, 6, 0, 0, 0) := rfl
theorem fX1_follow_76 : fetch tX1_follow 76 = some (.iaload, 1, 0, 0, 0, 0) := rfl
theorem fX1_follow_77 : fetch tX1_follow 77 = some (.if_icmp .ge 12, 3, 89, 0, 0, 0) := rfl
theorem fX1_follow_80 : fetch tX1_follow 80 = some (.aload_n 0, 1, 0, 0, 0, 0) := rfl
theorem fX1_follow_81 : fetch tX1_follow 81 = some (.getfield 9, 3, 1, 0, 0, 0) := rfl
theorem fX1_follow_84 : fetch tX1_follow 84 = some (.iload 6, 2, 6, 0, 0, 0) := rfl
theorem fX1_follow_86 : fetch tX1_follow 86 = some (.iload 7, 2, 7, 0, 0, 0) := rfl
theorem fX1_follow_88 : fetch tX1_follow 88 = some (.iastore, 1, 0, 0, 0, 0) := rfl
theorem fX1_follow_89 : fetch tX1_follow 89 = some (.iinc 5 1, 3, 5, 0, 1, 0) := rfl
theorem fX1_follow_92 : fetch tX1_follow 92 = some (.goto (-74), 3, 18, 0, 0, 0) := rfl
theorem fX1_follow_95 : fetch tX1_follow 95 = some (.iinc 4 1, 3, 4, 0, 1, 0) := rfl
theorem fX1_follow_98 : fetch tX1_follow 98 = some (.goto (-90), 3, 8, 0, 0, 0) := rfl
theorem fX1_follow_101 : fetch tX1_follow 101 = some (.return_, 1, 0, 0, 0, 0) := rfl
def tX1_arrivalBy : List (Nat × TE) := [(0, .aload_n 1, 1, 1, 0, 0, 0), (1, .getfield 66, 3, 0, 0, 0, 0), (4, .iload_n 2, 1, 2, 0, 0, 0), (5, .iaload, 1, 0, 0, 0, 0), (6, .istore_n 3, 1, 3, 0, 0, 0), (7, .iload_n 3, 1, 3, 0, 0, 0), (8, .invokestatic 43, 3, 0, 3, 0, 0), (11, .ifCond .eq 14, 3, 25, 0, 0, 0), (14, .aload_n 0, 1, 0, 0, 0, 0), (15, .getfield 9, 3, 1, 0, 0, 0), (18, .iload_n 3, 1, 3, 0, 0, 0), (19, .iaload, 1, 0, 0, 0, 0), (20, .bipush 31, 2, 0, 0, 31, 0), (22, .if_icmp .ne 6, 3, 28, 0, 0, 0), (25, .bipush 31, 2, 0, 0, 31, 0), (27, .ireturn, 1, 0, 0, 0, 0), (28, .aload_n 0, 1, 0, 0, 0, 0), (29, .getfield 9, 3, 1, 0, 0, 0), (32, .iload_n 3, 1, 3, 0, 0, 0), (33, .iaload, 1, 0, 0, 0, 0), (34, .aload_n 1, 1, 1, 0, 0, 0), (35, .getfield 69, 3, 0, 3, 0, 0), (38, .iload_n 2, 1, 2, 0, 0, 0), (39, .iaload, 1, 0, 0, 0, 0), (40, .iadd, 1, 0, 0, 0, 0), (41, .istore 4, 2, 4, 0, 0, 0), (43, .iload 4, 2, 4, 0, 0, 0), (45, .aload_n 1, 1, 1, 0, 0, 0), (46, .getfield 72, 3, 0, 5, 0, 0), (49, .if_icmp .gt 8, 3, 57, 0, 0, 0), (52, .iload 4, 2, 4, 0, 0, 0), (54, .goto 5, 3, 59, 0, 0, 0), (57, .bipush 31, 2, 0, 0, 31, 0), (59, .ireturn, 1, 0, 0, 0, 0)]
theorem tkX1_arrivalBy : tOk cX1_arrivalBy "RumourSource$Spread" 5 tX1_arrivalBy = true := by decide +kernel
theorem fX1_arrivalBy_0 : fetch tX1_arrivalBy 0 = some (.aload_n 1, 1, 1, 0, 0, 0) := rfl
theorem fX1_arrivalBy_1 : fetch tX1_arrivalBy 1 = some (.getfield 66, 3, 0, 0, 0, 0) := rfl
theorem fX1_arrivalBy_4 : fetch tX1_arrivalBy 4 = some (.iload_n 2, 1, 2, 0, 0, 0) := rfl
theorem fX1_arrivalBy_5 : fetch tX1_arrivalBy 5 = some (.iaload, 1, 0, 0, 0, 0) := rfl
theorem fX1_arrivalBy_6 : fetch tX1_arrivalBy 6 = some (.istore_n 3, 1, 3, 0, 0, 0) := rfl
theorem fX1_arrivalBy_7 : fetch tX1_arrivalBy 7 = some (.iload_n 3, 1, 3, 0, 0, 0) := rfl
theorem fX1_arrivalBy_8 : fetch tX1_arrivalBy 8 = some (.invokestatic 43, 3, 0, 3, 0, 0) := rfl
theorem fX1_arrivalBy_11 : fetch tX1_arrivalBy 11 = some (.ifCond .eq 14, 3, 25, 0, 0, 0) := rfl
theorem fX1_arrivalBy_14 : fetch tX1_arrivalBy 14 = some (.aload_n 0, 1, 0, 0, 0, 0) := rfl
theorem fX1_arrivalBy_15 : fetch tX1_arrivalBy 15 = some (.getfield 9, 3, 1, 0, 0, 0) := rfl
theorem fX1_arrivalBy_18 : fetch tX1_arrivalBy 18 = some (.iload_n 3, 1, 3, 0, 0, 0) := rfl
theorem fX1_arrivalBy_19 : fetch tX1_arrivalBy 19 = some (.iaload, 1, 0, 0, 0, 0) := rfl
theorem fX1_arrivalBy_20 : fetch tX1_arrivalBy 20 = some (.bipush 31, 2, 0, 0, 31, 0) := rfl
theorem fX1_arrivalBy_22 : fetch tX1_arrivalBy 22 = some (.if_icmp .ne 6, 3, 28, 0, 0, 0) := rfl
theorem fX1_arrivalBy_25 : fetch tX1_arrivalBy 25 = some (.bipush 31, 2, 0, 0, 31, 0) := rfl
theorem fX1_arrivalBy_27 : fetch tX1_arrivalBy 27 = some (.ireturn, 1, 0, 0, 0, 0) := rfl
theorem fX1_arrivalBy_28 : fetch tX1_arrivalBy 28 = some (.aload_n 0, 1, 0, 0, 0, 0) := rfl
theorem fX1_arrivalBy_29 : fetch tX1_arrivalBy 29 = some (.getfield 9, 3, 1, 0, 0, 0) := rfl
theorem fX1_arrivalBy_32 : fetch tX1_arrivalBy 32 = some (.iload_n 3, 1, 3, 0, 0, 0) := rfl
theorem fX1_arrivalBy_33 : fetch tX1_arrivalBy 33 = some (.iaload, 1, 0, 0, 0, 0) := rfl
theorem fX1_arrivalBy_34 : fetch tX1_arrivalBy 34 = some (.aload_n 1, 1, 1, 0, 0, 0) := rfl
theorem fX1_arrivalBy_35 : fetch tX1_arrivalBy 35 = some (.getfield 69, 3, 0, 3, 0, 0) := rfl
theorem fX1_arrivalBy_38 : fetch tX1_arrivalBy 38 = some (.iload_n 2, 1, 2, 0, 0, 0) := rfl
theorem fX1_arrivalBy_39 : fetch tX1_arrivalBy 39 = some (.iaload, 1, 0, 0, 0, 0) := rfl
theorem fX1_arrivalBy_40 : fetch tX1_arrivalBy 40 = some (.iadd, 1, 0, 0, 0, 0) := rfl
theorem fX1_arrivalBy_41 : fetch tX1_arrivalBy 41 = some (.istore 4, 2, 4, 0, 0, 0) := rfl
theorem fX1_arrivalBy_43 : fetch tX1_arrivalBy 43 = some (.iload 4, 2, 4, 0, 0, 0) := rfl
theorem fX1_arrivalBy_45 : fetch tX1_arrivalBy 45 = some (.aload_n 1, 1, 1, 0, 0, 0) := rfl
theorem fX1_arrivalBy_46 : fetch tX1_arrivalBy 46 = some (.getfield 72, 3, 0, 5, 0, 0) := rfl
theorem fX1_arrivalBy_49 : fetch tX1_arrivalBy 49 = some (.if_icmp .gt 8, 3, 57, 0, 0, 0) := rfl
theorem fX1_arrivalBy_52 : fetch tX1_arrivalBy 52 = some (.iload 4, 2, 4, 0, 0, 0) := rfl
theorem fX1_arrivalBy_54 : fetch tX1_arrivalBy 54 = some (.goto 5, 3, 59, 0, 0, 0) := rfl
theorem fX1_arrivalBy_57 : fetch tX1_arrivalBy 57 = some (.bipush 31, 2, 0, 0, 31, 0) := rfl
theorem fX1_arrivalBy_59 : fetch tX1_arrivalBy 59 = some (.ireturn, 1, 0, 0, 0, 0) := rfl
def tX1_isAsWanted : List (Nat × TE) := [(0, .aload_n 0, 1, 0, 0, 0, 0), (1, .bipush 31, 2, 0, 0, 31, 0), (3, .invokevirtual 75, 3, 0, 1, 0, 0), (6, .ireturn, 1, 0, 0, 0, 0)]
theorem tkX1_isAsWanted : tOk cX1_isAsWanted "RumourSource$Spread" 1 tX1_isAsWanted = true := by decide +kernel
theorem fX1_isAsWanted_0 : fetch tX1_isAsWanted 0 = some (.aload_n 0, 1, 0, 0, 0, 0) := rfl
theorem fX1_isAsWanted_1 : fetch tX1_isAsWanted 1 = some (.bipush 31, 2, 0, 0, 31, 0) := rfl
theorem fX1_isAsWanted_3 : fetch tX1_isAsWanted 3 = some (.invokevirtual 75, 3, 0, 1, 0, 0) := rfl
theorem fX1_isAsWanted_6 : fetch tX1_isAsWanted 6 = some (.ireturn, 1, 0, 0, 0, 0) := rfl
def tX1_canBeAsWanted : List (Nat × TE) := [(0, .iconst 0, 1, 0, 0, 0, 0), (1, .istore_n 2, 1, 2, 0, 0, 0), (2, .iload_n 2, 1, 2, 0, 0, 0), (3, .bipush 8, 2, 0, 0, 8, 0), (5, .if_icmp .ge 52, 3, 57, 0, 0, 0), (8, .aload_n 0, 1, 0, 0, 0, 0), (9, .getfield 15, 3, 1, 1, 0, 0), (12, .iload_n 2, 1, 2, 0, 0, 0), (13, .iaload, 1, 0, 0, 0, 0), (14, .istore_n 3, 1, 3, 0, 0, 0), (15, .iload_n 3, 1, 3, 0, 0, 0), (16, .bipush 100, 2, 0, 0, 100, 0), (18, .if_icmp .ne 6, 3, 24, 0, 0, 0), (21, .goto 30, 3, 51, 0, 0, 0), (24, .aload_n 0, 1, 0, 0, 0, 0), (25, .getfield 9, 3, 1, 0, 0, 0), (28, .iload_n 2, 1, 2, 0, 0, 0), (29, .iaload, 1, 0, 0, 0, 0), (30, .istore 4, 2, 4, 0, 0, 0), (32, .iload 4, 2, 4, 0, 0, 0), (34, .iload_n 3, 1, 3, 0, 0, 0), (35, .if_icmp .lt 14, 3, 49, 0, 0, 0), (38, .iload 4, 2, 4, 0, 0, 0), (40, .iload_n 3, 1, 3, 0, 0, 0), (41, .if_icmp .le 10, 3, 51, 0, 0, 0), (44, .iload_n 1, 1, 1, 0, 0, 0), (45, .iload_n 3, 1, 3, 0, 0, 0), (46, .if_icmp .le 5, 3, 51, 0, 0, 0), (49, .iconst 0, 1, 0, 0, 0, 0), (50, .ireturn, 1, 0, 0, 0, 0), (51, .iinc 2 1, 3, 2, 0, 1, 0), (54, .goto (-52), 3, 2, 0, 0, 0), (57, .iconst 1, 1, 0, 0, 1, 0), (58, .ireturn, 1, 0, 0, 0, 0)]
theorem tkX1_canBeAsWanted : tOk cX1_canBeAsWanted "RumourSource$Spread" 5 tX1_canBeAsWanted = true := by decide +kernel
theorem fX1_canBeAsWanted_0 : fetch tX1_canBeAsWanted 0 = some (.iconst 0, 1, 0, 0, 0, 0) := rfl
theorem fX1_canBeAsWanted_1 : fetch tX1_canBeAsWanted 1 = some (.istore_n 2, 1, 2, 0, 0, 0) := rfl
theorem fX1_canBeAsWanted_2 : fetch tX1_canBeAsWanted 2 = some (.iload_n 2, 1, 2, 0, 0, 0) := rfl
theorem fX1_canBeAsWanted_3 : fetch tX1_canBeAsWanted 3 = some (.bipush 8, 2, 0, 0, 8, 0) := rfl
theorem fX1_canBeAsWanted_5 : fetch tX1_canBeAsWanted 5 = some (.if_icmp .ge 52, 3, 57, 0, 0, 0) := rfl
theorem fX1_canBeAsWanted_8 : fetch tX1_canBeAsWanted 8 = some (.aload_n 0, 1, 0, 0, 0, 0) := rfl
theorem fX1_canBeAsWanted_9 : fetch tX1_canBeAsWanted 9 = some (.getfield 15, 3, 1, 1, 0, 0) := rfl
theorem fX1_canBeAsWanted_12 : fetch tX1_canBeAsWanted 12 = some (.iload_n 2, 1, 2, 0, 0, 0) := rfl
theorem fX1_canBeAsWanted_13 : fetch tX1_canBeAsWanted 13 = some (.iaload, 1, 0, 0, 0, 0) := rfl
theorem fX1_canBeAsWanted_14 : fetch tX1_canBeAsWanted 14 = some (.istore_n 3, 1, 3, 0, 0, 0) := rfl
theorem fX1_canBeAsWanted_15 : fetch tX1_canBeAsWanted 15 = some (.iload_n 3, 1, 3, 0, 0, 0) := rfl
theorem fX1_canBeAsWanted_16 : fetch tX1_canBeAsWanted 16 = some (.bipush 100, 2, 0, 0, 100, 0) := rfl
theorem fX1_canBeAsWanted_18 : fetch tX1_canBeAsWanted 18 = some (.if_icmp .ne 6, 3, 24, 0, 0, 0) := rfl
theorem fX1_canBeAsWanted_21 : fetch tX1_canBeAsWanted 21 = some (.goto 30, 3, 51, 0, 0, 0) := rfl
theorem fX1_canBeAsWanted_24 : fetch tX1_canBeAsWanted 24 = some (.aload_n 0, 1, 0, 0, 0, 0) := rfl
theorem fX1_canBeAsWanted_25 : fetch tX1_canBeAsWanted 25 = some (.getfield 9, 3, 1, 0, 0, 0) := rfl
theorem fX1_canBeAsWanted_28 : fetch tX1_canBeAsWanted 28 = some (.iload_n 2, 1, 2, 0, 0, 0) := rfl
theorem fX1_canBeAsWanted_29 : fetch tX1_canBeAsWanted 29 = some (.iaload, 1, 0, 0, 0, 0) := rfl
theorem fX1_canBeAsWanted_30 : fetch tX1_canBeAsWanted 30 = some (.istore 4, 2, 4, 0, 0, 0) := rfl
theorem fX1_canBeAsWanted_32 : fetch tX1_canBeAsWanted 32 = some (.iload 4, 2, 4, 0, 0, 0) := rfl
theorem fX1_canBeAsWanted_34 : fetch tX1_canBeAsWanted 34 = some (.iload_n 3, 1, 3, 0, 0, 0) := rfl
theorem fX1_canBeAsWanted_35 : fetch tX1_canBeAsWanted 35 = some (.if_icmp .lt 14, 3, 49, 0, 0, 0) := rfl
theorem fX1_canBeAsWanted_38 : fetch tX1_canBeAsWanted 38 = some (.iload 4, 2, 4, 0, 0, 0) := rfl
theorem fX1_canBeAsWanted_40 : fetch tX1_canBeAsWanted 40 = some (.iload_n 3, 1, 3, 0, 0, 0) := rfl
theorem fX1_canBeAsWanted_41 : fetch tX1_canBeAsWanted 41 = some (.if_icmp .le 10, 3, 51, 0, 0, 0) := rfl
theorem fX1_canBeAsWanted_44 : fetch tX1_canBeAsWanted 44 = some (.iload_n 1, 1, 1, 0, 0, 0) := rfl
theorem fX1_canBeAsWanted_45 : fetch tX1_canBeAsWanted 45 = some (.iload_n 3, 1, 3, 0, 0, 0) := rfl
theorem fX1_canBeAsWanted_46 : fetch tX1_canBeAsWanted 46 = some (.if_icmp .le 5, 3, 51, 0, 0, 0) := rfl
theorem fX1_canBeAsWanted_49 : fetch tX1_canBeAsWanted 49 = some (.iconst 0, 1, 0, 0, 0, 0) := rfl
theorem fX1_canBeAsWanted_50 : fetch tX1_canBeAsWanted 50 = some (.ireturn, 1, 0, 0, 0, 0) := rfl
theorem fX1_canBeAsWanted_51 : fetch tX1_canBeAsWanted 51 = some (.iinc 2 1, 3, 2, 0, 1, 0) := rfl
theorem fX1_canBeAsWanted_54 : fetch tX1_canBeAsWanted 54 = some (.goto (-52), 3, 2, 0, 0, 0) := rfl
theorem fX1_canBeAsWanted_57 : fetch tX1_canBeAsWanted 57 = some (.iconst 1, 1, 0, 0, 1, 0) := rfl
theorem fX1_canBeAsWanted_58 : fetch tX1_canBeAsWanted 58 = some (.ireturn, 1, 0, 0, 0, 0) := rfl
def tX1_search : List (Nat × TE) := [(0, .aload_n 0, 1, 0, 0, 0, 0), (1, .lconst 0, 1, 0, 0, 0, 0), (2, .putfield 18, 3, 1, 2, 0, 0), (5, .aload_n 0, 1, 0, 0, 0, 0), (6, .lconst 0, 1, 0, 0, 0, 0), (7, .putfield 22, 3, 1, 3, 0, 0), (10, .aload_n 0, 1, 0, 0, 0, 0), (11, .lconst 0, 1, 0, 0, 0, 0), (12, .putfield 25, 3, 1, 4, 0, 0), (15, .aload_n 0, 1, 0, 0, 0, 0), (16, .iconst (-1), 1, 0, 0, (-1), 0), (17, .putfield 28, 3, 1, 5, 0, 0), (20, .aload_n 0, 1, 0, 0, 0, 0), (21, .iload_n 3, 1, 3, 0, 0, 0), (22, .putfield 36, 3, 1, 7, 0, 0), (25, .iconst 0, 1, 0, 0, 0, 0), (26, .istore 4, 2, 4, 0, 0, 0), (28, .iload 4, 2, 4, 0, 0, 0), (30, .bipush 8, 2, 0, 0, 8, 0), (32, .if_icmp .ge 17, 3, 49, 0, 0, 0), (35, .aload_n 0, 1, 0, 0, 0, 0), (36, .getfield 32, 3, 1, 6, 0, 0), (39, .iload 4, 2, 4, 0, 0, 0), (41, .lconst 0, 1, 0, 0, 0, 0), (42, .lastore, 1, 0, 0, 0, 0), (43, .iinc 4 1, 3, 4, 0, 1, 0), (46, .goto (-18), 3, 28, 0, 0, 0), (49, .aload_n 0, 1, 0, 0, 0, 0), (50, .iload_n 2, 1, 2, 0, 0, 0), (51, .invokevirtual 52, 3, 0, 1, 0, 0), (54, .aload_n 0, 1, 0, 0, 0, 0), (55, .aload_n 1, 1, 1, 0, 0, 0), (56, .iconst 0, 1, 0, 0, 0, 0), (57, .iconst 0, 1, 0, 0, 0, 0), (58, .iconst 0, 1, 0, 0, 0, 0), (59, .lconst 1, 1, 0, 0, 0, 1), (60, .invokestatic 78, 3, 1, 1, 0, 0), (63, .return_, 1, 0, 0, 0, 0)]
theorem tkX1_search : tOk cX1_search "RumourSource$Spread" 5 tX1_search = true := by decide +kernel
theorem fX1_search_0 : fetch tX1_search 0 = some (.aload_n 0, 1, 0, 0, 0, 0) := rfl
theorem fX1_search_1 : fetch tX1_search 1 = some (.lconst 0, 1, 0, 0, 0, 0) := rfl
theorem fX1_search_2 : fetch tX1_search 2 = some (.putfield 18, 3, 1, 2, 0, 0) := rfl
theorem fX1_search_5 : fetch tX1_search 5 = some (.aload_n 0, 1, 0, 0, 0, 0) := rfl
theorem fX1_search_6 : fetch tX1_search 6 = some (.lconst 0, 1, 0, 0, 0, 0) := rfl
theorem fX1_search_7 : fetch tX1_search 7 = some (.putfield 22, 3, 1, 3, 0, 0) := rfl
theorem fX1_search_10 : fetch tX1_search 10 = some (.aload_n 0, 1, 0, 0, 0, 0) := rfl
theorem fX1_search_11 : fetch tX1_search 11 = some (.lconst 0, 1, 0, 0, 0, 0) := rfl
theorem fX1_search_12 : fetch tX1_search 12 = some (.putfield 25, 3, 1, 4, 0, 0) := rfl
theorem fX1_search_15 : fetch tX1_search 15 = some (.aload_n 0, 1, 0, 0, 0, 0) := rfl
theorem fX1_search_16 : fetch tX1_search 16 = some (.iconst (-1), 1, 0, 0, (-1), 0) := rfl
theorem fX1_search_17 : fetch tX1_search 17 = some (.putfield 28, 3, 1, 5, 0, 0) := rfl
theorem fX1_search_20 : fetch tX1_search 20 = some (.aload_n 0, 1, 0, 0, 0, 0) := rfl
theorem fX1_search_21 : fetch tX1_search 21 = some (.iload_n 3, 1, 3, 0, 0, 0) := rfl
theorem fX1_search_22 : fetch tX1_search 22 = some (.putfield 36, 3, 1, 7, 0, 0) := rfl
theorem fX1_search_25 : fetch tX1_search 25 = some (.iconst 0, 1, 0, 0, 0, 0) := rfl
theorem fX1_search_26 : fetch tX1_search 26 = some (.istore 4, 2, 4, 0, 0, 0) := rfl
theorem fX1_search_28 : fetch tX1_search 28 = some (.iload 4, 2, 4, 0, 0, 0) := rfl
theorem fX1_search_30 : fetch tX1_search 30 = some (.bipush 8, 2, 0, 0, 8, 0) := rfl
theorem fX1_search_32 : fetch tX1_search 32 = some (.if_icmp .ge 17, 3, 49, 0, 0, 0) := rfl
theorem fX1_search_35 : fetch tX1_search 35 = some (.aload_n 0, 1, 0, 0, 0, 0) := rfl
theorem fX1_search_36 : fetch tX1_search 36 = some (.getfield 32, 3, 1, 6, 0, 0) := rfl
theorem fX1_search_39 : fetch tX1_search 39 = some (.iload 4, 2, 4, 0, 0, 0) := rfl
theorem fX1_search_41 : fetch tX1_search 41 = some (.lconst 0, 1, 0, 0, 0, 0) := rfl
theorem fX1_search_42 : fetch tX1_search 42 = some (.lastore, 1, 0, 0, 0, 0) := rfl
theorem fX1_search_43 : fetch tX1_search 43 = some (.iinc 4 1, 3, 4, 0, 1, 0) := rfl
theorem fX1_search_46 : fetch tX1_search 46 = some (.goto (-18), 3, 28, 0, 0, 0) := rfl
theorem fX1_search_49 : fetch tX1_search 49 = some (.aload_n 0, 1, 0, 0, 0, 0) := rfl
theorem fX1_search_50 : fetch tX1_search 50 = some (.iload_n 2, 1, 2, 0, 0, 0) := rfl
theorem fX1_search_51 : fetch tX1_search 51 = some (.invokevirtual 52, 3, 0, 1, 0, 0) := rfl
theorem fX1_search_54 : fetch tX1_search 54 = some (.aload_n 0, 1, 0, 0, 0, 0) := rfl
theorem fX1_search_55 : fetch tX1_search 55 = some (.aload_n 1, 1, 1, 0, 0, 0) := rfl
theorem fX1_search_56 : fetch tX1_search 56 = some (.iconst 0, 1, 0, 0, 0, 0) := rfl
theorem fX1_search_57 : fetch tX1_search 57 = some (.iconst 0, 1, 0, 0, 0, 0) := rfl
theorem fX1_search_58 : fetch tX1_search 58 = some (.iconst 0, 1, 0, 0, 0, 0) := rfl
theorem fX1_search_59 : fetch tX1_search 59 = some (.lconst 1, 1, 0, 0, 0, 1) := rfl
theorem fX1_search_60 : fetch tX1_search 60 = some (.invokestatic 78, 3, 1, 1, 0, 0) := rfl
theorem fX1_search_63 : fetch tX1_search 63 = some (.return_, 1, 0, 0, 0, 0) := rfl
def tX1_decide : List (Nat × TE) := [(0, .iload_n 2, 1, 2, 0, 0, 0), (1, .bipush 12, 2, 0, 0, 12, 0), (3, .if_icmp .gt 19, 3, 22, 0, 0, 0), (6, .aload_n 0, 1, 0, 0, 0, 0), (7, .getfield 36, 3, 1, 7, 0, 0), (10, .ifCond .eq 13, 3, 23, 0, 0, 0), (13, .aload_n 0, 1, 0, 0, 0, 0), (14, .getfield 18, 3, 1, 2, 0, 0), (17, .lconst 0, 1, 0, 0, 0, 0), (18, .lcmp, 1, 0, 0, 0, 0), (19, .ifCond .le 4, 3, 23, 0, 0, 0), (22, .return_, 1, 0, 0, 0, 0), (23, .aload_n 0, 1, 0, 0, 0, 0), (24, .aload_n 1, 1, 1, 0, 0, 0), (25, .iload_n 3, 1, 3, 0, 0, 0), (26, .invokevirtual 82, 3, 0, 1, 0, 0), (29, .istore 7, 2, 7, 0, 0, 0), (31, .iload 7, 2, 7, 0, 0, 0), (33, .iconst (-1), 1, 0, 0, (-1), 0), (34, .if_icmp .ne 8, 3, 42, 0, 0, 0), (37, .bipush 31, 2, 0, 0, 31, 0), (39, .goto 10, 3, 49, 0, 0, 0), (42, .aload_n 0, 1, 0, 0, 0, 0), (43, .aload_n 1, 1, 1, 0, 0, 0), (44, .iload 7, 2, 7, 0, 0, 0), (46, .invokevirtual 62, 3, 1, 1, 0, 0), (49, .istore 8, 2, 8, 0, 0, 0), (51, .aload_n 0, 1, 0, 0, 0, 0), (52, .iload 8, 2, 8, 0, 0, 0), (54, .invokevirtual 75, 3, 2, 1, 0, 0), (57, .ifCond .ne 4, 3, 61, 0, 0, 0), (60, .return_, 1, 0, 0, 0, 0), (61, .iload 7, 2, 7, 0, 0, 0), (63, .iconst (-1), 1, 0, 0, (-1), 0), (64, .if_icmp .ne 14, 3, 78, 0, 0, 0), (67, .aload_n 0, 1, 0, 0, 0, 0), (68, .aload_n 1, 1, 1, 0, 0, 0), (69, .iload_n 3, 1, 3, 0, 0, 0), (70, .iload 4, 2, 4, 0, 0, 0), (72, .lload 5, 2, 5, 0, 0, 0), (74, .invokevirtual 85, 3, 3, 1, 0, 0), (77, .return_, 1, 0, 0, 0, 0), (78, .aload_n 1, 1, 1, 0, 0, 0), (79, .getfield 59, 3, 0, 1, 0, 0), (82, .iload 7, 2, 7, 0, 0, 0), (84, .iaload, 1, 0, 0, 0, 0), (85, .istore 9, 2, 9, 0, 0, 0), (87, .aload_n 1, 1, 1, 0, 0, 0), (88, .getfield 89, 3, 0, 2, 0, 0), (91, .iload 7, 2, 7, 0, 0, 0), (93, .iaload, 1, 0, 0, 0, 0), (94, .istore 10, 2, 10, 0, 0, 0), (96, .iload_n 3, 1, 3, 0, 0, 0), (97, .iconst 1, 1, 0, 0, 1, 0), (98, .iload 7, 2, 7, 0, 0, 0), (100, .ishl, 1, 0, 0, 0, 0), (101, .ior, 1, 0, 0, 0, 0), (102, .istore 11, 2, 11, 0, 0, 0), (104, .iload 10, 2, 10, 0, 0, 0), (106, .ifCond .le 52, 3, 158, 0, 0, 0), (109, .iload 9, 2, 9, 0, 0, 0), (111, .invokestatic 43, 3, 4, 3, 0, 0), (114, .ifCond .eq 44, 3, 158, 0, 0, 0), (117, .aload_n 0, 1, 0, 0, 0, 0), (118, .getfield 9, 3, 1, 0, 0, 0), (121, .iload 9, 2, 9, 0, 0, 0), (123, .iload 8, 2, 8, 0, 0, 0), (125, .iastore, 1, 0, 0, 0, 0), (126, .aload_n 0, 1, 0, 0, 0, 0), (127, .aload_n 1, 1, 1, 0, 0, 0), (128, .iload_n 2, 1, 2, 0, 0, 0), (129, .iconst 1, 1, 0, 0, 1, 0), (130, .iadd, 1, 0, 0, 0, 0), (131, .iload 11, 2, 11, 0, 0, 0), (133, .iload 4, 2, 4, 0, 0, 0), (135, .iconst 1, 1, 0, 0, 1, 0), (136, .iload 7, 2, 7, 0, 0, 0), (138, .ishl, 1, 0, 0, 0, 0), (139, .ior, 1, 0, 0, 0, 0), (140, .lload 5, 2, 5, 0, 0, 0), (142, .iload 10, 2, 10, 0, 0, 0), (144, .i2l, 1, 0, 0, 0, 0), (145, .lmul, 1, 0, 0, 0, 0), (146, .invokestatic 78, 3, 5, 1, 0, 0), (149, .aload_n 0, 1, 0, 0, 0, 0), (150, .getfield 9, 3, 1, 0, 0, 0), (153, .iload 9, 2, 9, 0, 0, 0), (155, .bipush 31, 2, 0, 0, 31, 0), (157, .iastore, 1, 0, 0, 0, 0), (158, .iload 10, 2, 10, 0, 0, 0), (160, .bipush 10, 2, 0, 0, 10, 0), (162, .if_icmp .ge 24, 3, 186, 0, 0, 0), (165, .aload_n 0, 1, 0, 0, 0, 0), (166, .aload_n 1, 1, 1, 0, 0, 0), (167, .iload_n 2, 1, 2, 0, 0, 0), (168, .iconst 1, 1, 0, 0, 1, 0), (169, .iadd, 1, 0, 0, 0, 0), (170, .iload 11, 2, 11, 0, 0, 0), (172, .iload 4, 2, 4, 0, 0, 0), (174, .lload 5, 2, 5, 0, 0, 0), (176, .bipush 10, 2, 0, 0, 10, 0), (178, .iload 10, 2, 10, 0, 0, 0), (180, .isub, 1, 0, 0, 0, 0), (181, .i2l, 1, 0, 0, 0, 0), (182, .lmul, 1, 0, 0, 0, 0), (183, .invokestatic 78, 3, 5, 1, 0, 0), (186, .return_, 1, 0, 0, 0, 0)]
theorem tkX1_decide : tOk cX1_decide "RumourSource$Spread" 12 tX1_decide = true := by decide +kernel
theorem fX1_decide_0 : fetch tX1_decide 0 = some (.iload_n 2, 1, 2, 0, 0, 0) := rfl
theorem fX1_decide_1 : fetch tX1_decide 1 = some (.bipush 12, 2, 0, 0, 12, 0) := rfl
theorem fX1_decide_3 : fetch tX1_decide 3 = some (.if_icmp .gt 19, 3, 22, 0, 0, 0) := rfl
theorem fX1_decide_6 : fetch tX1_decide 6 = some (.aload_n 0, 1, 0, 0, 0, 0) := rfl
theorem fX1_decide_7 : fetch tX1_decide 7 = some (.getfield 36, 3, 1, 7, 0, 0) := rfl
theorem fX1_decide_10 : fetch tX1_decide 10 = some (.ifCond .eq 13, 3, 23, 0, 0, 0) := rfl
theorem fX1_decide_13 : fetch tX1_decide 13 = some (.aload_n 0, 1, 0, 0, 0, 0) := rfl
theorem fX1_decide_14 : fetch tX1_decide 14 = some (.getfield 18, 3, 1, 2, 0, 0) := rfl
theorem fX1_decide_17 : fetch tX1_decide 17 = some (.lconst 0, 1, 0, 0, 0, 0) := rfl
theorem fX1_decide_18 : fetch tX1_decide 18 = some (.lcmp, 1, 0, 0, 0, 0) := rfl
theorem fX1_decide_19 : fetch tX1_decide 19 = some (.ifCond .le 4, 3, 23, 0, 0, 0) := rfl
theorem fX1_decide_22 : fetch tX1_decide 22 = some (.return_, 1, 0, 0, 0, 0) := rfl
theorem fX1_decide_23 : fetch tX1_decide 23 = some (.aload_n 0, 1, 0, 0, 0, 0) := rfl
theorem fX1_decide_24 : fetch tX1_decide 24 = some (.aload_n 1, 1, 1, 0, 0, 0) := rfl
theorem fX1_decide_25 : fetch tX1_decide 25 = some (.iload_n 3, 1, 3, 0, 0, 0) := rfl
theorem fX1_decide_26 : fetch tX1_decide 26 = some (.invokevirtual 82, 3, 0, 1, 0, 0) := rfl
theorem fX1_decide_29 : fetch tX1_decide 29 = some (.istore 7, 2, 7, 0, 0, 0) := rfl
theorem fX1_decide_31 : fetch tX1_decide 31 = some (.iload 7, 2, 7, 0, 0, 0) := rfl
theorem fX1_decide_33 : fetch tX1_decide 33 = some (.iconst (-1), 1, 0, 0, (-1), 0) := rfl
theorem fX1_decide_34 : fetch tX1_decide 34 = some (.if_icmp .ne 8, 3, 42, 0, 0, 0) := rfl
theorem fX1_decide_37 : fetch tX1_decide 37 = some (.bipush 31, 2, 0, 0, 31, 0) := rfl
theorem fX1_decide_39 : fetch tX1_decide 39 = some (.goto 10, 3, 49, 0, 0, 0) := rfl
theorem fX1_decide_42 : fetch tX1_decide 42 = some (.aload_n 0, 1, 0, 0, 0, 0) := rfl
theorem fX1_decide_43 : fetch tX1_decide 43 = some (.aload_n 1, 1, 1, 0, 0, 0) := rfl
theorem fX1_decide_44 : fetch tX1_decide 44 = some (.iload 7, 2, 7, 0, 0, 0) := rfl
theorem fX1_decide_46 : fetch tX1_decide 46 = some (.invokevirtual 62, 3, 1, 1, 0, 0) := rfl
theorem fX1_decide_49 : fetch tX1_decide 49 = some (.istore 8, 2, 8, 0, 0, 0) := rfl
theorem fX1_decide_51 : fetch tX1_decide 51 = some (.aload_n 0, 1, 0, 0, 0, 0) := rfl
theorem fX1_decide_52 : fetch tX1_decide 52 = some (.iload 8, 2, 8, 0, 0, 0) := rfl
theorem fX1_decide_54 : fetch tX1_decide 54 = some (.invokevirtual 75, 3, 2, 1, 0, 0) := rfl
theorem fX1_decide_57 : fetch tX1_decide 57 = some (.ifCond .ne 4, 3, 61, 0, 0, 0) := rfl
theorem fX1_decide_60 : fetch tX1_decide 60 = some (.return_, 1, 0, 0, 0, 0) := rfl
theorem fX1_decide_61 : fetch tX1_decide 61 = some (.iload 7, 2, 7, 0, 0, 0) := rfl
theorem fX1_decide_63 : fetch tX1_decide 63 = some (.iconst (-1), 1, 0, 0, (-1), 0) := rfl
theorem fX1_decide_64 : fetch tX1_decide 64 = some (.if_icmp .ne 14, 3, 78, 0, 0, 0) := rfl
theorem fX1_decide_67 : fetch tX1_decide 67 = some (.aload_n 0, 1, 0, 0, 0, 0) := rfl
theorem fX1_decide_68 : fetch tX1_decide 68 = some (.aload_n 1, 1, 1, 0, 0, 0) := rfl
theorem fX1_decide_69 : fetch tX1_decide 69 = some (.iload_n 3, 1, 3, 0, 0, 0) := rfl
theorem fX1_decide_70 : fetch tX1_decide 70 = some (.iload 4, 2, 4, 0, 0, 0) := rfl
theorem fX1_decide_72 : fetch tX1_decide 72 = some (.lload 5, 2, 5, 0, 0, 0) := rfl
theorem fX1_decide_74 : fetch tX1_decide 74 = some (.invokevirtual 85, 3, 3, 1, 0, 0) := rfl
theorem fX1_decide_77 : fetch tX1_decide 77 = some (.return_, 1, 0, 0, 0, 0) := rfl
theorem fX1_decide_78 : fetch tX1_decide 78 = some (.aload_n 1, 1, 1, 0, 0, 0) := rfl
theorem fX1_decide_79 : fetch tX1_decide 79 = some (.getfield 59, 3, 0, 1, 0, 0) := rfl
theorem fX1_decide_82 : fetch tX1_decide 82 = some (.iload 7, 2, 7, 0, 0, 0) := rfl
theorem fX1_decide_84 : fetch tX1_decide 84 = some (.iaload, 1, 0, 0, 0, 0) := rfl
theorem fX1_decide_85 : fetch tX1_decide 85 = some (.istore 9, 2, 9, 0, 0, 0) := rfl
theorem fX1_decide_87 : fetch tX1_decide 87 = some (.aload_n 1, 1, 1, 0, 0, 0) := rfl
theorem fX1_decide_88 : fetch tX1_decide 88 = some (.getfield 89, 3, 0, 2, 0, 0) := rfl
theorem fX1_decide_91 : fetch tX1_decide 91 = some (.iload 7, 2, 7, 0, 0, 0) := rfl
theorem fX1_decide_93 : fetch tX1_decide 93 = some (.iaload, 1, 0, 0, 0, 0) := rfl
theorem fX1_decide_94 : fetch tX1_decide 94 = some (.istore 10, 2, 10, 0, 0, 0) := rfl
theorem fX1_decide_96 : fetch tX1_decide 96 = some (.iload_n 3, 1, 3, 0, 0, 0) := rfl
theorem fX1_decide_97 : fetch tX1_decide 97 = some (.iconst 1, 1, 0, 0, 1, 0) := rfl
theorem fX1_decide_98 : fetch tX1_decide 98 = some (.iload 7, 2, 7, 0, 0, 0) := rfl
theorem fX1_decide_100 : fetch tX1_decide 100 = some (.ishl, 1, 0, 0, 0, 0) := rfl
theorem fX1_decide_101 : fetch tX1_decide 101 = some (.ior, 1, 0, 0, 0, 0) := rfl
theorem fX1_decide_102 : fetch tX1_decide 102 = some (.istore 11, 2, 11, 0, 0, 0) := rfl
theorem fX1_decide_104 : fetch tX1_decide 104 = some (.iload 10, 2, 10, 0, 0, 0) := rfl
theorem fX1_decide_106 : fetch tX1_decide 106 = some (.ifCond .le 52, 3, 158, 0, 0, 0) := rfl
theorem fX1_decide_109 : fetch tX1_decide 109 = some (.iload 9, 2, 9, 0, 0, 0) := rfl
theorem fX1_decide_111 : fetch tX1_decide 111 = some (.invokestatic 43, 3, 4, 3, 0, 0) := rfl
theorem fX1_decide_114 : fetch tX1_decide 114 = some (.ifCond .eq 44, 3, 158, 0, 0, 0) := rfl
theorem fX1_decide_117 : fetch tX1_decide 117 = some (.aload_n 0, 1, 0, 0, 0, 0) := rfl
theorem fX1_decide_118 : fetch tX1_decide 118 = some (.getfield 9, 3, 1, 0, 0, 0) := rfl
theorem fX1_decide_121 : fetch tX1_decide 121 = some (.iload 9, 2, 9, 0, 0, 0) := rfl
theorem fX1_decide_123 : fetch tX1_decide 123 = some (.iload 8, 2, 8, 0, 0, 0) := rfl
theorem fX1_decide_125 : fetch tX1_decide 125 = some (.iastore, 1, 0, 0, 0, 0) := rfl
theorem fX1_decide_126 : fetch tX1_decide 126 = some (.aload_n 0, 1, 0, 0, 0, 0) := rfl
theorem fX1_decide_127 : fetch tX1_decide 127 = some (.aload_n 1, 1, 1, 0, 0, 0) := rfl
theorem fX1_decide_128 : fetch tX1_decide 128 = some (.iload_n 2, 1, 2, 0, 0, 0) := rfl
theorem fX1_decide_129 : fetch tX1_decide 129 = some (.iconst 1, 1, 0, 0, 1, 0) := rfl
theorem fX1_decide_130 : fetch tX1_decide 130 = some (.iadd, 1, 0, 0, 0, 0) := rfl
theorem fX1_decide_131 : fetch tX1_decide 131 = some (.iload 11, 2, 11, 0, 0, 0) := rfl
theorem fX1_decide_133 : fetch tX1_decide 133 = some (.iload 4, 2, 4, 0, 0, 0) := rfl
theorem fX1_decide_135 : fetch tX1_decide 135 = some (.iconst 1, 1, 0, 0, 1, 0) := rfl
theorem fX1_decide_136 : fetch tX1_decide 136 = some (.iload 7, 2, 7, 0, 0, 0) := rfl
theorem fX1_decide_138 : fetch tX1_decide 138 = some (.ishl, 1, 0, 0, 0, 0) := rfl
theorem fX1_decide_139 : fetch tX1_decide 139 = some (.ior, 1, 0, 0, 0, 0) := rfl
theorem fX1_decide_140 : fetch tX1_decide 140 = some (.lload 5, 2, 5, 0, 0, 0) := rfl
theorem fX1_decide_142 : fetch tX1_decide 142 = some (.iload 10, 2, 10, 0, 0, 0) := rfl
theorem fX1_decide_144 : fetch tX1_decide 144 = some (.i2l, 1, 0, 0, 0, 0) := rfl
theorem fX1_decide_145 : fetch tX1_decide 145 = some (.lmul, 1, 0, 0, 0, 0) := rfl
theorem fX1_decide_146 : fetch tX1_decide 146 = some (.invokestatic 78, 3, 5, 1, 0, 0) := rfl
theorem fX1_decide_149 : fetch tX1_decide 149 = some (.aload_n 0, 1, 0, 0, 0, 0) := rfl
theorem fX1_decide_150 : fetch tX1_decide 150 = some (.getfield 9, 3, 1, 0, 0, 0) := rfl
theorem fX1_decide_153 : fetch tX1_decide 153 = some (.iload 9, 2, 9, 0, 0, 0) := rfl
theorem fX1_decide_155 : fetch tX1_decide 155 = some (.bipush 31, 2, 0, 0, 31, 0) := rfl
theorem fX1_decide_157 : fetch tX1_decide 157 = some (.iastore, 1, 0, 0, 0, 0) := rfl
theorem fX1_decide_158 : fetch tX1_decide 158 = some (.iload 10, 2, 10, 0, 0, 0) := rfl
theorem fX1_decide_160 : fetch tX1_decide 160 = some (.bipush 10, 2, 0, 0, 10, 0) := rfl
theorem fX1_decide_162 : fetch tX1_decide 162 = some (.if_icmp .ge 24, 3, 186, 0, 0, 0) := rfl
theorem fX1_decide_165 : fetch tX1_decide 165 = some (.aload_n 0, 1, 0, 0, 0, 0) := rfl
theorem fX1_decide_166 : fetch tX1_decide 166 = some (.aload_n 1, 1, 1, 0, 0, 0) := rfl
theorem fX1_decide_167 : fetch tX1_decide 167 = some (.iload_n 2, 1, 2, 0, 0, 0) := rfl
theorem fX1_decide_168 : fetch tX1_decide 168 = some (.iconst 1, 1, 0, 0, 1, 0) := rfl
theorem fX1_decide_169 : fetch tX1_decide 169 = some (.iadd, 1, 0, 0, 0, 0) := rfl
theorem fX1_decide_170 : fetch tX1_decide 170 = some (.iload 11, 2, 11, 0, 0, 0) := rfl
theorem fX1_decide_172 : fetch tX1_decide 172 = some (.iload 4, 2, 4, 0, 0, 0) := rfl
theorem fX1_decide_174 : fetch tX1_decide 174 = some (.lload 5, 2, 5, 0, 0, 0) := rfl
theorem fX1_decide_176 : fetch tX1_decide 176 = some (.bipush 10, 2, 0, 0, 10, 0) := rfl
theorem fX1_decide_178 : fetch tX1_decide 178 = some (.iload 10, 2, 10, 0, 0, 0) := rfl
theorem fX1_decide_180 : fetch tX1_decide 180 = some (.isub, 1, 0, 0, 0, 0) := rfl
theorem fX1_decide_181 : fetch tX1_decide 181 = some (.i2l, 1, 0, 0, 0, 0) := rfl
theorem fX1_decide_182 : fetch tX1_decide 182 = some (.lmul, 1, 0, 0, 0, 0) := rfl
theorem fX1_decide_183 : fetch tX1_decide 183 = some (.invokestatic 78, 3, 5, 1, 0, 0) := rfl
theorem fX1_decide_186 : fetch tX1_decide 186 = some (.return_, 1, 0, 0, 0, 0) := rfl
def tX1_nextEdge : List (Nat × TE) := [(0, .iconst (-1), 1, 0, 0, (-1), 0), (1, .istore_n 3, 1, 3, 0, 0, 0), (2, .bipush 31, 2, 0, 0, 31, 0), (4, .istore 4, 2, 4, 0, 0, 0), (6, .iconst 0, 1, 0, 0, 0, 0), (7, .istore 5, 2, 5, 0, 0, 0), (9, .iload 5, 2, 5, 0, 0, 0), (11, .aload_n 1, 1, 1, 0, 0, 0), (12, .getfield 56, 3, 0, 4, 0, 0), (15, .if_icmp .ge 85, 3, 100, 0, 0, 0), (18, .aload_n 1, 1, 1, 0, 0, 0), (19, .getfield 59, 3, 0, 1, 0, 0), (22, .iload 5, 2, 5, 0, 0, 0), (24, .iaload, 1, 0, 0, 0, 0), (25, .istore 6, 2, 6, 0, 0, 0), (27, .iload_n 2, 1, 2, 0, 0, 0), (28, .iload 5, 2, 5, 0, 0, 0), (30, .ishr, 1, 0, 0, 0, 0), (31, .iconst 1, 1, 0, 0, 1, 0), (32, .iand, 1, 0, 0, 0, 0), (33, .ifCond .ne 7, 3, 40, 0, 0, 0), (36, .iconst 1, 1, 0, 0, 1, 0), (37, .goto 4, 3, 41, 0, 0, 0), (40, .iconst 0, 1, 0, 0, 0, 0), (41, .istore 7, 2, 7, 0, 0, 0), (43, .iload 7, 2, 7, 0, 0, 0), (45, .ifCond .eq 49, 3, 94, 0, 0, 0), (48, .iload 6, 2, 6, 0, 0, 0), (50, .invokestatic 43, 3, 0, 3, 0, 0), (53, .ifCond .eq 41, 3, 94, 0, 0, 0), (56, .aload_n 0, 1, 0, 0, 0, 0), (57, .getfield 9, 3, 1, 0, 0, 0), (60, .iload 6, 2, 6, 0, 0, 0), (62, .iaload, 1, 0, 0, 0, 0), (63, .bipush 31, 2, 0, 0, 31, 0), (65, .if_icmp .eq 6, 3, 71, 0, 0, 0), (68, .goto 26, 3, 94, 0, 0, 0), (71, .aload_n 0, 1, 0, 0, 0, 0), (72, .aload_n 1, 1, 1, 0, 0, 0), (73, .iload 5, 2, 5, 0, 0, 0), (75, .invokevirtual 62, 3, 1, 1, 0, 0), (78, .istore 8, 2, 8, 0, 0, 0), (80, .iload 8, 2, 8, 0, 0, 0), (82, .iload 4, 2, 4, 0, 0, 0), (84, .if_icmp .ge 10, 3, 94, 0, 0, 0), (87, .iload 8, 2, 8, 0, 0, 0), (89, .istore 4, 2, 4, 0, 0, 0), (91, .iload 5, 2, 5, 0, 0, 0), (93, .istore_n 3, 1, 3, 0, 0, 0), (94, .iinc 5 1, 3, 5, 0, 1, 0), (97, .goto (-88), 3, 9, 0, 0, 0), (100, .iload_n 3, 1, 3, 0, 0, 0), (101, .ireturn, 1, 0, 0, 0, 0)]
theorem tkX1_nextEdge : tOk cX1_nextEdge "RumourSource$Spread" 9 tX1_nextEdge = true := by decide +kernel
theorem fX1_nextEdge_0 : fetch tX1_nextEdge 0 = some (.iconst (-1), 1, 0, 0, (-1), 0) := rfl
theorem fX1_nextEdge_1 : fetch tX1_nextEdge 1 = some (.istore_n 3, 1, 3, 0, 0, 0) := rfl
theorem fX1_nextEdge_2 : fetch tX1_nextEdge 2 = some (.bipush 31, 2, 0, 0, 31, 0) := rfl
theorem fX1_nextEdge_4 : fetch tX1_nextEdge 4 = some (.istore 4, 2, 4, 0, 0, 0) := rfl
theorem fX1_nextEdge_6 : fetch tX1_nextEdge 6 = some (.iconst 0, 1, 0, 0, 0, 0) := rfl
theorem fX1_nextEdge_7 : fetch tX1_nextEdge 7 = some (.istore 5, 2, 5, 0, 0, 0) := rfl
theorem fX1_nextEdge_9 : fetch tX1_nextEdge 9 = some (.iload 5, 2, 5, 0, 0, 0) := rfl
theorem fX1_nextEdge_11 : fetch tX1_nextEdge 11 = some (.aload_n 1, 1, 1, 0, 0, 0) := rfl
theorem fX1_nextEdge_12 : fetch tX1_nextEdge 12 = some (.getfield 56, 3, 0, 4, 0, 0) := rfl
theorem fX1_nextEdge_15 : fetch tX1_nextEdge 15 = some (.if_icmp .ge 85, 3, 100, 0, 0, 0) := rfl
theorem fX1_nextEdge_18 : fetch tX1_nextEdge 18 = some (.aload_n 1, 1, 1, 0, 0, 0) := rfl
theorem fX1_nextEdge_19 : fetch tX1_nextEdge 19 = some (.getfield 59, 3, 0, 1, 0, 0) := rfl
theorem fX1_nextEdge_22 : fetch tX1_nextEdge 22 = some (.iload 5, 2, 5, 0, 0, 0) := rfl
theorem fX1_nextEdge_24 : fetch tX1_nextEdge 24 = some (.iaload, 1, 0, 0, 0, 0) := rfl
theorem fX1_nextEdge_25 : fetch tX1_nextEdge 25 = some (.istore 6, 2, 6, 0, 0, 0) := rfl
theorem fX1_nextEdge_27 : fetch tX1_nextEdge 27 = some (.iload_n 2, 1, 2, 0, 0, 0) := rfl
theorem fX1_nextEdge_28 : fetch tX1_nextEdge 28 = some (.iload 5, 2, 5, 0, 0, 0) := rfl
theorem fX1_nextEdge_30 : fetch tX1_nextEdge 30 = some (.ishr, 1, 0, 0, 0, 0) := rfl
theorem fX1_nextEdge_31 : fetch tX1_nextEdge 31 = some (.iconst 1, 1, 0, 0, 1, 0) := rfl
theorem fX1_nextEdge_32 : fetch tX1_nextEdge 32 = some (.iand, 1, 0, 0, 0, 0) := rfl
theorem fX1_nextEdge_33 : fetch tX1_nextEdge 33 = some (.ifCond .ne 7, 3, 40, 0, 0, 0) := rfl
theorem fX1_nextEdge_36 : fetch tX1_nextEdge 36 = some (.iconst 1, 1, 0, 0, 1, 0) := rfl
theorem fX1_nextEdge_37 : fetch tX1_nextEdge 37 = some (.goto 4, 3, 41, 0, 0, 0) := rfl
theorem fX1_nextEdge_40 : fetch tX1_nextEdge 40 = some (.iconst 0, 1, 0, 0, 0, 0) := rfl
theorem fX1_nextEdge_41 : fetch tX1_nextEdge 41 = some (.istore 7, 2, 7, 0, 0, 0) := rfl
theorem fX1_nextEdge_43 : fetch tX1_nextEdge 43 = some (.iload 7, 2, 7, 0, 0, 0) := rfl
theorem fX1_nextEdge_45 : fetch tX1_nextEdge 45 = some (.ifCond .eq 49, 3, 94, 0, 0, 0) := rfl
theorem fX1_nextEdge_48 : fetch tX1_nextEdge 48 = some (.iload 6, 2, 6, 0, 0, 0) := rfl
theorem fX1_nextEdge_50 : fetch tX1_nextEdge 50 = some (.invokestatic 43, 3, 0, 3, 0, 0) := rfl
theorem fX1_nextEdge_53 : fetch tX1_nextEdge 53 = some (.ifCond .eq 41, 3, 94, 0, 0, 0) := rfl
theorem fX1_nextEdge_56 : fetch tX1_nextEdge 56 = some (.aload_n 0, 1, 0, 0, 0, 0) := rfl
theorem fX1_nextEdge_57 : fetch tX1_nextEdge 57 = some (.getfield 9, 3, 1, 0, 0, 0) := rfl
theorem fX1_nextEdge_60 : fetch tX1_nextEdge 60 = some (.iload 6, 2, 6, 0, 0, 0) := rfl
theorem fX1_nextEdge_62 : fetch tX1_nextEdge 62 = some (.iaload, 1, 0, 0, 0, 0) := rfl
theorem fX1_nextEdge_63 : fetch tX1_nextEdge 63 = some (.bipush 31, 2, 0, 0, 31, 0) := rfl
theorem fX1_nextEdge_65 : fetch tX1_nextEdge 65 = some (.if_icmp .eq 6, 3, 71, 0, 0, 0) := rfl
theorem fX1_nextEdge_68 : fetch tX1_nextEdge 68 = some (.goto 26, 3, 94, 0, 0, 0) := rfl
theorem fX1_nextEdge_71 : fetch tX1_nextEdge 71 = some (.aload_n 0, 1, 0, 0, 0, 0) := rfl
theorem fX1_nextEdge_72 : fetch tX1_nextEdge 72 = some (.aload_n 1, 1, 1, 0, 0, 0) := rfl
theorem fX1_nextEdge_73 : fetch tX1_nextEdge 73 = some (.iload 5, 2, 5, 0, 0, 0) := rfl
theorem fX1_nextEdge_75 : fetch tX1_nextEdge 75 = some (.invokevirtual 62, 3, 1, 1, 0, 0) := rfl
theorem fX1_nextEdge_78 : fetch tX1_nextEdge 78 = some (.istore 8, 2, 8, 0, 0, 0) := rfl
theorem fX1_nextEdge_80 : fetch tX1_nextEdge 80 = some (.iload 8, 2, 8, 0, 0, 0) := rfl
theorem fX1_nextEdge_82 : fetch tX1_nextEdge 82 = some (.iload 4, 2, 4, 0, 0, 0) := rfl
theorem fX1_nextEdge_84 : fetch tX1_nextEdge 84 = some (.if_icmp .ge 10, 3, 94, 0, 0, 0) := rfl
theorem fX1_nextEdge_87 : fetch tX1_nextEdge 87 = some (.iload 8, 2, 8, 0, 0, 0) := rfl
theorem fX1_nextEdge_89 : fetch tX1_nextEdge 89 = some (.istore 4, 2, 4, 0, 0, 0) := rfl
theorem fX1_nextEdge_91 : fetch tX1_nextEdge 91 = some (.iload 5, 2, 5, 0, 0, 0) := rfl
theorem fX1_nextEdge_93 : fetch tX1_nextEdge 93 = some (.istore_n 3, 1, 3, 0, 0, 0) := rfl
theorem fX1_nextEdge_94 : fetch tX1_nextEdge 94 = some (.iinc 5 1, 3, 5, 0, 1, 0) := rfl
theorem fX1_nextEdge_97 : fetch tX1_nextEdge 97 = some (.goto (-88), 3, 9, 0, 0, 0) := rfl
theorem fX1_nextEdge_100 : fetch tX1_nextEdge 100 = some (.iload_n 3, 1, 3, 0, 0, 0) := rfl
theorem fX1_nextEdge_101 : fetch tX1_nextEdge 101 = some (.ireturn, 1, 0, 0, 0, 0) := rfl
def tX1_collect : List (Nat × TE) := [(0, .lload 4, 2, 4, 0, 0, 0), (2, .lstore 6, 2, 6, 0, 0, 0), (4, .lload 4, 2, 4, 0, 0, 0), (6, .lstore 8, 2, 8, 0, 0, 0), (8, .iload_n 3, 1, 3, 0, 0, 0), (9, .istore 10, 2, 10, 0, 0, 0), (11, .iconst 0, 1, 0, 0, 0, 0), (12, .istore 11, 2, 11, 0, 0, 0), (14, .iload 11, 2, 11, 0, 0, 0), (16, .aload_n 1, 1, 1, 0, 0, 0), (17, .getfield 56, 3, 0, 4, 0, 0), (20, .if_icmp .ge 96, 3, 116, 0, 0, 0), (23, .iload_n 2, 1, 2, 0, 0, 0), (24, .iload 11, 2, 11, 0, 0, 0), (26, .ishr, 1, 0, 0, 0, 0), (27, .iconst 1, 1, 0, 0, 1, 0), (28, .iand, 1, 0, 0, 0, 0), (29, .iconst 1, 1, 0, 0, 1, 0), (30, .if_icmp .ne 6, 3, 36, 0, 0, 0), (33, .goto 77, 3, 110, 0, 0, 0), (36, .aload_n 1, 1, 1, 0, 0, 0), (37, .getfield 89, 3, 0, 2, 0, 0), (40, .iload 11, 2, 11, 0, 0, 0), (42, .iaload, 1, 0, 0, 0, 0), (43, .istore 12, 2, 12, 0, 0, 0), (45, .iload 12, 2, 12, 0, 0, 0), (47, .bipush 10, 2, 0, 0, 10, 0), (49, .iload 12, 2, 12, 0, 0, 0), (51, .isub, 1, 0, 0, 0, 0), (52, .if_icmp .le 7, 3, 59, 0, 0, 0), (55, .iconst 1, 1, 0, 0, 1, 0), (56, .goto 4, 3, 60, 0, 0, 0), (59, .iconst 0, 1, 0, 0, 0, 0), (60, .istore 13, 2, 13, 0, 0, 0), (62, .lload 6, 2, 6, 0, 0, 0), (64, .ldc2_w 92, 3, 0, 0, 0, 10), (67, .lmul, 1, 0, 0, 0, 0), (68, .lstore 6, 2, 6, 0, 0, 0), (70, .lload 8, 2, 8, 0, 0, 0), (72, .iload 13, 2, 13, 0, 0, 0), (74, .ifCond .eq 9, 3, 83, 0, 0, 0), (77, .iload 12, 2, 12, 0, 0, 0), (79, .i2l, 1, 0, 0, 0, 0), (80, .goto 9, 3, 89, 0, 0, 0), (83, .bipush 10, 2, 0, 0, 10, 0), (85, .iload 12, 2, 12, 0, 0, 0), (87, .isub, 1, 0, 0, 0, 0), (88, .i2l, 1, 0, 0, 0, 0), (89, .lmul, 1, 0, 0, 0, 0), (90, .lstore 8, 2, 8, 0, 0, 0), (92, .iload 10, 2, 10, 0, 0, 0), (94, .iload 13, 2, 13, 0, 0, 0), (96, .ifCond .eq 10, 3, 106, 0, 0, 0), (99, .iconst 1, 1, 0, 0, 1, 0), (100, .iload 11, 2, 11, 0, 0, 0), (102, .ishl, 1, 0, 0, 0, 0), (103, .goto 4, 3, 107, 0, 0, 0), (106, .iconst 0, 1, 0, 0, 0, 0), (107, .ior, 1, 0, 0, 0, 0), (108, .istore 10, 2, 10, 0, 0, 0), (110, .iinc 11 1, 3, 11, 0, 1, 0), (113, .goto (-99), 3, 14, 0, 0, 0), (116, .aload_n 0, 1, 0, 0, 0, 0), (117, .dup, 1, 0, 0, 0, 0), (118, .getfield 18, 3, 1, 2, 0, 0), (121, .lload 6, 2, 6, 0, 0, 0), (123, .ladd, 1, 0, 0, 0, 0), (124, .putfield 18, 3, 1, 2, 0, 0), (127, .aload_n 0, 1, 0, 0, 0, 0), (128, .lload 8, 2, 8, 0, 0, 0), (130, .iload 10, 2, 10, 0, 0, 0), (132, .invokevirtual 94, 3, 0, 1, 0, 0), (135, .iconst 0, 1, 0, 0, 0, 0), (136, .istore 11, 2, 11, 0, 0, 0), (138, .iload 11, 2, 11, 0, 0, 0), (140, .bipush 8, 2, 0, 0, 8, 0), (142, .if_icmp .ge 55, 3, 197, 0, 0, 0), (145, .aload_n 0, 1, 0, 0, 0, 0), (146, .getfield 32, 3, 1, 6, 0, 0), (149, .iload 11, 2, 11, 0, 0, 0), (151, .dup2, 1, 0, 0, 0, 0), (152, .laload, 1, 0, 0, 0, 0), (153, .lconst 1, 1, 0, 0, 0, 1), (154, .aload_n 0, 1, 0, 0, 0, 0), (155, .getfield 9, 3, 1, 0, 0, 0), (158, .iload 11, 2, 11, 0, 0, 0), (160, .iaload, 1, 0, 0, 0, 0), (161, .lshl, 1, 0, 0, 0, 0), (162, .lor, 1, 0, 0, 0, 0), (163, .lastore, 1, 0, 0, 0, 0), (164, .aload_n 0, 1, 0, 0, 0, 0), (165, .dup, 1, 0, 0, 0, 0), (166, .getfield 22, 3, 1, 3, 0, 0), (169, .aload_n 0, 1, 0, 0, 0, 0), (170, .getfield 9, 3, 1, 0, 0, 0), (173, .iload 11, 2, 11, 0, 0, 0), (175, .iaload, 1, 0, 0, 0, 0), (176, .bipush 31, 2, 0, 0, 31, 0), (178, .if_icmp .ne 7, 3, 185, 0, 0, 0), (181, .lconst 0, 1, 0, 0, 0, 0), (182, .goto 5, 3, 187, 0, 0, 0), (185, .lload 6, 2, 6, 0, 0, 0), (187, .ladd, 1, 0, 0, 0, 0), (188, .putfield 22, 3, 1, 3, 0, 0), (191, .iinc 11 1, 3, 11, 0, 1, 0), (194, .goto (-56), 3, 138, 0, 0, 0), (197, .return_, 1, 0, 0, 0, 0)]
theorem tkX1_collect : tOk cX1_collect "RumourSource$Spread" 14 tX1_collect = true := by decide +kernel
theorem fX1_collect_0 : fetch tX1_collect 0 = some (.lload 4, 2, 4, 0, 0, 0) := rfl
theorem fX1_collect_2 : fetch tX1_collect 2 = some (.lstore 6, 2, 6, 0, 0, 0) := rfl
theorem fX1_collect_4 : fetch tX1_collect 4 = some (.lload 4, 2, 4, 0, 0, 0) := rfl
theorem fX1_collect_6 : fetch tX1_collect 6 = some (.lstore 8, 2, 8, 0, 0, 0) := rfl
theorem fX1_collect_8 : fetch tX1_collect 8 = some (.iload_n 3, 1, 3, 0, 0, 0) := rfl
theorem fX1_collect_9 : fetch tX1_collect 9 = some (.istore 10, 2, 10, 0, 0, 0) := rfl
theorem fX1_collect_11 : fetch tX1_collect 11 = some (.iconst 0, 1, 0, 0, 0, 0) := rfl
theorem fX1_collect_12 : fetch tX1_collect 12 = some (.istore 11, 2, 11, 0, 0, 0) := rfl
theorem fX1_collect_14 : fetch tX1_collect 14 = some (.iload 11, 2, 11, 0, 0, 0) := rfl
theorem fX1_collect_16 : fetch tX1_collect 16 = some (.aload_n 1, 1, 1, 0, 0, 0) := rfl
theorem fX1_collect_17 : fetch tX1_collect 17 = some (.getfield 56, 3, 0, 4, 0, 0) := rfl
theorem fX1_collect_20 : fetch tX1_collect 20 = some (.if_icmp .ge 96, 3, 116, 0, 0, 0) := rfl
theorem fX1_collect_23 : fetch tX1_collect 23 = some (.iload_n 2, 1, 2, 0, 0, 0) := rfl
theorem fX1_collect_24 : fetch tX1_collect 24 = some (.iload 11, 2, 11, 0, 0, 0) := rfl
theorem fX1_collect_26 : fetch tX1_collect 26 = some (.ishr, 1, 0, 0, 0, 0) := rfl
theorem fX1_collect_27 : fetch tX1_collect 27 = some (.iconst 1, 1, 0, 0, 1, 0) := rfl
theorem fX1_collect_28 : fetch tX1_collect 28 = some (.iand, 1, 0, 0, 0, 0) := rfl
theorem fX1_collect_29 : fetch tX1_collect 29 = some (.iconst 1, 1, 0, 0, 1, 0) := rfl
theorem fX1_collect_30 : fetch tX1_collect 30 = some (.if_icmp .ne 6, 3, 36, 0, 0, 0) := rfl
theorem fX1_collect_33 : fetch tX1_collect 33 = some (.goto 77, 3, 110, 0, 0, 0) := rfl
theorem fX1_collect_36 : fetch tX1_collect 36 = some (.aload_n 1, 1, 1, 0, 0, 0) := rfl
theorem fX1_collect_37 : fetch tX1_collect 37 = some (.getfield 89, 3, 0, 2, 0, 0) := rfl
theorem fX1_collect_40 : fetch tX1_collect 40 = some (.iload 11, 2, 11, 0, 0, 0) := rfl
theorem fX1_collect_42 : fetch tX1_collect 42 = some (.iaload, 1, 0, 0, 0, 0) := rfl
theorem fX1_collect_43 : fetch tX1_collect 43 = some (.istore 12, 2, 12, 0, 0, 0) := rfl
theorem fX1_collect_45 : fetch tX1_collect 45 = some (.iload 12, 2, 12, 0, 0, 0) := rfl
theorem fX1_collect_47 : fetch tX1_collect 47 = some (.bipush 10, 2, 0, 0, 10, 0) := rfl
theorem fX1_collect_49 : fetch tX1_collect 49 = some (.iload 12, 2, 12, 0, 0, 0) := rfl
theorem fX1_collect_51 : fetch tX1_collect 51 = some (.isub, 1, 0, 0, 0, 0) := rfl
theorem fX1_collect_52 : fetch tX1_collect 52 = some (.if_icmp .le 7, 3, 59, 0, 0, 0) := rfl
theorem fX1_collect_55 : fetch tX1_collect 55 = some (.iconst 1, 1, 0, 0, 1, 0) := rfl
theorem fX1_collect_56 : fetch tX1_collect 56 = some (.goto 4, 3, 60, 0, 0, 0) := rfl
theorem fX1_collect_59 : fetch tX1_collect 59 = some (.iconst 0, 1, 0, 0, 0, 0) := rfl
theorem fX1_collect_60 : fetch tX1_collect 60 = some (.istore 13, 2, 13, 0, 0, 0) := rfl
theorem fX1_collect_62 : fetch tX1_collect 62 = some (.lload 6, 2, 6, 0, 0, 0) := rfl
theorem fX1_collect_64 : fetch tX1_collect 64 = some (.ldc2_w 92, 3, 0, 0, 0, 10) := rfl
theorem fX1_collect_67 : fetch tX1_collect 67 = some (.lmul, 1, 0, 0, 0, 0) := rfl
theorem fX1_collect_68 : fetch tX1_collect 68 = some (.lstore 6, 2, 6, 0, 0, 0) := rfl
theorem fX1_collect_70 : fetch tX1_collect 70 = some (.lload 8, 2, 8, 0, 0, 0) := rfl
theorem fX1_collect_72 : fetch tX1_collect 72 = some (.iload 13, 2, 13, 0, 0, 0) := rfl
theorem fX1_collect_74 : fetch tX1_collect 74 = some (.ifCond .eq 9, 3, 83, 0, 0, 0) := rfl
theorem fX1_collect_77 : fetch tX1_collect 77 = some (.iload 12, 2, 12, 0, 0, 0) := rfl
theorem fX1_collect_79 : fetch tX1_collect 79 = some (.i2l, 1, 0, 0, 0, 0) := rfl
theorem fX1_collect_80 : fetch tX1_collect 80 = some (.goto 9, 3, 89, 0, 0, 0) := rfl
theorem fX1_collect_83 : fetch tX1_collect 83 = some (.bipush 10, 2, 0, 0, 10, 0) := rfl
theorem fX1_collect_85 : fetch tX1_collect 85 = some (.iload 12, 2, 12, 0, 0, 0) := rfl
theorem fX1_collect_87 : fetch tX1_collect 87 = some (.isub, 1, 0, 0, 0, 0) := rfl
theorem fX1_collect_88 : fetch tX1_collect 88 = some (.i2l, 1, 0, 0, 0, 0) := rfl
theorem fX1_collect_89 : fetch tX1_collect 89 = some (.lmul, 1, 0, 0, 0, 0) := rfl
theorem fX1_collect_90 : fetch tX1_collect 90 = some (.lstore 8, 2, 8, 0, 0, 0) := rfl
theorem fX1_collect_92 : fetch tX1_collect 92 = some (.iload 10, 2, 10, 0, 0, 0) := rfl
theorem fX1_collect_94 : fetch tX1_collect 94 = some (.iload 13, 2, 13, 0, 0, 0) := rfl
theorem fX1_collect_96 : fetch tX1_collect 96 = some (.ifCond .eq 10, 3, 106, 0, 0, 0) := rfl
theorem fX1_collect_99 : fetch tX1_collect 99 = some (.iconst 1, 1, 0, 0, 1, 0) := rfl
theorem fX1_collect_100 : fetch tX1_collect 100 = some (.iload 11, 2, 11, 0, 0, 0) := rfl
theorem fX1_collect_102 : fetch tX1_collect 102 = some (.ishl, 1, 0, 0, 0, 0) := rfl
theorem fX1_collect_103 : fetch tX1_collect 103 = some (.goto 4, 3, 107, 0, 0, 0) := rfl
theorem fX1_collect_106 : fetch tX1_collect 106 = some (.iconst 0, 1, 0, 0, 0, 0) := rfl
theorem fX1_collect_107 : fetch tX1_collect 107 = some (.ior, 1, 0, 0, 0, 0) := rfl
theorem fX1_collect_108 : fetch tX1_collect 108 = some (.istore 10, 2, 10, 0, 0, 0) := rfl
theorem fX1_collect_110 : fetch tX1_collect 110 = some (.iinc 11 1, 3, 11, 0, 1, 0) := rfl
theorem fX1_collect_113 : fetch tX1_collect 113 = some (.goto (-99), 3, 14, 0, 0, 0) := rfl
theorem fX1_collect_116 : fetch tX1_collect 116 = some (.aload_n 0, 1, 0, 0, 0, 0) := rfl
theorem fX1_collect_117 : fetch tX1_collect 117 = some (.dup, 1, 0, 0, 0, 0) := rfl
theorem fX1_collect_118 : fetch tX1_collect 118 = some (.getfield 18, 3, 1, 2, 0, 0) := rfl
theorem fX1_collect_121 : fetch tX1_collect 121 = some (.lload 6, 2, 6, 0, 0, 0) := rfl
theorem fX1_collect_123 : fetch tX1_collect 123 = some (.ladd, 1, 0, 0, 0, 0) := rfl
theorem fX1_collect_124 : fetch tX1_collect 124 = some (.putfield 18, 3, 1, 2, 0, 0) := rfl
theorem fX1_collect_127 : fetch tX1_collect 127 = some (.aload_n 0, 1, 0, 0, 0, 0) := rfl
theorem fX1_collect_128 : fetch tX1_collect 128 = some (.lload 8, 2, 8, 0, 0, 0) := rfl
theorem fX1_collect_130 : fetch tX1_collect 130 = some (.iload 10, 2, 10, 0, 0, 0) := rfl
theorem fX1_collect_132 : fetch tX1_collect 132 = some (.invokevirtual 94, 3, 0, 1, 0, 0) := rfl
theorem fX1_collect_135 : fetch tX1_collect 135 = some (.iconst 0, 1, 0, 0, 0, 0) := rfl
theorem fX1_collect_136 : fetch tX1_collect 136 = some (.istore 11, 2, 11, 0, 0, 0) := rfl
theorem fX1_collect_138 : fetch tX1_collect 138 = some (.iload 11, 2, 11, 0, 0, 0) := rfl
theorem fX1_collect_140 : fetch tX1_collect 140 = some (.bipush 8, 2, 0, 0, 8, 0) := rfl
theorem fX1_collect_142 : fetch tX1_collect 142 = some (.if_icmp .ge 55, 3, 197, 0, 0, 0) := rfl
theorem fX1_collect_145 : fetch tX1_collect 145 = some (.aload_n 0, 1, 0, 0, 0, 0) := rfl
theorem fX1_collect_146 : fetch tX1_collect 146 = some (.getfield 32, 3, 1, 6, 0, 0) := rfl
theorem fX1_collect_149 : fetch tX1_collect 149 = some (.iload 11, 2, 11, 0, 0, 0) := rfl
theorem fX1_collect_151 : fetch tX1_collect 151 = some (.dup2, 1, 0, 0, 0, 0) := rfl
theorem fX1_collect_152 : fetch tX1_collect 152 = some (.laload, 1, 0, 0, 0, 0) := rfl
theorem fX1_collect_153 : fetch tX1_collect 153 = some (.lconst 1, 1, 0, 0, 0, 1) := rfl
theorem fX1_collect_154 : fetch tX1_collect 154 = some (.aload_n 0, 1, 0, 0, 0, 0) := rfl
theorem fX1_collect_155 : fetch tX1_collect 155 = some (.getfield 9, 3, 1, 0, 0, 0) := rfl
theorem fX1_collect_158 : fetch tX1_collect 158 = some (.iload 11, 2, 11, 0, 0, 0) := rfl
theorem fX1_collect_160 : fetch tX1_collect 160 = some (.iaload, 1, 0, 0, 0, 0) := rfl
theorem fX1_collect_161 : fetch tX1_collect 161 = some (.lshl, 1, 0, 0, 0, 0) := rfl
theorem fX1_collect_162 : fetch tX1_collect 162 = some (.lor, 1, 0, 0, 0, 0) := rfl
theorem fX1_collect_163 : fetch tX1_collect 163 = some (.lastore, 1, 0, 0, 0, 0) := rfl
theorem fX1_collect_164 : fetch tX1_collect 164 = some (.aload_n 0, 1, 0, 0, 0, 0) := rfl
theorem fX1_collect_165 : fetch tX1_collect 165 = some (.dup, 1, 0, 0, 0, 0) := rfl
theorem fX1_collect_166 : fetch tX1_collect 166 = some (.getfield 22, 3, 1, 3, 0, 0) := rfl
theorem fX1_collect_169 : fetch tX1_collect 169 = some (.aload_n 0, 1, 0, 0, 0, 0) := rfl
theorem fX1_collect_170 : fetch tX1_collect 170 = some (.getfield 9, 3, 1, 0, 0, 0) := rfl
theorem fX1_collect_173 : fetch tX1_collect 173 = some (.iload 11, 2, 11, 0, 0, 0) := rfl
theorem fX1_collect_175 : fetch tX1_collect 175 = some (.iaload, 1, 0, 0, 0, 0) := rfl
theorem fX1_collect_176 : fetch tX1_collect 176 = some (.bipush 31, 2, 0, 0, 31, 0) := rfl
theorem fX1_collect_178 : fetch tX1_collect 178 = some (.if_icmp .ne 7, 3, 185, 0, 0, 0) := rfl
theorem fX1_collect_181 : fetch tX1_collect 181 = some (.lconst 0, 1, 0, 0, 0, 0) := rfl
theorem fX1_collect_182 : fetch tX1_collect 182 = some (.goto 5, 3, 187, 0, 0, 0) := rfl
theorem fX1_collect_185 : fetch tX1_collect 185 = some (.lload 6, 2, 6, 0, 0, 0) := rfl
theorem fX1_collect_187 : fetch tX1_collect 187 = some (.ladd, 1, 0, 0, 0, 0) := rfl
theorem fX1_collect_188 : fetch tX1_collect 188 = some (.putfield 22, 3, 1, 3, 0, 0) := rfl
theorem fX1_collect_191 : fetch tX1_collect 191 = some (.iinc 11 1, 3, 11, 0, 1, 0) := rfl
theorem fX1_collect_194 : fetch tX1_collect 194 = some (.goto (-56), 3, 138, 0, 0, 0) := rfl
theorem fX1_collect_197 : fetch tX1_collect 197 = some (.return_, 1, 0, 0, 0, 0) := rfl
def tX1_keepBest : List (Nat × TE) := [(0, .lload_n 1, 1, 1, 0, 0, 0), (1, .aload_n 0, 1, 0, 0, 0, 0), (2, .getfield 25, 3, 1, 4, 0, 0), (5, .lcmp, 1, 0, 0, 0, 0), (6, .ifCond .gt 20, 3, 26, 0, 0, 0), (9, .lload_n 1, 1, 1, 0, 0, 0), (10, .aload_n 0, 1, 0, 0, 0, 0), (11, .getfield 25, 3, 1, 4, 0, 0), (14, .lcmp, 1, 0, 0, 0, 0), (15, .ifCond .ne 21, 3, 36, 0, 0, 0), (18, .iload_n 3, 1, 3, 0, 0, 0), (19, .aload_n 0, 1, 0, 0, 0, 0), (20, .getfield 28, 3, 1, 5, 0, 0), (23, .if_icmp .ge 13, 3, 36, 0, 0, 0), (26, .aload_n 0, 1, 0, 0, 0, 0), (27, .lload_n 1, 1, 1, 0, 0, 0), (28, .putfield 25, 3, 1, 4, 0, 0), (31, .aload_n 0, 1, 0, 0, 0, 0), (32, .iload_n 3, 1, 3, 0, 0, 0), (33, .putfield 28, 3, 1, 5, 0, 0), (36, .return_, 1, 0, 0, 0, 0)]
theorem tkX1_keepBest : tOk cX1_keepBest "RumourSource$Spread" 4 tX1_keepBest = true := by decide +kernel
theorem fX1_keepBest_0 : fetch tX1_keepBest 0 = some (.lload_n 1, 1, 1, 0, 0, 0) := rfl
theorem fX1_keepBest_1 : fetch tX1_keepBest 1 = some (.aload_n 0, 1, 0, 0, 0, 0) := rfl
theorem fX1_keepBest_2 : fetch tX1_keepBest 2 = some (.getfield 25, 3, 1, 4, 0, 0) := rfl
theorem fX1_keepBest_5 : fetch tX1_keepBest 5 = some (.lcmp, 1, 0, 0, 0, 0) := rfl
theorem fX1_keepBest_6 : fetch tX1_keepBest 6 = some (.ifCond .gt 20, 3, 26, 0, 0, 0) := rfl
theorem fX1_keepBest_9 : fetch tX1_keepBest 9 = some (.lload_n 1, 1, 1, 0, 0, 0) := rfl
theorem fX1_keepBest_10 : fetch tX1_keepBest 10 = some (.aload_n 0, 1, 0, 0, 0, 0) := rfl
theorem fX1_keepBest_11 : fetch tX1_keepBest 11 = some (.getfield 25, 3, 1, 4, 0, 0) := rfl
theorem fX1_keepBest_14 : fetch tX1_keepBest 14 = some (.lcmp, 1, 0, 0, 0, 0) := rfl
theorem fX1_keepBest_15 : fetch tX1_keepBest 15 = some (.ifCond .ne 21, 3, 36, 0, 0, 0) := rfl
theorem fX1_keepBest_18 : fetch tX1_keepBest 18 = some (.iload_n 3, 1, 3, 0, 0, 0) := rfl
theorem fX1_keepBest_19 : fetch tX1_keepBest 19 = some (.aload_n 0, 1, 0, 0, 0, 0) := rfl
theorem fX1_keepBest_20 : fetch tX1_keepBest 20 = some (.getfield 28, 3, 1, 5, 0, 0) := rfl
theorem fX1_keepBest_23 : fetch tX1_keepBest 23 = some (.if_icmp .ge 13, 3, 36, 0, 0, 0) := rfl
theorem fX1_keepBest_26 : fetch tX1_keepBest 26 = some (.aload_n 0, 1, 0, 0, 0, 0) := rfl
theorem fX1_keepBest_27 : fetch tX1_keepBest 27 = some (.lload_n 1, 1, 1, 0, 0, 0) := rfl
theorem fX1_keepBest_28 : fetch tX1_keepBest 28 = some (.putfield 25, 3, 1, 4, 0, 0) := rfl
theorem fX1_keepBest_31 : fetch tX1_keepBest 31 = some (.aload_n 0, 1, 0, 0, 0, 0) := rfl
theorem fX1_keepBest_32 : fetch tX1_keepBest 32 = some (.iload_n 3, 1, 3, 0, 0, 0) := rfl
theorem fX1_keepBest_33 : fetch tX1_keepBest 33 = some (.putfield 28, 3, 1, 5, 0, 0) := rfl
theorem fX1_keepBest_36 : fetch tX1_keepBest 36 = some (.return_, 1, 0, 0, 0, 0) := rfl
def tX2_init : List (Nat × TE) := [(0, .aload_n 0, 1, 0, 0, 0, 0), (1, .invokespecial 3, 3, 0, 0, 0, 0), (4, .aload_n 0, 1, 0, 0, 0, 0), (5, .bipush 120, 2, 0, 0, 120, 0), (7, .newarray .int, 2, 0, 0, 0, 0), (9, .putfield 9, 3, 2, 0, 0, 0), (12, .aload_n 0, 1, 0, 0, 0, 0), (13, .iconst 0, 1, 0, 0, 0, 0), (14, .putfield 15, 3, 2, 1, 0, 0), (17, .aload_n 0, 1, 0, 0, 0, 0), (18, .new 19, 3, 0, 0, 0, 0), (21, .dup, 1, 0, 0, 0, 0), (22, .invokespecial 21, 3, 0, 0, 0, 0), (25, .putfield 22, 3, 2, 2, 0, 0), (28, .aload_n 0, 1, 0, 0, 0, 0), (29, .iconst 0, 1, 0, 0, 0, 0), (30, .putfield 26, 3, 2, 3, 0, 0), (33, .aload_n 0, 1, 0, 0, 0, 0), (34, .iconst (-1), 1, 0, 0, (-1), 0), (35, .putfield 29, 3, 2, 4, 0, 0), (38, .return_, 1, 0, 0, 0, 0)]
theorem tkX2_init : tOk cX2_init "RumourSource$Text" 1 tX2_init = true := by decide +kernel
theorem fX2_init_0 : fetch tX2_init 0 = some (.aload_n 0, 1, 0, 0, 0, 0) := rfl
theorem fX2_init_1 : fetch tX2_init 1 = some (.invokespecial 3, 3, 0, 0, 0, 0) := rfl
theorem fX2_init_4 : fetch tX2_init 4 = some (.aload_n 0, 1, 0, 0, 0, 0) := rfl
theorem fX2_init_5 : fetch tX2_init 5 = some (.bipush 120, 2, 0, 0, 120, 0) := rfl
theorem fX2_init_7 : fetch tX2_init 7 = some (.newarray .int, 2, 0, 0, 0, 0) := rfl
theorem fX2_init_9 : fetch tX2_init 9 = some (.putfield 9, 3, 2, 0, 0, 0) := rfl
theorem fX2_init_12 : fetch tX2_init 12 = some (.aload_n 0, 1, 0, 0, 0, 0) := rfl
theorem fX2_init_13 : fetch tX2_init 13 = some (.iconst 0, 1, 0, 0, 0, 0) := rfl
theorem fX2_init_14 : fetch tX2_init 14 = some (.putfield 15, 3, 2, 1, 0, 0) := rfl
theorem fX2_init_17 : fetch tX2_init 17 = some (.aload_n 0, 1, 0, 0, 0, 0) := rfl
theorem fX2_init_18 : fetch tX2_init 18 = some (.new 19, 3, 0, 0, 0, 0) := rfl
theorem fX2_init_21 : fetch tX2_init 21 = some (.dup, 1, 0, 0, 0, 0) := rfl
theorem fX2_init_22 : fetch tX2_init 22 = some (.invokespecial 21, 3, 0, 0, 0, 0) := rfl
theorem fX2_init_25 : fetch tX2_init 25 = some (.putfield 22, 3, 2, 2, 0, 0) := rfl
theorem fX2_init_28 : fetch tX2_init 28 = some (.aload_n 0, 1, 0, 0, 0, 0) := rfl
theorem fX2_init_29 : fetch tX2_init 29 = some (.iconst 0, 1, 0, 0, 0, 0) := rfl
theorem fX2_init_30 : fetch tX2_init 30 = some (.putfield 26, 3, 2, 3, 0, 0) := rfl
theorem fX2_init_33 : fetch tX2_init 33 = some (.aload_n 0, 1, 0, 0, 0, 0) := rfl
theorem fX2_init_34 : fetch tX2_init 34 = some (.iconst (-1), 1, 0, 0, (-1), 0) := rfl
theorem fX2_init_35 : fetch tX2_init 35 = some (.putfield 29, 3, 2, 4, 0, 0) := rfl
theorem fX2_init_38 : fetch tX2_init 38 = some (.return_, 1, 0, 0, 0, 0) := rfl
def tX2_read : List (Nat × TE) := [(0, .aload_n 0, 1, 0, 0, 0, 0), (1, .getfield 22, 3, 2, 2, 0, 0), (4, .aload_n 1, 1, 1, 0, 0, 0), (5, .invokevirtual 32, 3, 0, 0, 0, 0), (8, .aload_n 0, 1, 0, 0, 0, 0), (9, .iconst 0, 1, 0, 0, 0, 0), (10, .putfield 26, 3, 2, 3, 0, 0), (13, .aload_n 0, 1, 0, 0, 0, 0), (14, .iconst (-1), 1, 0, 0, (-1), 0), (15, .putfield 29, 3, 2, 4, 0, 0), (18, .iconst 1, 1, 0, 0, 1, 0), (19, .istore_n 2, 1, 2, 0, 0, 0), (20, .iconst 0, 1, 0, 0, 0, 0), (21, .istore_n 3, 1, 3, 0, 0, 0), (22, .iload_n 2, 1, 2, 0, 0, 0), (23, .ifCond .eq 35, 3, 58, 0, 0, 0), (26, .iload_n 3, 1, 3, 0, 0, 0), (27, .bipush 120, 2, 0, 0, 120, 0), (29, .if_icmp .ge 29, 3, 58, 0, 0, 0), (32, .aload_n 0, 1, 0, 0, 0, 0), (33, .invokevirtual 36, 3, 1, 2, 0, 0), (36, .ifCond .eq 14, 3, 50, 0, 0, 0), (39, .aload_n 0, 1, 0, 0, 0, 0), (40, .invokevirtual 40, 3, 2, 2, 0, 0), (43, .ifCond .eq 7, 3, 50, 0, 0, 0), (46, .iconst 1, 1, 0, 0, 1, 0), (47, .goto 4, 3, 51, 0, 0, 0), (50, .iconst 0, 1, 0, 0, 0, 0), (51, .istore_n 2, 1, 2, 0, 0, 0), (52, .iinc 3 1, 3, 3, 0, 1, 0), (55, .goto (-33), 3, 22, 0, 0, 0), (58, .aload_n 0, 1, 0, 0, 0, 0), (59, .getfield 29, 3, 2, 4, 0, 0), (62, .ireturn, 1, 0, 0, 0, 0)]
theorem tkX2_read : tOk cX2_read "RumourSource$Text" 4 tX2_read = true := by decide +kernel
theorem fX2_read_0 : fetch tX2_read 0 = some (.aload_n 0, 1, 0, 0, 0, 0) := rfl
theorem fX2_read_1 : fetch tX2_read 1 = some (.getfield 22, 3, 2, 2, 0, 0) := rfl
theorem fX2_read_4 : fetch tX2_read 4 = some (.aload_n 1, 1, 1, 0, 0, 0) := rfl
theorem fX2_read_5 : fetch tX2_read 5 = some (.invokevirtual 32, 3, 0, 0, 0, 0) := rfl
theorem fX2_read_8 : fetch tX2_read 8 = some (.aload_n 0, 1, 0, 0, 0, 0) := rfl
theorem fX2_read_9 : fetch tX2_read 9 = some (.iconst 0, 1, 0, 0, 0, 0) := rfl
theorem fX2_read_10 : fetch tX2_read 10 = some (.putfield 26, 3, 2, 3, 0, 0) := rfl
theorem fX2_read_13 : fetch tX2_read 13 = some (.aload_n 0, 1, 0, 0, 0, 0) := rfl
theorem fX2_read_14 : fetch tX2_read 14 = some (.iconst (-1), 1, 0, 0, (-1), 0) := rfl
theorem fX2_read_15 : fetch tX2_read 15 = some (.putfield 29, 3, 2, 4, 0, 0) := rfl
theorem fX2_read_18 : fetch tX2_read 18 = some (.iconst 1, 1, 0, 0, 1, 0) := rfl
theorem fX2_read_19 : fetch tX2_read 19 = some (.istore_n 2, 1, 2, 0, 0, 0) := rfl
theorem fX2_read_20 : fetch tX2_read 20 = some (.iconst 0, 1, 0, 0, 0, 0) := rfl
theorem fX2_read_21 : fetch tX2_read 21 = some (.istore_n 3, 1, 3, 0, 0, 0) := rfl
theorem fX2_read_22 : fetch tX2_read 22 = some (.iload_n 2, 1, 2, 0, 0, 0) := rfl
theorem fX2_read_23 : fetch tX2_read 23 = some (.ifCond .eq 35, 3, 58, 0, 0, 0) := rfl
theorem fX2_read_26 : fetch tX2_read 26 = some (.iload_n 3, 1, 3, 0, 0, 0) := rfl
theorem fX2_read_27 : fetch tX2_read 27 = some (.bipush 120, 2, 0, 0, 120, 0) := rfl
theorem fX2_read_29 : fetch tX2_read 29 = some (.if_icmp .ge 29, 3, 58, 0, 0, 0) := rfl
theorem fX2_read_32 : fetch tX2_read 32 = some (.aload_n 0, 1, 0, 0, 0, 0) := rfl
theorem fX2_read_33 : fetch tX2_read 33 = some (.invokevirtual 36, 3, 1, 2, 0, 0) := rfl
theorem fX2_read_36 : fetch tX2_read 36 = some (.ifCond .eq 14, 3, 50, 0, 0, 0) := rfl
theorem fX2_read_39 : fetch tX2_read 39 = some (.aload_n 0, 1, 0, 0, 0, 0) := rfl
theorem fX2_read_40 : fetch tX2_read 40 = some (.invokevirtual 40, 3, 2, 2, 0, 0) := rfl
theorem fX2_read_43 : fetch tX2_read 43 = some (.ifCond .eq 7, 3, 50, 0, 0, 0) := rfl
theorem fX2_read_46 : fetch tX2_read 46 = some (.iconst 1, 1, 0, 0, 1, 0) := rfl
theorem fX2_read_47 : fetch tX2_read 47 = some (.goto 4, 3, 51, 0, 0, 0) := rfl
theorem fX2_read_50 : fetch tX2_read 50 = some (.iconst 0, 1, 0, 0, 0, 0) := rfl
theorem fX2_read_51 : fetch tX2_read 51 = some (.istore_n 2, 1, 2, 0, 0, 0) := rfl
theorem fX2_read_52 : fetch tX2_read 52 = some (.iinc 3 1, 3, 3, 0, 1, 0) := rfl
theorem fX2_read_55 : fetch tX2_read 55 = some (.goto (-33), 3, 22, 0, 0, 0) := rfl
theorem fX2_read_58 : fetch tX2_read 58 = some (.aload_n 0, 1, 0, 0, 0, 0) := rfl
theorem fX2_read_59 : fetch tX2_read 59 = some (.getfield 29, 3, 2, 4, 0, 0) := rfl
theorem fX2_read_62 : fetch tX2_read 62 = some (.ireturn, 1, 0, 0, 0, 0) := rfl
def tX2_readItem : List (Nat × TE) := [(0, .aload_n 0, 1, 0, 0, 0, 0), (1, .invokevirtual 43, 3, 0, 2, 0, 0), (4, .istore_n 1, 1, 1, 0, 0, 0), (5, .iload_n 1, 1, 1, 0, 0, 0), (6, .iconst (-1), 1, 0, 0, (-1), 0), (7, .if_icmp .ne 8, 3, 15, 0, 0, 0), (10, .aload_n 0, 1, 0, 0, 0, 0), (11, .invokevirtual 47, 3, 1, 2, 0, 0), (14, .ireturn, 1, 0, 0, 0, 0), (15, .aload_n 0, 1, 0, 0, 0, 0), (16, .dup, 1, 0, 0, 0, 0), (17, .getfield 26, 3, 2, 3, 0, 0), (20, .iconst 1, 1, 0, 0, 1, 0), (21, .iadd, 1, 0, 0, 0, 0), (22, .putfield 26, 3, 2, 3, 0, 0), (25, .aload_n 0, 1, 0, 0, 0, 0), (26, .invokevirtual 50, 3, 2, 2, 0, 0), (29, .istore_n 2, 1, 2, 0, 0, 0), (30, .iload_n 2, 1, 2, 0, 0, 0), (31, .bipush 62, 2, 0, 0, 62, 0), (33, .if_icmp .eq 14, 3, 47, 0, 0, 0), (36, .iload_n 2, 1, 2, 0, 0, 0), (37, .bipush 61, 2, 0, 0, 61, 0), (39, .if_icmp .eq 8, 3, 47, 0, 0, 0), (42, .aload_n 0, 1, 0, 0, 0, 0), (43, .invokevirtual 47, 3, 1, 2, 0, 0), (46, .ireturn, 1, 0, 0, 0, 0), (47, .aload_n 0, 1, 0, 0, 0, 0), (48, .dup, 1, 0, 0, 0, 0), (49, .getfield 26, 3, 2, 3, 0, 0), (52, .iconst 1, 1, 0, 0, 1, 0), (53, .iadd, 1, 0, 0, 0, 0), (54, .putfield 26, 3, 2, 3, 0, 0), (57, .iload_n 2, 1, 2, 0, 0, 0), (58, .bipush 62, 2, 0, 0, 62, 0), (60, .if_icmp .ne 11, 3, 71, 0, 0, 0), (63, .aload_n 0, 1, 0, 0, 0, 0), (64, .iload_n 1, 1, 1, 0, 0, 0), (65, .invokevirtual 53, 3, 3, 2, 0, 0), (68, .goto 8, 3, 76, 0, 0, 0), (71, .aload_n 0, 1, 0, 0, 0, 0), (72, .iload_n 1, 1, 1, 0, 0, 0), (73, .invokevirtual 57, 3, 4, 2, 0, 0), (76, .ireturn, 1, 0, 0, 0, 0)]
theorem tkX2_readItem : tOk cX2_readItem "RumourSource$Text" 3 tX2_readItem = true := by decide +kernel
theorem fX2_readItem_0 : fetch tX2_readItem 0 = some (.aload_n 0, 1, 0, 0, 0, 0) := rfl
theorem fX2_readItem_1 : fetch tX2_readItem 1 = some (.invokevirtual 43, 3, 0, 2, 0, 0) := rfl
theorem fX2_readItem_4 : fetch tX2_readItem 4 = some (.istore_n 1, 1, 1, 0, 0, 0) := rfl
theorem fX2_readItem_5 : fetch tX2_readItem 5 = some (.iload_n 1, 1, 1, 0, 0, 0) := rfl
theorem fX2_readItem_6 : fetch tX2_readItem 6 = some (.iconst (-1), 1, 0, 0, (-1), 0) := rfl
theorem fX2_readItem_7 : fetch tX2_readItem 7 = some (.if_icmp .ne 8, 3, 15, 0, 0, 0) := rfl
theorem fX2_readItem_10 : fetch tX2_readItem 10 = some (.aload_n 0, 1, 0, 0, 0, 0) := rfl
theorem fX2_readItem_11 : fetch tX2_readItem 11 = some (.invokevirtual 47, 3, 1, 2, 0, 0) := rfl
theorem fX2_readItem_14 : fetch tX2_readItem 14 = some (.ireturn, 1, 0, 0, 0, 0) := rfl
theorem fX2_readItem_15 : fetch tX2_readItem 15 = some (.aload_n 0, 1, 0, 0, 0, 0) := rfl
theorem fX2_readItem_16 : fetch tX2_readItem 16 = some (.dup, 1, 0, 0, 0, 0) := rfl
theorem fX2_readItem_17 : fetch tX2_readItem 17 = some (.getfield 26, 3, 2, 3, 0, 0) := rfl
theorem fX2_readItem_20 : fetch tX2_readItem 20 = some (.iconst 1, 1, 0, 0, 1, 0) := rfl
theorem fX2_readItem_21 : fetch tX2_readItem 21 = some (.iadd, 1, 0, 0, 0, 0) := rfl
theorem fX2_readItem_22 : fetch tX2_readItem 22 = some (.putfield 26, 3, 2, 3, 0, 0) := rfl
theorem fX2_readItem_25 : fetch tX2_readItem 25 = some (.aload_n 0, 1, 0, 0, 0, 0) := rfl
theorem fX2_readItem_26 : fetch tX2_readItem 26 = some (.invokevirtual 50, 3, 2, 2, 0, 0) := rfl
theorem fX2_readItem_29 : fetch tX2_readItem 29 = some (.istore_n 2, 1, 2, 0, 0, 0) := rfl
theorem fX2_readItem_30 : fetch tX2_readItem 30 = some (.iload_n 2, 1, 2, 0, 0, 0) := rfl
theorem fX2_readItem_31 : fetch tX2_readItem 31 = some (.bipush 62, 2, 0, 0, 62, 0) := rfl
theorem fX2_readItem_33 : fetch tX2_readItem 33 = some (.if_icmp .eq 14, 3, 47, 0, 0, 0) := rfl
theorem fX2_readItem_36 : fetch tX2_readItem 36 = some (.iload_n 2, 1, 2, 0, 0, 0) := rfl
theorem fX2_readItem_37 : fetch tX2_readItem 37 = some (.bipush 61, 2, 0, 0, 61, 0) := rfl
theorem fX2_readItem_39 : fetch tX2_readItem 39 = some (.if_icmp .eq 8, 3, 47, 0, 0, 0) := rfl
theorem fX2_readItem_42 : fetch tX2_readItem 42 = some (.aload_n 0, 1, 0, 0, 0, 0) := rfl
theorem fX2_readItem_43 : fetch tX2_readItem 43 = some (.invokevirtual 47, 3, 1, 2, 0, 0) := rfl
theorem fX2_readItem_46 : fetch tX2_readItem 46 = some (.ireturn, 1, 0, 0, 0, 0) := rfl
theorem fX2_readItem_47 : fetch tX2_readItem 47 = some (.aload_n 0, 1, 0, 0, 0, 0) := rfl
theorem fX2_readItem_48 : fetch tX2_readItem 48 = some (.dup, 1, 0, 0, 0, 0) := rfl
theorem fX2_readItem_49 : fetch tX2_readItem 49 = some (.getfield 26, 3, 2, 3, 0, 0) := rfl
theorem fX2_readItem_52 : fetch tX2_readItem 52 = some (.iconst 1, 1, 0, 0, 1, 0) := rfl
theorem fX2_readItem_53 : fetch tX2_readItem 53 = some (.iadd, 1, 0, 0, 0, 0) := rfl
theorem fX2_readItem_54 : fetch tX2_readItem 54 = some (.putfield 26, 3, 2, 3, 0, 0) := rfl
theorem fX2_readItem_57 : fetch tX2_readItem 57 = some (.iload_n 2, 1, 2, 0, 0, 0) := rfl
theorem fX2_readItem_58 : fetch tX2_readItem 58 = some (.bipush 62, 2, 0, 0, 62, 0) := rfl
theorem fX2_readItem_60 : fetch tX2_readItem 60 = some (.if_icmp .ne 11, 3, 71, 0, 0, 0) := rfl
theorem fX2_readItem_63 : fetch tX2_readItem 63 = some (.aload_n 0, 1, 0, 0, 0, 0) := rfl
theorem fX2_readItem_64 : fetch tX2_readItem 64 = some (.iload_n 1, 1, 1, 0, 0, 0) := rfl
theorem fX2_readItem_65 : fetch tX2_readItem 65 = some (.invokevirtual 53, 3, 3, 2, 0, 0) := rfl
theorem fX2_readItem_68 : fetch tX2_readItem 68 = some (.goto 8, 3, 76, 0, 0, 0) := rfl
theorem fX2_readItem_71 : fetch tX2_readItem 71 = some (.aload_n 0, 1, 0, 0, 0, 0) := rfl
theorem fX2_readItem_72 : fetch tX2_readItem 72 = some (.iload_n 1, 1, 1, 0, 0, 0) := rfl
theorem fX2_readItem_73 : fetch tX2_readItem 73 = some (.invokevirtual 57, 3, 4, 2, 0, 0) := rfl
theorem fX2_readItem_76 : fetch tX2_readItem 76 = some (.ireturn, 1, 0, 0, 0, 0) := rfl
def tX2_readSemicolon : List (Nat × TE) := [(0, .aload_n 0, 1, 0, 0, 0, 0), (1, .invokevirtual 50, 3, 0, 2, 0, 0), (4, .istore_n 1, 1, 1, 0, 0, 0), (5, .iload_n 1, 1, 1, 0, 0, 0), (6, .iconst (-1), 1, 0, 0, (-1), 0), (7, .if_icmp .ne 5, 3, 12, 0, 0, 0), (10, .iconst 0, 1, 0, 0, 0, 0), (11, .ireturn, 1, 0, 0, 0, 0), (12, .aload_n 0, 1, 0, 0, 0, 0), (13, .bipush 59, 2, 0, 0, 59, 0), (15, .invokevirtual 60, 3, 1, 2, 0, 0), (18, .ireturn, 1, 0, 0, 0, 0)]
theorem tkX2_readSemicolon : tOk cX2_readSemicolon "RumourSource$Text" 2 tX2_readSemicolon = true := by decide +kernel
theorem fX2_readSemicolon_0 : fetch tX2_readSemicolon 0 = some (.aload_n 0, 1, 0, 0, 0, 0) := rfl
theorem fX2_readSemicolon_1 : fetch tX2_readSemicolon 1 = some (.invokevirtual 50, 3, 0, 2, 0, 0) := rfl
theorem fX2_readSemicolon_4 : fetch tX2_readSemicolon 4 = some (.istore_n 1, 1, 1, 0, 0, 0) := rfl
theorem fX2_readSemicolon_5 : fetch tX2_readSemicolon 5 = some (.iload_n 1, 1, 1, 0, 0, 0) := rfl
theorem fX2_readSemicolon_6 : fetch tX2_readSemicolon 6 = some (.iconst (-1), 1, 0, 0, (-1), 0) := rfl
theorem fX2_readSemicolon_7 : fetch tX2_readSemicolon 7 = some (.if_icmp .ne 5, 3, 12, 0, 0, 0) := rfl
theorem fX2_readSemicolon_10 : fetch tX2_readSemicolon 10 = some (.iconst 0, 1, 0, 0, 0, 0) := rfl
theorem fX2_readSemicolon_11 : fetch tX2_readSemicolon 11 = some (.ireturn, 1, 0, 0, 0, 0) := rfl
theorem fX2_readSemicolon_12 : fetch tX2_readSemicolon 12 = some (.aload_n 0, 1, 0, 0, 0, 0) := rfl
theorem fX2_readSemicolon_13 : fetch tX2_readSemicolon 13 = some (.bipush 59, 2, 0, 0, 59, 0) := rfl
theorem fX2_readSemicolon_15 : fetch tX2_readSemicolon 15 = some (.invokevirtual 60, 3, 1, 2, 0, 0) := rfl
theorem fX2_readSemicolon_18 : fetch tX2_readSemicolon 18 = some (.ireturn, 1, 0, 0, 0, 0) := rfl
def tX2_readEdge : List (Nat × TE) := [(0, .aload_n 0, 1, 0, 0, 0, 0), (1, .invokevirtual 43, 3, 0, 2, 0, 0), (4, .istore_n 2, 1, 2, 0, 0, 0), (5, .aload_n 0, 1, 0, 0, 0, 0), (6, .getfield 22, 3, 2, 2, 0, 0), (9, .invokevirtual 63, 3, 1, 0, 0, 0), (12, .ifCond .eq 20, 3, 32, 0, 0, 0), (15, .aload_n 0, 1, 0, 0, 0, 0), (16, .getfield 22, 3, 2, 2, 0, 0), (19, .iload_n 1, 1, 1, 0, 0, 0), (20, .iload_n 2, 1, 2, 0, 0, 0), (21, .invokevirtual 66, 3, 2, 0, 0, 0), (24, .iconst (-1), 1, 0, 0, (-1), 0), (25, .if_icmp .ne 7, 3, 32, 0, 0, 0), (28, .iconst 1, 1, 0, 0, 1, 0), (29, .goto 4, 3, 33, 0, 0, 0), (32, .iconst 0, 1, 0, 0, 0, 0), (33, .istore_n 3, 1, 3, 0, 0, 0), (34, .iload_n 2, 1, 2, 0, 0, 0), (35, .iconst (-1), 1, 0, 0, (-1), 0), (36, .if_icmp .eq 12, 3, 48, 0, 0, 0), (39, .iload_n 2, 1, 2, 0, 0, 0), (40, .iload_n 1, 1, 1, 0, 0, 0), (41, .if_icmp .eq 7, 3, 48, 0, 0, 0), (44, .iload_n 3, 1, 3, 0, 0, 0), (45, .ifCond .eq 8, 3, 53, 0, 0, 0), (48, .aload_n 0, 1, 0, 0, 0, 0), (49, .invokevirtual 47, 3, 3, 2, 0, 0), (52, .ireturn, 1, 0, 0, 0, 0), (53, .aload_n 0, 1, 0, 0, 0, 0), (54, .dup, 1, 0, 0, 0, 0), (55, .getfield 26, 3, 2, 3, 0, 0), (58, .iconst 1, 1, 0, 0, 1, 0), (59, .iadd, 1, 0, 0, 0, 0), (60, .putfield 26, 3, 2, 3, 0, 0), (63, .aload_n 0, 1, 0, 0, 0, 0), (64, .bipush 42, 2, 0, 0, 42, 0), (66, .invokevirtual 60, 3, 4, 2, 0, 0), (69, .ifCond .ne 5, 3, 74, 0, 0, 0), (72, .iconst 0, 1, 0, 0, 0, 0), (73, .ireturn, 1, 0, 0, 0, 0), (74, .aload_n 0, 1, 0, 0, 0, 0), (75, .iconst 0, 1, 0, 0, 0, 0), (76, .bipush 10, 2, 0, 0, 10, 0), (78, .invokevirtual 70, 3, 5, 2, 0, 0), (81, .istore 4, 2, 4, 0, 0, 0), (83, .iload 4, 2, 4, 0, 0, 0), (85, .iconst (-1), 1, 0, 0, (-1), 0), (86, .if_icmp .eq 12, 3, 98, 0, 0, 0), (89, .aload_n 0, 1, 0, 0, 0, 0), (90, .bipush 43, 2, 0, 0, 43, 0), (92, .invokevirtual 60, 3, 4, 2, 0, 0), (95, .ifCond .ne 5, 3, 100, 0, 0, 0), (98, .iconst 0, 1, 0, 0, 0, 0), (99, .ireturn, 1, 0, 0, 0, 0), (100, .aload_n 0, 1, 0, 0, 0, 0), (101, .iconst 1, 1, 0, 0, 1, 0), (102, .iconst 5, 1, 0, 0, 5, 0), (103, .invokevirtual 70, 3, 5, 2, 0, 0), (106, .istore 5, 2, 5, 0, 0, 0), (108, .iload 5, 2, 5, 0, 0, 0), (110, .iconst (-1), 1, 0, 0, (-1), 0), (111, .if_icmp .ne 5, 3, 116, 0, 0, 0), (114, .iconst 0, 1, 0, 0, 0, 0), (115, .ireturn, 1, 0, 0, 0, 0), (116, .aload_n 0, 1, 0, 0, 0, 0), (117, .getfield 22, 3, 2, 2, 0, 0), (120, .iload_n 1, 1, 1, 0, 0, 0), (121, .iload_n 2, 1, 2, 0, 0, 0), (122, .iload 4, 2, 4, 0, 0, 0), (124, .iload 5, 2, 5, 0, 0, 0), (126, .invokevirtual 73, 3, 6, 0, 0, 0), (129, .iconst (-1), 1, 0, 0, (-1), 0), (130, .if_icmp .eq 7, 3, 137, 0, 0, 0), (133, .iconst 1, 1, 0, 0, 1, 0), (134, .goto 4, 3, 138, 0, 0, 0), (137, .iconst 0, 1, 0, 0, 0, 0), (138, .ireturn, 1, 0, 0, 0, 0)]
theorem tkX2_readEdge : tOk cX2_readEdge "RumourSource$Text" 6 tX2_readEdge = true := by decide +kernel
theorem fX2_readEdge_0 : fetch tX2_readEdge 0 = some (.aload_n 0, 1, 0, 0, 0, 0) := rfl
theorem fX2_readEdge_1 : fetch tX2_readEdge 1 = some (.invokevirtual 43, 3, 0, 2, 0, 0) := rfl
theorem fX2_readEdge_4 : fetch tX2_readEdge 4 = some (.istore_n 2, 1, 2, 0, 0, 0) := rfl
theorem fX2_readEdge_5 : fetch tX2_readEdge 5 = some (.aload_n 0, 1, 0, 0, 0, 0) := rfl
theorem fX2_readEdge_6 : fetch tX2_readEdge 6 = some (.getfield 22, 3, 2, 2, 0, 0) := rfl
theorem fX2_readEdge_9 : fetch tX2_readEdge 9 = some (.invokevirtual 63, 3, 1, 0, 0, 0) := rfl
theorem fX2_readEdge_12 : fetch tX2_readEdge 12 = some (.ifCond .eq 20, 3, 32, 0, 0, 0) := rfl
theorem fX2_readEdge_15 : fetch tX2_readEdge 15 = some (.aload_n 0, 1, 0, 0, 0, 0) := rfl
theorem fX2_readEdge_16 : fetch tX2_readEdge 16 = some (.getfield 22, 3, 2, 2, 0, 0) := rfl
theorem fX2_readEdge_19 : fetch tX2_readEdge 19 = some (.iload_n 1, 1, 1, 0, 0, 0) := rfl
theorem fX2_readEdge_20 : fetch tX2_readEdge 20 = some (.iload_n 2, 1, 2, 0, 0, 0) := rfl
theorem fX2_readEdge_21 : fetch tX2_readEdge 21 = some (.invokevirtual 66, 3, 2, 0, 0, 0) := rfl
theorem fX2_readEdge_24 : fetch tX2_readEdge 24 = some (.iconst (-1), 1, 0, 0, (-1), 0) := rfl
theorem fX2_readEdge_25 : fetch tX2_readEdge 25 = some (.if_icmp .ne 7, 3, 32, 0, 0, 0) := rfl
theorem fX2_readEdge_28 : fetch tX2_readEdge 28 = some (.iconst 1, 1, 0, 0, 1, 0) := rfl
theorem fX2_readEdge_29 : fetch tX2_readEdge 29 = some (.goto 4, 3, 33, 0, 0, 0) := rfl
theorem fX2_readEdge_32 : fetch tX2_readEdge 32 = some (.iconst 0, 1, 0, 0, 0, 0) := rfl
theorem fX2_readEdge_33 : fetch tX2_readEdge 33 = some (.istore_n 3, 1, 3, 0, 0, 0) := rfl
theorem fX2_readEdge_34 : fetch tX2_readEdge 34 = some (.iload_n 2, 1, 2, 0, 0, 0) := rfl
theorem fX2_readEdge_35 : fetch tX2_readEdge 35 = some (.iconst (-1), 1, 0, 0, (-1), 0) := rfl
theorem fX2_readEdge_36 : fetch tX2_readEdge 36 = some (.if_icmp .eq 12, 3, 48, 0, 0, 0) := rfl
theorem fX2_readEdge_39 : fetch tX2_readEdge 39 = some (.iload_n 2, 1, 2, 0, 0, 0) := rfl
theorem fX2_readEdge_40 : fetch tX2_readEdge 40 = some (.iload_n 1, 1, 1, 0, 0, 0) := rfl
theorem fX2_readEdge_41 : fetch tX2_readEdge 41 = some (.if_icmp .eq 7, 3, 48, 0, 0, 0) := rfl
theorem fX2_readEdge_44 : fetch tX2_readEdge 44 = some (.iload_n 3, 1, 3, 0, 0, 0) := rfl
theorem fX2_readEdge_45 : fetch tX2_readEdge 45 = some (.ifCond .eq 8, 3, 53, 0, 0, 0) := rfl
theorem fX2_readEdge_48 : fetch tX2_readEdge 48 = some (.aload_n 0, 1, 0, 0, 0, 0) := rfl
theorem fX2_readEdge_49 : fetch tX2_readEdge 49 = some (.invokevirtual 47, 3, 3, 2, 0, 0) := rfl
theorem fX2_readEdge_52 : fetch tX2_readEdge 52 = some (.ireturn, 1, 0, 0, 0, 0) := rfl
theorem fX2_readEdge_53 : fetch tX2_readEdge 53 = some (.aload_n 0, 1, 0, 0, 0, 0) := rfl
theorem fX2_readEdge_54 : fetch tX2_readEdge 54 = some (.dup, 1, 0, 0, 0, 0) := rfl
theorem fX2_readEdge_55 : fetch tX2_readEdge 55 = some (.getfield 26, 3, 2, 3, 0, 0) := rfl
theorem fX2_readEdge_58 : fetch tX2_readEdge 58 = some (.iconst 1, 1, 0, 0, 1, 0) := rfl
theorem fX2_readEdge_59 : fetch tX2_readEdge 59 = some (.iadd, 1, 0, 0, 0, 0) := rfl
theorem fX2_readEdge_60 : fetch tX2_readEdge 60 = some (.putfield 26, 3, 2, 3, 0, 0) := rfl
theorem fX2_readEdge_63 : fetch tX2_readEdge 63 = some (.aload_n 0, 1, 0, 0, 0, 0) := rfl
theorem fX2_readEdge_64 : fetch tX2_readEdge 64 = some (.bipush 42, 2, 0, 0, 42, 0) := rfl
theorem fX2_readEdge_66 : fetch tX2_readEdge 66 = some (.invokevirtual 60, 3, 4, 2, 0, 0) := rfl
theorem fX2_readEdge_69 : fetch tX2_readEdge 69 = some (.ifCond .ne 5, 3, 74, 0, 0, 0) := rfl
theorem fX2_readEdge_72 : fetch tX2_readEdge 72 = some (.iconst 0, 1, 0, 0, 0, 0) := rfl
theorem fX2_readEdge_73 : fetch tX2_readEdge 73 = some (.ireturn, 1, 0, 0, 0, 0) := rfl
theorem fX2_readEdge_74 : fetch tX2_readEdge 74 = some (.aload_n 0, 1, 0, 0, 0, 0) := rfl
theorem fX2_readEdge_75 : fetch tX2_readEdge 75 = some (.iconst 0, 1, 0, 0, 0, 0) := rfl
theorem fX2_readEdge_76 : fetch tX2_readEdge 76 = some (.bipush 10, 2, 0, 0, 10, 0) := rfl
theorem fX2_readEdge_78 : fetch tX2_readEdge 78 = some (.invokevirtual 70, 3, 5, 2, 0, 0) := rfl
theorem fX2_readEdge_81 : fetch tX2_readEdge 81 = some (.istore 4, 2, 4, 0, 0, 0) := rfl
theorem fX2_readEdge_83 : fetch tX2_readEdge 83 = some (.iload 4, 2, 4, 0, 0, 0) := rfl
theorem fX2_readEdge_85 : fetch tX2_readEdge 85 = some (.iconst (-1), 1, 0, 0, (-1), 0) := rfl
theorem fX2_readEdge_86 : fetch tX2_readEdge 86 = some (.if_icmp .eq 12, 3, 98, 0, 0, 0) := rfl
theorem fX2_readEdge_89 : fetch tX2_readEdge 89 = some (.aload_n 0, 1, 0, 0, 0, 0) := rfl
theorem fX2_readEdge_90 : fetch tX2_readEdge 90 = some (.bipush 43, 2, 0, 0, 43, 0) := rfl
theorem fX2_readEdge_92 : fetch tX2_readEdge 92 = some (.invokevirtual 60, 3, 4, 2, 0, 0) := rfl
theorem fX2_readEdge_95 : fetch tX2_readEdge 95 = some (.ifCond .ne 5, 3, 100, 0, 0, 0) := rfl
theorem fX2_readEdge_98 : fetch tX2_readEdge 98 = some (.iconst 0, 1, 0, 0, 0, 0) := rfl
theorem fX2_readEdge_99 : fetch tX2_readEdge 99 = some (.ireturn, 1, 0, 0, 0, 0) := rfl
theorem fX2_readEdge_100 : fetch tX2_readEdge 100 = some (.aload_n 0, 1, 0, 0, 0, 0) := rfl
theorem fX2_readEdge_101 : fetch tX2_readEdge 101 = some (.iconst 1, 1, 0, 0, 1, 0) := rfl
theorem fX2_readEdge_102 : fetch tX2_readEdge 102 = some (.iconst 5, 1, 0, 0, 5, 0) := rfl
theorem fX2_readEdge_103 : fetch tX2_readEdge 103 = some (.invokevirtual 70, 3, 5, 2, 0, 0) := rfl
theorem fX2_readEdge_106 : fetch tX2_readEdge 106 = some (.istore 5, 2, 5, 0, 0, 0) := rfl
theorem fX2_readEdge_108 : fetch tX2_readEdge 108 = some (.iload 5, 2, 5, 0, 0, 0) := rfl
theorem fX2_readEdge_110 : fetch tX2_readEdge 110 = some (.iconst (-1), 1, 0, 0, (-1), 0) := rfl
theorem fX2_readEdge_111 : fetch tX2_readEdge 111 = some (.if_icmp .ne 5, 3, 116, 0, 0, 0) := rfl
theorem fX2_readEdge_114 : fetch tX2_readEdge 114 = some (.iconst 0, 1, 0, 0, 0, 0) := rfl
theorem fX2_readEdge_115 : fetch tX2_readEdge 115 = some (.ireturn, 1, 0, 0, 0, 0) := rfl
theorem fX2_readEdge_116 : fetch tX2_readEdge 116 = some (.aload_n 0, 1, 0, 0, 0, 0) := rfl
theorem fX2_readEdge_117 : fetch tX2_readEdge 117 = some (.getfield 22, 3, 2, 2, 0, 0) := rfl
theorem fX2_readEdge_120 : fetch tX2_readEdge 120 = some (.iload_n 1, 1, 1, 0, 0, 0) := rfl
theorem fX2_readEdge_121 : fetch tX2_readEdge 121 = some (.iload_n 2, 1, 2, 0, 0, 0) := rfl
theorem fX2_readEdge_122 : fetch tX2_readEdge 122 = some (.iload 4, 2, 4, 0, 0, 0) := rfl
theorem fX2_readEdge_124 : fetch tX2_readEdge 124 = some (.iload 5, 2, 5, 0, 0, 0) := rfl
theorem fX2_readEdge_126 : fetch tX2_readEdge 126 = some (.invokevirtual 73, 3, 6, 0, 0, 0) := rfl
theorem fX2_readEdge_129 : fetch tX2_readEdge 129 = some (.iconst (-1), 1, 0, 0, (-1), 0) := rfl
theorem fX2_readEdge_130 : fetch tX2_readEdge 130 = some (.if_icmp .eq 7, 3, 137, 0, 0, 0) := rfl
theorem fX2_readEdge_133 : fetch tX2_readEdge 133 = some (.iconst 1, 1, 0, 0, 1, 0) := rfl
theorem fX2_readEdge_134 : fetch tX2_readEdge 134 = some (.goto 4, 3, 138, 0, 0, 0) := rfl
theorem fX2_readEdge_137 : fetch tX2_readEdge 137 = some (.iconst 0, 1, 0, 0, 0, 0) := rfl
theorem fX2_readEdge_138 : fetch tX2_readEdge 138 = some (.ireturn, 1, 0, 0, 0, 0) := rfl
def tX2_readObservation : List (Nat × TE) := [(0, .aload_n 0, 1, 0, 0, 0, 0), (1, .invokevirtual 50, 3, 0, 2, 0, 0), (4, .bipush 45, 2, 0, 0, 45, 0), (6, .if_icmp .ne 25, 3, 31, 0, 0, 0), (9, .aload_n 0, 1, 0, 0, 0, 0), (10, .dup, 1, 0, 0, 0, 0), (11, .getfield 26, 3, 2, 3, 0, 0), (14, .iconst 1, 1, 0, 0, 1, 0), (15, .iadd, 1, 0, 0, 0, 0), (16, .putfield 26, 3, 2, 3, 0, 0), (19, .aload_n 0, 1, 0, 0, 0, 0), (20, .getfield 22, 3, 2, 2, 0, 0), (23, .getfield 77, 3, 0, 6, 0, 0), (26, .iload_n 1, 1, 1, 0, 0, 0), (27, .iconst (-1), 1, 0, 0, (-1), 0), (28, .iastore, 1, 0, 0, 0, 0), (29, .iconst 1, 1, 0, 0, 1, 0), (30, .ireturn, 1, 0, 0, 0, 0), (31, .aload_n 0, 1, 0, 0, 0, 0), (32, .iconst 0, 1, 0, 0, 0, 0), (33, .bipush 30, 2, 0, 0, 30, 0), (35, .invokevirtual 70, 3, 1, 2, 0, 0), (38, .istore_n 2, 1, 2, 0, 0, 0), (39, .iload_n 2, 1, 2, 0, 0, 0), (40, .iconst (-1), 1, 0, 0, (-1), 0), (41, .if_icmp .ne 5, 3, 46, 0, 0, 0), (44, .iconst 0, 1, 0, 0, 0, 0), (45, .ireturn, 1, 0, 0, 0, 0), (46, .aload_n 0, 1, 0, 0, 0, 0), (47, .getfield 22, 3, 2, 2, 0, 0), (50, .getfield 77, 3, 0, 6, 0, 0), (53, .iload_n 1, 1, 1, 0, 0, 0), (54, .iload_n 2, 1, 2, 0, 0, 0), (55, .iastore, 1, 0, 0, 0, 0), (56, .iconst 1, 1, 0, 0, 1, 0), (57, .ireturn, 1, 0, 0, 0, 0)]
theorem tkX2_readObservation : tOk cX2_readObservation "RumourSource$Text" 3 tX2_readObservation = true := by decide +kernel
theorem fX2_readObservation_0 : fetch tX2_readObservation 0 = some (.aload_n 0, 1, 0, 0, 0, 0) := rfl
theorem fX2_readObservation_1 : fetch tX2_readObservation 1 = some (.invokevirtual 50, 3, 0, 2, 0, 0) := rfl
theorem fX2_readObservation_4 : fetch tX2_readObservation 4 = some (.bipush 45, 2, 0, 0, 45, 0) := rfl
theorem fX2_readObservation_6 : fetch tX2_readObservation 6 = some (.if_icmp .ne 25, 3, 31, 0, 0, 0) := rfl
theorem fX2_readObservation_9 : fetch tX2_readObservation 9 = some (.aload_n 0, 1, 0, 0, 0, 0) := rfl
theorem fX2_readObservation_10 : fetch tX2_readObservation 10 = some (.dup, 1, 0, 0, 0, 0) := rfl
theorem fX2_readObservation_11 : fetch tX2_readObservation 11 = some (.getfield 26, 3, 2, 3, 0, 0) := rfl
theorem fX2_readObservation_14 : fetch tX2_readObservation 14 = some (.iconst 1, 1, 0, 0, 1, 0) := rfl
theorem fX2_readObservation_15 : fetch tX2_readObservation 15 = some (.iadd, 1, 0, 0, 0, 0) := rfl
theorem fX2_readObservation_16 : fetch tX2_readObservation 16 = some (.putfield 26, 3, 2, 3, 0, 0) := rfl
theorem fX2_readObservation_19 : fetch tX2_readObservation 19 = some (.aload_n 0, 1, 0, 0, 0, 0) := rfl
theorem fX2_readObservation_20 : fetch tX2_readObservation 20 = some (.getfield 22, 3, 2, 2, 0, 0) := rfl
theorem fX2_readObservation_23 : fetch tX2_readObservation 23 = some (.getfield 77, 3, 0, 6, 0, 0) := rfl
theorem fX2_readObservation_26 : fetch tX2_readObservation 26 = some (.iload_n 1, 1, 1, 0, 0, 0) := rfl
theorem fX2_readObservation_27 : fetch tX2_readObservation 27 = some (.iconst (-1), 1, 0, 0, (-1), 0) := rfl
theorem fX2_readObservation_28 : fetch tX2_readObservation 28 = some (.iastore, 1, 0, 0, 0, 0) := rfl
theorem fX2_readObservation_29 : fetch tX2_readObservation 29 = some (.iconst 1, 1, 0, 0, 1, 0) := rfl
theorem fX2_readObservation_30 : fetch tX2_readObservation 30 = some (.ireturn, 1, 0, 0, 0, 0) := rfl
theorem fX2_readObservation_31 : fetch tX2_readObservation 31 = some (.aload_n 0, 1, 0, 0, 0, 0) := rfl
theorem fX2_readObservation_32 : fetch tX2_readObservation 32 = some (.iconst 0, 1, 0, 0, 0, 0) := rfl
theorem fX2_readObservation_33 : fetch tX2_readObservation 33 = some (.bipush 30, 2, 0, 0, 30, 0) := rfl
theorem fX2_readObservation_35 : fetch tX2_readObservation 35 = some (.invokevirtual 70, 3, 1, 2, 0, 0) := rfl
theorem fX2_readObservation_38 : fetch tX2_readObservation 38 = some (.istore_n 2, 1, 2, 0, 0, 0) := rfl
theorem fX2_readObservation_39 : fetch tX2_readObservation 39 = some (.iload_n 2, 1, 2, 0, 0, 0) := rfl
theorem fX2_readObservation_40 : fetch tX2_readObservation 40 = some (.iconst (-1), 1, 0, 0, (-1), 0) := rfl
theorem fX2_readObservation_41 : fetch tX2_readObservation 41 = some (.if_icmp .ne 5, 3, 46, 0, 0, 0) := rfl
theorem fX2_readObservation_44 : fetch tX2_readObservation 44 = some (.iconst 0, 1, 0, 0, 0, 0) := rfl
theorem fX2_readObservation_45 : fetch tX2_readObservation 45 = some (.ireturn, 1, 0, 0, 0, 0) := rfl
theorem fX2_readObservation_46 : fetch tX2_readObservation 46 = some (.aload_n 0, 1, 0, 0, 0, 0) := rfl
theorem fX2_readObservation_47 : fetch tX2_readObservation 47 = some (.getfield 22, 3, 2, 2, 0, 0) := rfl
theorem fX2_readObservation_50 : fetch tX2_readObservation 50 = some (.getfield 77, 3, 0, 6, 0, 0) := rfl
theorem fX2_readObservation_53 : fetch tX2_readObservation 53 = some (.iload_n 1, 1, 1, 0, 0, 0) := rfl
theorem fX2_readObservation_54 : fetch tX2_readObservation 54 = some (.iload_n 2, 1, 2, 0, 0, 0) := rfl
theorem fX2_readObservation_55 : fetch tX2_readObservation 55 = some (.iastore, 1, 0, 0, 0, 0) := rfl
theorem fX2_readObservation_56 : fetch tX2_readObservation 56 = some (.iconst 1, 1, 0, 0, 1, 0) := rfl
theorem fX2_readObservation_57 : fetch tX2_readObservation 57 = some (.ireturn, 1, 0, 0, 0, 0) := rfl
def tX2_readNumber : List (Nat × TE) := [(0, .aload_n 0, 1, 0, 0, 0, 0), (1, .invokevirtual 50, 3, 0, 2, 0, 0), (4, .pop, 1, 0, 0, 0, 0), (5, .aload_n 0, 1, 0, 0, 0, 0), (6, .getfield 26, 3, 2, 3, 0, 0), (9, .istore_n 3, 1, 3, 0, 0, 0), (10, .iconst 0, 1, 0, 0, 0, 0), (11, .istore 4, 2, 4, 0, 0, 0), (13, .aload_n 0, 1, 0, 0, 0, 0), (14, .getfield 26, 3, 2, 3, 0, 0), (17, .aload_n 0, 1, 0, 0, 0, 0), (18, .getfield 15, 3, 2, 1, 0, 0), (21, .if_icmp .ge 64, 3, 85, 0, 0, 0), (24, .aload_n 0, 1, 0, 0, 0, 0), (25, .getfield 9, 3, 2, 0, 0, 0), (28, .aload_n 0, 1, 0, 0, 0, 0), (29, .getfield 26, 3, 2, 3, 0, 0), (32, .iaload, 1, 0, 0, 0, 0), (33, .bipush 48, 2, 0, 0, 48, 0), (35, .if_icmp .lt 50, 3, 85, 0, 0, 0), (38, .aload_n 0, 1, 0, 0, 0, 0), (39, .getfield 9, 3, 2, 0, 0, 0), (42, .aload_n 0, 1, 0, 0, 0, 0), (43, .getfield 26, 3, 2, 3, 0, 0), (46, .iaload, 1, 0, 0, 0, 0), (47, .bipush 57, 2, 0, 0, 57, 0), (49, .if_icmp .gt 36, 3, 85, 0, 0, 0), (52, .iload 4, 2, 4, 0, 0, 0), (54, .bipush 10, 2, 0, 0, 10, 0), (56, .imul, 1, 0, 0, 0, 0), (57, .aload_n 0, 1, 0, 0, 0, 0), (58, .getfield 9, 3, 2, 0, 0, 0), (61, .aload_n 0, 1, 0, 0, 0, 0), (62, .getfield 26, 3, 2, 3, 0, 0), (65, .iaload, 1, 0, 0, 0, 0), (66, .bipush 48, 2, 0, 0, 48, 0), (68, .isub, 1, 0, 0, 0, 0), (69, .iadd, 1, 0, 0, 0, 0), (70, .istore 4, 2, 4, 0, 0, 0), (72, .aload_n 0, 1, 0, 0, 0, 0), (73, .dup, 1, 0, 0, 0, 0), (74, .getfield 26, 3, 2, 3, 0, 0), (77, .iconst 1, 1, 0, 0, 1, 0), (78, .iadd, 1, 0, 0, 0, 0), (79, .putfield 26, 3, 2, 3, 0, 0), (82, .goto (-69), 3, 13, 0, 0, 0), (85, .aload_n 0, 1, 0, 0, 0, 0), (86, .getfield 26, 3, 2, 3, 0, 0), (89, .iload_n 3, 1, 3, 0, 0, 0), (90, .isub, 1, 0, 0, 0, 0), (91, .istore 5, 2, 5, 0, 0, 0), (93, .iload 5, 2, 5, 0, 0, 0), (95, .iconst 1, 1, 0, 0, 1, 0), (96, .if_icmp .lt 21, 3, 117, 0, 0, 0), (99, .iload 5, 2, 5, 0, 0, 0), (101, .iconst 2, 1, 0, 0, 2, 0), (102, .if_icmp .gt 15, 3, 117, 0, 0, 0), (105, .iload 4, 2, 4, 0, 0, 0), (107, .iload_n 1, 1, 1, 0, 0, 0), (108, .if_icmp .lt 9, 3, 117, 0, 0, 0), (111, .iload 4, 2, 4, 0, 0, 0), (113, .iload_n 2, 1, 2, 0, 0, 0), (114, .if_icmp .le 15, 3, 129, 0, 0, 0), (117, .aload_n 0, 1, 0, 0, 0, 0), (118, .iload_n 3, 1, 3, 0, 0, 0), (119, .putfield 26, 3, 2, 3, 0, 0), (122, .aload_n 0, 1, 0, 0, 0, 0), (123, .invokevirtual 47, 3, 1, 2, 0, 0), (126, .pop, 1, 0, 0, 0, 0), (127, .iconst (-1), 1, 0, 0, (-1), 0), (128, .ireturn, 1, 0, 0, 0, 0), (129, .iload 4, 2, 4, 0, 0, 0), (131, .ireturn, 1, 0, 0, 0, 0)]
theorem tkX2_readNumber : tOk cX2_readNumber "RumourSource$Text" 6 tX2_readNumber = true := by decide +kernel
theorem fX2_readNumber_0 : fetch tX2_readNumber 0 = some (.aload_n 0, 1, 0, 0, 0, 0) := rfl
theorem fX2_readNumber_1 : fetch tX2_readNumber 1 = some (.invokevirtual 50, 3, 0, 2, 0, 0) := rfl
theorem fX2_readNumber_4 : fetch tX2_readNumber 4 = some (.pop, 1, 0, 0, 0, 0) := rfl
theorem fX2_readNumber_5 : fetch tX2_readNumber 5 = some (.aload_n 0, 1, 0, 0, 0, 0) := rfl
theorem fX2_readNumber_6 : fetch tX2_readNumber 6 = some (.getfield 26, 3, 2, 3, 0, 0) := rfl
theorem fX2_readNumber_9 : fetch tX2_readNumber 9 = some (.istore_n 3, 1, 3, 0, 0, 0) := rfl
theorem fX2_readNumber_10 : fetch tX2_readNumber 10 = some (.iconst 0, 1, 0, 0, 0, 0) := rfl
theorem fX2_readNumber_11 : fetch tX2_readNumber 11 = some (.istore 4, 2, 4, 0, 0, 0) := rfl
theorem fX2_readNumber_13 : fetch tX2_readNumber 13 = some (.aload_n 0, 1, 0, 0, 0, 0) := rfl
theorem fX2_readNumber_14 : fetch tX2_readNumber 14 = some (.getfield 26, 3, 2, 3, 0, 0) := rfl
theorem fX2_readNumber_17 : fetch tX2_readNumber 17 = some (.aload_n 0, 1, 0, 0, 0, 0) := rfl
theorem fX2_readNumber_18 : fetch tX2_readNumber 18 = some (.getfield 15, 3, 2, 1, 0, 0) := rfl
theorem fX2_readNumber_21 : fetch tX2_readNumber 21 = some (.if_icmp .ge 64, 3, 85, 0, 0, 0) := rfl
theorem fX2_readNumber_24 : fetch tX2_readNumber 24 = some (.aload_n 0, 1, 0, 0, 0, 0) := rfl
theorem fX2_readNumber_25 : fetch tX2_readNumber 25 = some (.getfield 9, 3, 2, 0, 0, 0) := rfl
theorem fX2_readNumber_28 : fetch tX2_readNumber 28 = some (.aload_n 0, 1, 0, 0, 0, 0) := rfl
theorem fX2_readNumber_29 : fetch tX2_readNumber 29 = some (.getfield 26, 3, 2, 3, 0, 0) := rfl
theorem fX2_readNumber_32 : fetch tX2_readNumber 32 = some (.iaload, 1, 0, 0, 0, 0) := rfl
theorem fX2_readNumber_33 : fetch tX2_readNumber 33 = some (.bipush 48, 2, 0, 0, 48, 0) := rfl
theorem fX2_readNumber_35 : fetch tX2_readNumber 35 = some (.if_icmp .lt 50, 3, 85, 0, 0, 0) := rfl
theorem fX2_readNumber_38 : fetch tX2_readNumber 38 = some (.aload_n 0, 1, 0, 0, 0, 0) := rfl
theorem fX2_readNumber_39 : fetch tX2_readNumber 39 = some (.getfield 9, 3, 2, 0, 0, 0) := rfl
theorem fX2_readNumber_42 : fetch tX2_readNumber 42 = some (.aload_n 0, 1, 0, 0, 0, 0) := rfl
theorem fX2_readNumber_43 : fetch tX2_readNumber 43 = some (.getfield 26, 3, 2, 3, 0, 0) := rfl
theorem fX2_readNumber_46 : fetch tX2_readNumber 46 = some (.iaload, 1, 0, 0, 0, 0) := rfl
theorem fX2_readNumber_47 : fetch tX2_readNumber 47 = some (.bipush 57, 2, 0, 0, 57, 0) := rfl
theorem fX2_readNumber_49 : fetch tX2_readNumber 49 = some (.if_icmp .gt 36, 3, 85, 0, 0, 0) := rfl
theorem fX2_readNumber_52 : fetch tX2_readNumber 52 = some (.iload 4, 2, 4, 0, 0, 0) := rfl
theorem fX2_readNumber_54 : fetch tX2_readNumber 54 = some (.bipush 10, 2, 0, 0, 10, 0) := rfl
theorem fX2_readNumber_56 : fetch tX2_readNumber 56 = some (.imul, 1, 0, 0, 0, 0) := rfl
theorem fX2_readNumber_57 : fetch tX2_readNumber 57 = some (.aload_n 0, 1, 0, 0, 0, 0) := rfl
theorem fX2_readNumber_58 : fetch tX2_readNumber 58 = some (.getfield 9, 3, 2, 0, 0, 0) := rfl
theorem fX2_readNumber_61 : fetch tX2_readNumber 61 = some (.aload_n 0, 1, 0, 0, 0, 0) := rfl
theorem fX2_readNumber_62 : fetch tX2_readNumber 62 = some (.getfield 26, 3, 2, 3, 0, 0) := rfl
theorem fX2_readNumber_65 : fetch tX2_readNumber 65 = some (.iaload, 1, 0, 0, 0, 0) := rfl
theorem fX2_readNumber_66 : fetch tX2_readNumber 66 = some (.bipush 48, 2, 0, 0, 48, 0) := rfl
theorem fX2_readNumber_68 : fetch tX2_readNumber 68 = some (.isub, 1, 0, 0, 0, 0) := rfl
theorem fX2_readNumber_69 : fetch tX2_readNumber 69 = some (.iadd, 1, 0, 0, 0, 0) := rfl
theorem fX2_readNumber_70 : fetch tX2_readNumber 70 = some (.istore 4, 2, 4, 0, 0, 0) := rfl
theorem fX2_readNumber_72 : fetch tX2_readNumber 72 = some (.aload_n 0, 1, 0, 0, 0, 0) := rfl
theorem fX2_readNumber_73 : fetch tX2_readNumber 73 = some (.dup, 1, 0, 0, 0, 0) := rfl
theorem fX2_readNumber_74 : fetch tX2_readNumber 74 = some (.getfield 26, 3, 2, 3, 0, 0) := rfl
theorem fX2_readNumber_77 : fetch tX2_readNumber 77 = some (.iconst 1, 1, 0, 0, 1, 0) := rfl
theorem fX2_readNumber_78 : fetch tX2_readNumber 78 = some (.iadd, 1, 0, 0, 0, 0) := rfl
theorem fX2_readNumber_79 : fetch tX2_readNumber 79 = some (.putfield 26, 3, 2, 3, 0, 0) := rfl
theorem fX2_readNumber_82 : fetch tX2_readNumber 82 = some (.goto (-69), 3, 13, 0, 0, 0) := rfl
theorem fX2_readNumber_85 : fetch tX2_readNumber 85 = some (.aload_n 0, 1, 0, 0, 0, 0) := rfl
theorem fX2_readNumber_86 : fetch tX2_readNumber 86 = some (.getfield 26, 3, 2, 3, 0, 0) := rfl
theorem fX2_readNumber_89 : fetch tX2_readNumber 89 = some (.iload_n 3, 1, 3, 0, 0, 0) := rfl
theorem fX2_readNumber_90 : fetch tX2_readNumber 90 = some (.isub, 1, 0, 0, 0, 0) := rfl
theorem fX2_readNumber_91 : fetch tX2_readNumber 91 = some (.istore 5, 2, 5, 0, 0, 0) := rfl
theorem fX2_readNumber_93 : fetch tX2_readNumber 93 = some (.iload 5, 2, 5, 0, 0, 0) := rfl
theorem fX2_readNumber_95 : fetch tX2_readNumber 95 = some (.iconst 1, 1, 0, 0, 1, 0) := rfl
theorem fX2_readNumber_96 : fetch tX2_readNumber 96 = some (.if_icmp .lt 21, 3, 117, 0, 0, 0) := rfl
theorem fX2_readNumber_99 : fetch tX2_readNumber 99 = some (.iload 5, 2, 5, 0, 0, 0) := rfl
theorem fX2_readNumber_101 : fetch tX2_readNumber 101 = some (.iconst 2, 1, 0, 0, 2, 0) := rfl
theorem fX2_readNumber_102 : fetch tX2_readNumber 102 = some (.if_icmp .gt 15, 3, 117, 0, 0, 0) := rfl
theorem fX2_readNumber_105 : fetch tX2_readNumber 105 = some (.iload 4, 2, 4, 0, 0, 0) := rfl
theorem fX2_readNumber_107 : fetch tX2_readNumber 107 = some (.iload_n 1, 1, 1, 0, 0, 0) := rfl
theorem fX2_readNumber_108 : fetch tX2_readNumber 108 = some (.if_icmp .lt 9, 3, 117, 0, 0, 0) := rfl
theorem fX2_readNumber_111 : fetch tX2_readNumber 111 = some (.iload 4, 2, 4, 0, 0, 0) := rfl
theorem fX2_readNumber_113 : fetch tX2_readNumber 113 = some (.iload_n 2, 1, 2, 0, 0, 0) := rfl
theorem fX2_readNumber_114 : fetch tX2_readNumber 114 = some (.if_icmp .le 15, 3, 129, 0, 0, 0) := rfl
theorem fX2_readNumber_117 : fetch tX2_readNumber 117 = some (.aload_n 0, 1, 0, 0, 0, 0) := rfl
theorem fX2_readNumber_118 : fetch tX2_readNumber 118 = some (.iload_n 3, 1, 3, 0, 0, 0) := rfl
theorem fX2_readNumber_119 : fetch tX2_readNumber 119 = some (.putfield 26, 3, 2, 3, 0, 0) := rfl
theorem fX2_readNumber_122 : fetch tX2_readNumber 122 = some (.aload_n 0, 1, 0, 0, 0, 0) := rfl
theorem fX2_readNumber_123 : fetch tX2_readNumber 123 = some (.invokevirtual 47, 3, 1, 2, 0, 0) := rfl
theorem fX2_readNumber_126 : fetch tX2_readNumber 126 = some (.pop, 1, 0, 0, 0, 0) := rfl
theorem fX2_readNumber_127 : fetch tX2_readNumber 127 = some (.iconst (-1), 1, 0, 0, (-1), 0) := rfl
theorem fX2_readNumber_128 : fetch tX2_readNumber 128 = some (.ireturn, 1, 0, 0, 0, 0) := rfl
theorem fX2_readNumber_129 : fetch tX2_readNumber 129 = some (.iload 4, 2, 4, 0, 0, 0) := rfl
theorem fX2_readNumber_131 : fetch tX2_readNumber 131 = some (.ireturn, 1, 0, 0, 0, 0) := rfl
def tX2_nextByte : List (Nat × TE) := [(0, .aload_n 0, 1, 0, 0, 0, 0), (1, .getfield 26, 3, 2, 3, 0, 0), (4, .aload_n 0, 1, 0, 0, 0, 0), (5, .getfield 15, 3, 2, 1, 0, 0), (8, .if_icmp .ge 30, 3, 38, 0, 0, 0), (11, .aload_n 0, 1, 0, 0, 0, 0), (12, .getfield 9, 3, 2, 0, 0, 0), (15, .aload_n 0, 1, 0, 0, 0, 0), (16, .getfield 26, 3, 2, 3, 0, 0), (19, .iaload, 1, 0, 0, 0, 0), (20, .bipush 32, 2, 0, 0, 32, 0), (22, .if_icmp .ne 16, 3, 38, 0, 0, 0), (25, .aload_n 0, 1, 0, 0, 0, 0), (26, .dup, 1, 0, 0, 0, 0), (27, .getfield 26, 3, 2, 3, 0, 0), (30, .iconst 1, 1, 0, 0, 1, 0), (31, .iadd, 1, 0, 0, 0, 0), (32, .putfield 26, 3, 2, 3, 0, 0), (35, .goto (-35), 3, 0, 0, 0, 0), (38, .aload_n 0, 1, 0, 0, 0, 0), (39, .getfield 26, 3, 2, 3, 0, 0), (42, .aload_n 0, 1, 0, 0, 0, 0), (43, .getfield 15, 3, 2, 1, 0, 0), (46, .if_icmp .ge 15, 3, 61, 0, 0, 0), (49, .aload_n 0, 1, 0, 0, 0, 0), (50, .getfield 9, 3, 2, 0, 0, 0), (53, .aload_n 0, 1, 0, 0, 0, 0), (54, .getfield 26, 3, 2, 3, 0, 0), (57, .iaload, 1, 0, 0, 0, 0), (58, .goto 4, 3, 62, 0, 0, 0), (61, .iconst (-1), 1, 0, 0, (-1), 0), (62, .ireturn, 1, 0, 0, 0, 0)]
theorem tkX2_nextByte : tOk cX2_nextByte "RumourSource$Text" 1 tX2_nextByte = true := by decide +kernel
theorem fX2_nextByte_0 : fetch tX2_nextByte 0 = some (.aload_n 0, 1, 0, 0, 0, 0) := rfl
theorem fX2_nextByte_1 : fetch tX2_nextByte 1 = some (.getfield 26, 3, 2, 3, 0, 0) := rfl
theorem fX2_nextByte_4 : fetch tX2_nextByte 4 = some (.aload_n 0, 1, 0, 0, 0, 0) := rfl
theorem fX2_nextByte_5 : fetch tX2_nextByte 5 = some (.getfield 15, 3, 2, 1, 0, 0) := rfl
theorem fX2_nextByte_8 : fetch tX2_nextByte 8 = some (.if_icmp .ge 30, 3, 38, 0, 0, 0) := rfl
theorem fX2_nextByte_11 : fetch tX2_nextByte 11 = some (.aload_n 0, 1, 0, 0, 0, 0) := rfl
theorem fX2_nextByte_12 : fetch tX2_nextByte 12 = some (.getfield 9, 3, 2, 0, 0, 0) := rfl
theorem fX2_nextByte_15 : fetch tX2_nextByte 15 = some (.aload_n 0, 1, 0, 0, 0, 0) := rfl
theorem fX2_nextByte_16 : fetch tX2_nextByte 16 = some (.getfield 26, 3, 2, 3, 0, 0) := rfl
theorem fX2_nextByte_19 : fetch tX2_nextByte 19 = some (.iaload, 1, 0, 0, 0, 0) := rfl
theorem fX2_nextByte_20 : fetch tX2_nextByte 20 = some (.bipush 32, 2, 0, 0, 32, 0) := rfl
theorem fX2_nextByte_22 : fetch tX2_nextByte 22 = some (.if_icmp .ne 16, 3, 38, 0, 0, 0) := rfl
theorem fX2_nextByte_25 : fetch tX2_nextByte 25 = some (.aload_n 0, 1, 0, 0, 0, 0) := rfl
theorem fX2_nextByte_26 : fetch tX2_nextByte 26 = some (.dup, 1, 0, 0, 0, 0) := rfl
theorem fX2_nextByte_27 : fetch tX2_nextByte 27 = some (.getfield 26, 3, 2, 3, 0, 0) := rfl
theorem fX2_nextByte_30 : fetch tX2_nextByte 30 = some (.iconst 1, 1, 0, 0, 1, 0) := rfl
theorem fX2_nextByte_31 : fetch tX2_nextByte 31 = some (.iadd, 1, 0, 0, 0, 0) := rfl
theorem fX2_nextByte_32 : fetch tX2_nextByte 32 = some (.putfield 26, 3, 2, 3, 0, 0) := rfl
theorem fX2_nextByte_35 : fetch tX2_nextByte 35 = some (.goto (-35), 3, 0, 0, 0, 0) := rfl
theorem fX2_nextByte_38 : fetch tX2_nextByte 38 = some (.aload_n 0, 1, 0, 0, 0, 0) := rfl
theorem fX2_nextByte_39 : fetch tX2_nextByte 39 = some (.getfield 26, 3, 2, 3, 0, 0) := rfl
theorem fX2_nextByte_42 : fetch tX2_nextByte 42 = some (.aload_n 0, 1, 0, 0, 0, 0) := rfl
theorem fX2_nextByte_43 : fetch tX2_nextByte 43 = some (.getfield 15, 3, 2, 1, 0, 0) := rfl
theorem fX2_nextByte_46 : fetch tX2_nextByte 46 = some (.if_icmp .ge 15, 3, 61, 0, 0, 0) := rfl
theorem fX2_nextByte_49 : fetch tX2_nextByte 49 = some (.aload_n 0, 1, 0, 0, 0, 0) := rfl
theorem fX2_nextByte_50 : fetch tX2_nextByte 50 = some (.getfield 9, 3, 2, 0, 0, 0) := rfl
theorem fX2_nextByte_53 : fetch tX2_nextByte 53 = some (.aload_n 0, 1, 0, 0, 0, 0) := rfl
theorem fX2_nextByte_54 : fetch tX2_nextByte 54 = some (.getfield 26, 3, 2, 3, 0, 0) := rfl
theorem fX2_nextByte_57 : fetch tX2_nextByte 57 = some (.iaload, 1, 0, 0, 0, 0) := rfl
theorem fX2_nextByte_58 : fetch tX2_nextByte 58 = some (.goto 4, 3, 62, 0, 0, 0) := rfl
theorem fX2_nextByte_61 : fetch tX2_nextByte 61 = some (.iconst (-1), 1, 0, 0, (-1), 0) := rfl
theorem fX2_nextByte_62 : fetch tX2_nextByte 62 = some (.ireturn, 1, 0, 0, 0, 0) := rfl
def tX2_nextNode : List (Nat × TE) := [(0, .aload_n 0, 1, 0, 0, 0, 0), (1, .invokevirtual 50, 3, 0, 2, 0, 0), (4, .bipush 48, 2, 0, 0, 48, 0), (6, .isub, 1, 0, 0, 0, 0), (7, .istore_n 1, 1, 1, 0, 0, 0), (8, .iload_n 1, 1, 1, 0, 0, 0), (9, .invokestatic 80, 3, 1, 3, 0, 0), (12, .ifCond .eq 7, 3, 19, 0, 0, 0), (15, .iload_n 1, 1, 1, 0, 0, 0), (16, .goto 4, 3, 20, 0, 0, 0), (19, .iconst (-1), 1, 0, 0, (-1), 0), (20, .ireturn, 1, 0, 0, 0, 0)]
theorem tkX2_nextNode : tOk cX2_nextNode "RumourSource$Text" 2 tX2_nextNode = true := by decide +kernel
theorem fX2_nextNode_0 : fetch tX2_nextNode 0 = some (.aload_n 0, 1, 0, 0, 0, 0) := rfl
theorem fX2_nextNode_1 : fetch tX2_nextNode 1 = some (.invokevirtual 50, 3, 0, 2, 0, 0) := rfl
theorem fX2_nextNode_4 : fetch tX2_nextNode 4 = some (.bipush 48, 2, 0, 0, 48, 0) := rfl
theorem fX2_nextNode_6 : fetch tX2_nextNode 6 = some (.isub, 1, 0, 0, 0, 0) := rfl
theorem fX2_nextNode_7 : fetch tX2_nextNode 7 = some (.istore_n 1, 1, 1, 0, 0, 0) := rfl
theorem fX2_nextNode_8 : fetch tX2_nextNode 8 = some (.iload_n 1, 1, 1, 0, 0, 0) := rfl
theorem fX2_nextNode_9 : fetch tX2_nextNode 9 = some (.invokestatic 80, 3, 1, 3, 0, 0) := rfl
theorem fX2_nextNode_12 : fetch tX2_nextNode 12 = some (.ifCond .eq 7, 3, 19, 0, 0, 0) := rfl
theorem fX2_nextNode_15 : fetch tX2_nextNode 15 = some (.iload_n 1, 1, 1, 0, 0, 0) := rfl
theorem fX2_nextNode_16 : fetch tX2_nextNode 16 = some (.goto 4, 3, 20, 0, 0, 0) := rfl
theorem fX2_nextNode_19 : fetch tX2_nextNode 19 = some (.iconst (-1), 1, 0, 0, (-1), 0) := rfl
theorem fX2_nextNode_20 : fetch tX2_nextNode 20 = some (.ireturn, 1, 0, 0, 0, 0) := rfl
def tX2_accept : List (Nat × TE) := [(0, .aload_n 0, 1, 0, 0, 0, 0), (1, .invokevirtual 50, 3, 0, 2, 0, 0), (4, .iload_n 1, 1, 1, 0, 0, 0), (5, .if_icmp .eq 8, 3, 13, 0, 0, 0), (8, .aload_n 0, 1, 0, 0, 0, 0), (9, .invokevirtual 47, 3, 1, 2, 0, 0), (12, .ireturn, 1, 0, 0, 0, 0), (13, .aload_n 0, 1, 0, 0, 0, 0), (14, .dup, 1, 0, 0, 0, 0), (15, .getfield 26, 3, 2, 3, 0, 0), (18, .iconst 1, 1, 0, 0, 1, 0), (19, .iadd, 1, 0, 0, 0, 0), (20, .putfield 26, 3, 2, 3, 0, 0), (23, .iconst 1, 1, 0, 0, 1, 0), (24, .ireturn, 1, 0, 0, 0, 0)]
theorem tkX2_accept : tOk cX2_accept "RumourSource$Text" 2 tX2_accept = true := by decide +kernel
theorem fX2_accept_0 : fetch tX2_accept 0 = some (.aload_n 0, 1, 0, 0, 0, 0) := rfl
theorem fX2_accept_1 : fetch tX2_accept 1 = some (.invokevirtual 50, 3, 0, 2, 0, 0) := rfl
theorem fX2_accept_4 : fetch tX2_accept 4 = some (.iload_n 1, 1, 1, 0, 0, 0) := rfl
theorem fX2_accept_5 : fetch tX2_accept 5 = some (.if_icmp .eq 8, 3, 13, 0, 0, 0) := rfl
theorem fX2_accept_8 : fetch tX2_accept 8 = some (.aload_n 0, 1, 0, 0, 0, 0) := rfl
theorem fX2_accept_9 : fetch tX2_accept 9 = some (.invokevirtual 47, 3, 1, 2, 0, 0) := rfl
theorem fX2_accept_12 : fetch tX2_accept 12 = some (.ireturn, 1, 0, 0, 0, 0) := rfl
theorem fX2_accept_13 : fetch tX2_accept 13 = some (.aload_n 0, 1, 0, 0, 0, 0) := rfl
theorem fX2_accept_14 : fetch tX2_accept 14 = some (.dup, 1, 0, 0, 0, 0) := rfl
theorem fX2_accept_15 : fetch tX2_accept 15 = some (.getfield 26, 3, 2, 3, 0, 0) := rfl
theorem fX2_accept_18 : fetch tX2_accept 18 = some (.iconst 1, 1, 0, 0, 1, 0) := rfl
theorem fX2_accept_19 : fetch tX2_accept 19 = some (.iadd, 1, 0, 0, 0, 0) := rfl
theorem fX2_accept_20 : fetch tX2_accept 20 = some (.putfield 26, 3, 2, 3, 0, 0) := rfl
theorem fX2_accept_23 : fetch tX2_accept 23 = some (.iconst 1, 1, 0, 0, 1, 0) := rfl
theorem fX2_accept_24 : fetch tX2_accept 24 = some (.ireturn, 1, 0, 0, 0, 0) := rfl
def tX2_refuse : List (Nat × TE) := [(0, .aload_n 0, 1, 0, 0, 0, 0), (1, .aload_n 0, 1, 0, 0, 0, 0), (2, .getfield 26, 3, 2, 3, 0, 0), (5, .putfield 29, 3, 2, 4, 0, 0), (8, .iconst 0, 1, 0, 0, 0, 0), (9, .ireturn, 1, 0, 0, 0, 0)]
theorem tkX2_refuse : tOk cX2_refuse "RumourSource$Text" 1 tX2_refuse = true := by decide +kernel
theorem fX2_refuse_0 : fetch tX2_refuse 0 = some (.aload_n 0, 1, 0, 0, 0, 0) := rfl
theorem fX2_refuse_1 : fetch tX2_refuse 1 = some (.aload_n 0, 1, 0, 0, 0, 0) := rfl
theorem fX2_refuse_2 : fetch tX2_refuse 2 = some (.getfield 26, 3, 2, 3, 0, 0) := rfl
theorem fX2_refuse_5 : fetch tX2_refuse 5 = some (.putfield 29, 3, 2, 4, 0, 0) := rfl
theorem fX2_refuse_8 : fetch tX2_refuse 8 = some (.iconst 0, 1, 0, 0, 0, 0) := rfl
theorem fX2_refuse_9 : fetch tX2_refuse 9 = some (.ireturn, 1, 0, 0, 0, 0) := rfl
def tX3_init : List (Nat × TE) := [(0, .aload_n 0, 1, 0, 0, 0, 0), (1, .invokespecial 3, 3, 0, 0, 0, 0), (4, .aload_n 0, 1, 0, 0, 0, 0), (5, .new 9, 3, 0, 0, 0, 0), (8, .dup, 1, 0, 0, 0, 0), (9, .invokespecial 11, 3, 0, 0, 0, 0), (12, .putfield 12, 3, 3, 0, 0, 0), (15, .aload_n 0, 1, 0, 0, 0, 0), (16, .iconst 5, 1, 0, 0, 5, 0), (17, .anewarray 9, 3, 0, 0, 0, 0), (20, .putfield 16, 3, 3, 1, 0, 0), (23, .aload_n 0, 1, 0, 0, 0, 0), (24, .new 20, 3, 0, 0, 0, 0), (27, .dup, 1, 0, 0, 0, 0), (28, .invokespecial 22, 3, 0, 0, 0, 0), (31, .putfield 23, 3, 3, 2, 0, 0), (34, .aload_n 0, 1, 0, 0, 0, 0), (35, .new 27, 3, 0, 0, 0, 0), (38, .dup, 1, 0, 0, 0, 0), (39, .invokespecial 29, 3, 0, 0, 0, 0), (42, .putfield 30, 3, 3, 3, 0, 0), (45, .aload_n 0, 1, 0, 0, 0, 0), (46, .bipush 8, 2, 0, 0, 8, 0), (48, .newarray .long, 2, 0, 0, 0, 0), (50, .putfield 34, 3, 3, 4, 0, 0), (53, .aload_n 0, 1, 0, 0, 0, 0), (54, .iconst 0, 1, 0, 0, 0, 0), (55, .putfield 38, 3, 3, 5, 0, 0), (58, .iconst 0, 1, 0, 0, 0, 0), (59, .istore_n 1, 1, 1, 0, 0, 0), (60, .iload_n 1, 1, 1, 0, 0, 0), (61, .aload_n 0, 1, 0, 0, 0, 0), (62, .getfield 16, 3, 3, 1, 0, 0), (65, .arraylength, 1, 0, 0, 0, 0), (66, .if_icmp .ge 22, 3, 88, 0, 0, 0), (69, .aload_n 0, 1, 0, 0, 0, 0), (70, .getfield 16, 3, 3, 1, 0, 0), (73, .iload_n 1, 1, 1, 0, 0, 0), (74, .new 9, 3, 0, 0, 0, 0), (77, .dup, 1, 0, 0, 0, 0), (78, .invokespecial 11, 3, 0, 0, 0, 0), (81, .aastore, 1, 0, 0, 0, 0), (82, .iinc 1 1, 3, 1, 0, 1, 0), (85, .goto (-25), 3, 60, 0, 0, 0), (88, .return_, 1, 0, 0, 0, 0)]
theorem tkX3_init : tOk cX3_init "RumourSource" 2 tX3_init = true := by decide +kernel
theorem fX3_init_0 : fetch tX3_init 0 = some (.aload_n 0, 1, 0, 0, 0, 0) := rfl
theorem fX3_init_1 : fetch tX3_init 1 = some (.invokespecial 3, 3, 0, 0, 0, 0) := rfl
theorem fX3_init_4 : fetch tX3_init 4 = some (.aload_n 0, 1, 0, 0, 0, 0) := rfl
theorem fX3_init_5 : fetch tX3_init 5 = some (.new 9, 3, 0, 0, 0, 0) := rfl
theorem fX3_init_8 : fetch tX3_init 8 = some (.dup, 1, 0, 0, 0, 0) := rfl
theorem fX3_init_9 : fetch tX3_init 9 = some (.invokespecial 11, 3, 0, 0, 0, 0) := rfl
theorem fX3_init_12 : fetch tX3_init 12 = some (.putfield 12, 3, 3, 0, 0, 0) := rfl
theorem fX3_init_15 : fetch tX3_init 15 = some (.aload_n 0, 1, 0, 0, 0, 0) := rfl
theorem fX3_init_16 : fetch tX3_init 16 = some (.iconst 5, 1, 0, 0, 5, 0) := rfl
theorem fX3_init_17 : fetch tX3_init 17 = some (.anewarray 9, 3, 0, 0, 0, 0) := rfl
theorem fX3_init_20 : fetch tX3_init 20 = some (.putfield 16, 3, 3, 1, 0, 0) := rfl
theorem fX3_init_23 : fetch tX3_init 23 = some (.aload_n 0, 1, 0, 0, 0, 0) := rfl
theorem fX3_init_24 : fetch tX3_init 24 = some (.new 20, 3, 0, 0, 0, 0) := rfl
theorem fX3_init_27 : fetch tX3_init 27 = some (.dup, 1, 0, 0, 0, 0) := rfl
theorem fX3_init_28 : fetch tX3_init 28 = some (.invokespecial 22, 3, 0, 0, 0, 0) := rfl
theorem fX3_init_31 : fetch tX3_init 31 = some (.putfield 23, 3, 3, 2, 0, 0) := rfl
theorem fX3_init_34 : fetch tX3_init 34 = some (.aload_n 0, 1, 0, 0, 0, 0) := rfl
theorem fX3_init_35 : fetch tX3_init 35 = some (.new 27, 3, 0, 0, 0, 0) := rfl
theorem fX3_init_38 : fetch tX3_init 38 = some (.dup, 1, 0, 0, 0, 0) := rfl
theorem fX3_init_39 : fetch tX3_init 39 = some (.invokespecial 29, 3, 0, 0, 0, 0) := rfl
theorem fX3_init_42 : fetch tX3_init 42 = some (.putfield 30, 3, 3, 3, 0, 0) := rfl
theorem fX3_init_45 : fetch tX3_init 45 = some (.aload_n 0, 1, 0, 0, 0, 0) := rfl
theorem fX3_init_46 : fetch tX3_init 46 = some (.bipush 8, 2, 0, 0, 8, 0) := rfl
theorem fX3_init_48 : fetch tX3_init 48 = some (.newarray .long, 2, 0, 0, 0, 0) := rfl
theorem fX3_init_50 : fetch tX3_init 50 = some (.putfield 34, 3, 3, 4, 0, 0) := rfl
theorem fX3_init_53 : fetch tX3_init 53 = some (.aload_n 0, 1, 0, 0, 0, 0) := rfl
theorem fX3_init_54 : fetch tX3_init 54 = some (.iconst 0, 1, 0, 0, 0, 0) := rfl
theorem fX3_init_55 : fetch tX3_init 55 = some (.putfield 38, 3, 3, 5, 0, 0) := rfl
theorem fX3_init_58 : fetch tX3_init 58 = some (.iconst 0, 1, 0, 0, 0, 0) := rfl
theorem fX3_init_59 : fetch tX3_init 59 = some (.istore_n 1, 1, 1, 0, 0, 0) := rfl
theorem fX3_init_60 : fetch tX3_init 60 = some (.iload_n 1, 1, 1, 0, 0, 0) := rfl
theorem fX3_init_61 : fetch tX3_init 61 = some (.aload_n 0, 1, 0, 0, 0, 0) := rfl
theorem fX3_init_62 : fetch tX3_init 62 = some (.getfield 16, 3, 3, 1, 0, 0) := rfl
theorem fX3_init_65 : fetch tX3_init 65 = some (.arraylength, 1, 0, 0, 0, 0) := rfl
theorem fX3_init_66 : fetch tX3_init 66 = some (.if_icmp .ge 22, 3, 88, 0, 0, 0) := rfl
theorem fX3_init_69 : fetch tX3_init 69 = some (.aload_n 0, 1, 0, 0, 0, 0) := rfl
theorem fX3_init_70 : fetch tX3_init 70 = some (.getfield 16, 3, 3, 1, 0, 0) := rfl
theorem fX3_init_73 : fetch tX3_init 73 = some (.iload_n 1, 1, 1, 0, 0, 0) := rfl
theorem fX3_init_74 : fetch tX3_init 74 = some (.new 9, 3, 0, 0, 0, 0) := rfl
theorem fX3_init_77 : fetch tX3_init 77 = some (.dup, 1, 0, 0, 0, 0) := rfl
theorem fX3_init_78 : fetch tX3_init 78 = some (.invokespecial 11, 3, 0, 0, 0, 0) := rfl
theorem fX3_init_81 : fetch tX3_init 81 = some (.aastore, 1, 0, 0, 0, 0) := rfl
theorem fX3_init_82 : fetch tX3_init 82 = some (.iinc 1 1, 3, 1, 0, 1, 0) := rfl
theorem fX3_init_85 : fetch tX3_init 85 = some (.goto (-25), 3, 60, 0, 0, 0) := rfl
theorem fX3_init_88 : fetch tX3_init 88 = some (.return_, 1, 0, 0, 0, 0) := rfl
def tX3_addEdge : List (Nat × TE) := [(0, .iload_n 1, 1, 1, 0, 0, 0), (1, .invokestatic 42, 3, 0, 3, 0, 0), (4, .ifCond .eq 10, 3, 14, 0, 0, 0), (7, .iload_n 2, 1, 2, 0, 0, 0), (8, .invokestatic 42, 3, 0, 3, 0, 0), (11, .ifCond .ne 6, 3, 17, 0, 0, 0), (14, .bipush (-2), 2, 0, 0, (-2), 0), (16, .ireturn, 1, 0, 0, 0, 0), (17, .iload_n 3, 1, 3, 0, 0, 0), (18, .invokestatic 46, 3, 1, 3, 0, 0), (21, .ifCond .eq 16, 3, 37, 0, 0, 0), (24, .iload 4, 2, 4, 0, 0, 0), (26, .invokestatic 49, 3, 2, 3, 0, 0), (29, .ifCond .eq 8, 3, 37, 0, 0, 0), (32, .iload_n 1, 1, 1, 0, 0, 0), (33, .iload_n 2, 1, 2, 0, 0, 0), (34, .if_icmp .ne 6, 3, 40, 0, 0, 0), (37, .bipush (-3), 2, 0, 0, (-3), 0), (39, .ireturn, 1, 0, 0, 0, 0), (40, .aload_n 0, 1, 0, 0, 0, 0), (41, .getfield 12, 3, 3, 0, 0, 0), (44, .iload_n 1, 1, 1, 0, 0, 0), (45, .iload_n 2, 1, 2, 0, 0, 0), (46, .invokevirtual 52, 3, 3, 0, 0, 0), (49, .iconst (-1), 1, 0, 0, (-1), 0), (50, .if_icmp .eq 6, 3, 56, 0, 0, 0), (53, .bipush (-4), 2, 0, 0, (-4), 0), (55, .ireturn, 1, 0, 0, 0, 0), (56, .aload_n 0, 1, 0, 0, 0, 0), (57, .getfield 12, 3, 3, 0, 0, 0), (60, .invokevirtual 56, 3, 4, 0, 0, 0), (63, .ifCond .eq 6, 3, 69, 0, 0, 0), (66, .bipush (-5), 2, 0, 0, (-5), 0), (68, .ireturn, 1, 0, 0, 0, 0), (69, .aload_n 0, 1, 0, 0, 0, 0), (70, .invokevirtual 60, 3, 5, 3, 0, 0), (73, .aload_n 0, 1, 0, 0, 0, 0), (74, .getfield 12, 3, 3, 0, 0, 0), (77, .iload_n 1, 1, 1, 0, 0, 0), (78, .iload_n 2, 1, 2, 0, 0, 0), (79, .iload_n 3, 1, 3, 0, 0, 0), (80, .iload 4, 2, 4, 0, 0, 0), (82, .invokevirtual 63, 3, 6, 0, 0, 0), (85, .ireturn, 1, 0, 0, 0, 0)]
theorem tkX3_addEdge : tOk cX3_addEdge "RumourSource" 5 tX3_addEdge = true := by decide +kernel
theorem fX3_addEdge_0 : fetch tX3_addEdge 0 = some (.iload_n 1, 1, 1, 0, 0, 0) := rfl
theorem fX3_addEdge_1 : fetch tX3_addEdge 1 = some (.invokestatic 42, 3, 0, 3, 0, 0) := rfl
theorem fX3_addEdge_4 : fetch tX3_addEdge 4 = some (.ifCond .eq 10, 3, 14, 0, 0, 0) := rfl
theorem fX3_addEdge_7 : fetch tX3_addEdge 7 = some (.iload_n 2, 1, 2, 0, 0, 0) := rfl
theorem fX3_addEdge_8 : fetch tX3_addEdge 8 = some (.invokestatic 42, 3, 0, 3, 0, 0) := rfl
theorem fX3_addEdge_11 : fetch tX3_addEdge 11 = some (.ifCond .ne 6, 3, 17, 0, 0, 0) := rfl
theorem fX3_addEdge_14 : fetch tX3_addEdge 14 = some (.bipush (-2), 2, 0, 0, (-2), 0) := rfl
theorem fX3_addEdge_16 : fetch tX3_addEdge 16 = some (.ireturn, 1, 0, 0, 0, 0) := rfl
theorem fX3_addEdge_17 : fetch tX3_addEdge 17 = some (.iload_n 3, 1, 3, 0, 0, 0) := rfl
theorem fX3_addEdge_18 : fetch tX3_addEdge 18 = some (.invokestatic 46, 3, 1, 3, 0, 0) := rfl
theorem fX3_addEdge_21 : fetch tX3_addEdge 21 = some (.ifCond .eq 16, 3, 37, 0, 0, 0) := rfl
theorem fX3_addEdge_24 : fetch tX3_addEdge 24 = some (.iload 4, 2, 4, 0, 0, 0) := rfl
theorem fX3_addEdge_26 : fetch tX3_addEdge 26 = some (.invokestatic 49, 3, 2, 3, 0, 0) := rfl
theorem fX3_addEdge_29 : fetch tX3_addEdge 29 = some (.ifCond .eq 8, 3, 37, 0, 0, 0) := rfl
theorem fX3_addEdge_32 : fetch tX3_addEdge 32 = some (.iload_n 1, 1, 1, 0, 0, 0) := rfl
theorem fX3_addEdge_33 : fetch tX3_addEdge 33 = some (.iload_n 2, 1, 2, 0, 0, 0) := rfl
theorem fX3_addEdge_34 : fetch tX3_addEdge 34 = some (.if_icmp .ne 6, 3, 40, 0, 0, 0) := rfl
theorem fX3_addEdge_37 : fetch tX3_addEdge 37 = some (.bipush (-3), 2, 0, 0, (-3), 0) := rfl
theorem fX3_addEdge_39 : fetch tX3_addEdge 39 = some (.ireturn, 1, 0, 0, 0, 0) := rfl
theorem fX3_addEdge_40 : fetch tX3_addEdge 40 = some (.aload_n 0, 1, 0, 0, 0, 0) := rfl
theorem fX3_addEdge_41 : fetch tX3_addEdge 41 = some (.getfield 12, 3, 3, 0, 0, 0) := rfl
theorem fX3_addEdge_44 : fetch tX3_addEdge 44 = some (.iload_n 1, 1, 1, 0, 0, 0) := rfl
theorem fX3_addEdge_45 : fetch tX3_addEdge 45 = some (.iload_n 2, 1, 2, 0, 0, 0) := rfl
theorem fX3_addEdge_46 : fetch tX3_addEdge 46 = some (.invokevirtual 52, 3, 3, 0, 0, 0) := rfl
theorem fX3_addEdge_49 : fetch tX3_addEdge 49 = some (.iconst (-1), 1, 0, 0, (-1), 0) := rfl
theorem fX3_addEdge_50 : fetch tX3_addEdge 50 = some (.if_icmp .eq 6, 3, 56, 0, 0, 0) := rfl
theorem fX3_addEdge_53 : fetch tX3_addEdge 53 = some (.bipush (-4), 2, 0, 0, (-4), 0) := rfl
theorem fX3_addEdge_55 : fetch tX3_addEdge 55 = some (.ireturn, 1, 0, 0, 0, 0) := rfl
theorem fX3_addEdge_56 : fetch tX3_addEdge 56 = some (.aload_n 0, 1, 0, 0, 0, 0) := rfl
theorem fX3_addEdge_57 : fetch tX3_addEdge 57 = some (.getfield 12, 3, 3, 0, 0, 0) := rfl
theorem fX3_addEdge_60 : fetch tX3_addEdge 60 = some (.invokevirtual 56, 3, 4, 0, 0, 0) := rfl
theorem fX3_addEdge_63 : fetch tX3_addEdge 63 = some (.ifCond .eq 6, 3, 69, 0, 0, 0) := rfl
theorem fX3_addEdge_66 : fetch tX3_addEdge 66 = some (.bipush (-5), 2, 0, 0, (-5), 0) := rfl
theorem fX3_addEdge_68 : fetch tX3_addEdge 68 = some (.ireturn, 1, 0, 0, 0, 0) := rfl
theorem fX3_addEdge_69 : fetch tX3_addEdge 69 = some (.aload_n 0, 1, 0, 0, 0, 0) := rfl
theorem fX3_addEdge_70 : fetch tX3_addEdge 70 = some (.invokevirtual 60, 3, 5, 3, 0, 0) := rfl
theorem fX3_addEdge_73 : fetch tX3_addEdge 73 = some (.aload_n 0, 1, 0, 0, 0, 0) := rfl
theorem fX3_addEdge_74 : fetch tX3_addEdge 74 = some (.getfield 12, 3, 3, 0, 0, 0) := rfl
theorem fX3_addEdge_77 : fetch tX3_addEdge 77 = some (.iload_n 1, 1, 1, 0, 0, 0) := rfl
theorem fX3_addEdge_78 : fetch tX3_addEdge 78 = some (.iload_n 2, 1, 2, 0, 0, 0) := rfl
theorem fX3_addEdge_79 : fetch tX3_addEdge 79 = some (.iload_n 3, 1, 3, 0, 0, 0) := rfl
theorem fX3_addEdge_80 : fetch tX3_addEdge 80 = some (.iload 4, 2, 4, 0, 0, 0) := rfl
theorem fX3_addEdge_82 : fetch tX3_addEdge 82 = some (.invokevirtual 63, 3, 6, 0, 0, 0) := rfl
theorem fX3_addEdge_85 : fetch tX3_addEdge 85 = some (.ireturn, 1, 0, 0, 0, 0) := rfl
def tX3_setEdge : List (Nat × TE) := [(0, .aload_n 0, 1, 0, 0, 0, 0), (1, .getfield 12, 3, 3, 0, 0, 0), (4, .iload_n 1, 1, 1, 0, 0, 0), (5, .invokevirtual 67, 3, 0, 0, 0, 0), (8, .ifCond .ne 6, 3, 14, 0, 0, 0), (11, .bipush (-2), 2, 0, 0, (-2), 0), (13, .ireturn, 1, 0, 0, 0, 0), (14, .iload_n 2, 1, 2, 0, 0, 0), (15, .invokestatic 46, 3, 1, 3, 0, 0), (18, .ifCond .eq 10, 3, 28, 0, 0, 0), (21, .iload_n 3, 1, 3, 0, 0, 0), (22, .invokestatic 49, 3, 2, 3, 0, 0), (25, .ifCond .ne 6, 3, 31, 0, 0, 0), (28, .bipush (-3), 2, 0, 0, (-3), 0), (30, .ireturn, 1, 0, 0, 0, 0), (31, .aload_n 0, 1, 0, 0, 0, 0), (32, .invokevirtual 60, 3, 3, 3, 0, 0), (35, .aload_n 0, 1, 0, 0, 0, 0), (36, .getfield 12, 3, 3, 0, 0, 0), (39, .getfield 70, 3, 0, 2, 0, 0), (42, .iload_n 1, 1, 1, 0, 0, 0), (43, .iaload, 1, 0, 0, 0, 0), (44, .istore 4, 2, 4, 0, 0, 0), (46, .aload_n 0, 1, 0, 0, 0, 0), (47, .getfield 12, 3, 3, 0, 0, 0), (50, .getfield 70, 3, 0, 2, 0, 0), (53, .iload_n 1, 1, 1, 0, 0, 0), (54, .iload_n 2, 1, 2, 0, 0, 0), (55, .iastore, 1, 0, 0, 0, 0), (56, .aload_n 0, 1, 0, 0, 0, 0), (57, .getfield 12, 3, 3, 0, 0, 0), (60, .getfield 74, 3, 0, 3, 0, 0), (63, .iload_n 1, 1, 1, 0, 0, 0), (64, .iload_n 3, 1, 3, 0, 0, 0), (65, .iastore, 1, 0, 0, 0, 0), (66, .iload 4, 2, 4, 0, 0, 0), (68, .ireturn, 1, 0, 0, 0, 0)]
theorem tkX3_setEdge : tOk cX3_setEdge "RumourSource" 5 tX3_setEdge = true := by decide +kernel
theorem fX3_setEdge_0 : fetch tX3_setEdge 0 = some (.aload_n 0, 1, 0, 0, 0, 0) := rfl
theorem fX3_setEdge_1 : fetch tX3_setEdge 1 = some (.getfield 12, 3, 3, 0, 0, 0) := rfl
theorem fX3_setEdge_4 : fetch tX3_setEdge 4 = some (.iload_n 1, 1, 1, 0, 0, 0) := rfl
theorem fX3_setEdge_5 : fetch tX3_setEdge 5 = some (.invokevirtual 67, 3, 0, 0, 0, 0) := rfl
theorem fX3_setEdge_8 : fetch tX3_setEdge 8 = some (.ifCond .ne 6, 3, 14, 0, 0, 0) := rfl
theorem fX3_setEdge_11 : fetch tX3_setEdge 11 = some (.bipush (-2), 2, 0, 0, (-2), 0) := rfl
theorem fX3_setEdge_13 : fetch tX3_setEdge 13 = some (.ireturn, 1, 0, 0, 0, 0) := rfl
theorem fX3_setEdge_14 : fetch tX3_setEdge 14 = some (.iload_n 2, 1, 2, 0, 0, 0) := rfl
theorem fX3_setEdge_15 : fetch tX3_setEdge 15 = some (.invokestatic 46, 3, 1, 3, 0, 0) := rfl
theorem fX3_setEdge_18 : fetch tX3_setEdge 18 = some (.ifCond .eq 10, 3, 28, 0, 0, 0) := rfl
theorem fX3_setEdge_21 : fetch tX3_setEdge 21 = some (.iload_n 3, 1, 3, 0, 0, 0) := rfl
theorem fX3_setEdge_22 : fetch tX3_setEdge 22 = some (.invokestatic 49, 3, 2, 3, 0, 0) := rfl
theorem fX3_setEdge_25 : fetch tX3_setEdge 25 = some (.ifCond .ne 6, 3, 31, 0, 0, 0) := rfl
theorem fX3_setEdge_28 : fetch tX3_setEdge 28 = some (.bipush (-3), 2, 0, 0, (-3), 0) := rfl
theorem fX3_setEdge_30 : fetch tX3_setEdge 30 = some (.ireturn, 1, 0, 0, 0, 0) := rfl
theorem fX3_setEdge_31 : fetch tX3_setEdge 31 = some (.aload_n 0, 1, 0, 0, 0, 0) := rfl
theorem fX3_setEdge_32 : fetch tX3_setEdge 32 = some (.invokevirtual 60, 3, 3, 3, 0, 0) := rfl
theorem fX3_setEdge_35 : fetch tX3_setEdge 35 = some (.aload_n 0, 1, 0, 0, 0, 0) := rfl
theorem fX3_setEdge_36 : fetch tX3_setEdge 36 = some (.getfield 12, 3, 3, 0, 0, 0) := rfl
theorem fX3_setEdge_39 : fetch tX3_setEdge 39 = some (.getfield 70, 3, 0, 2, 0, 0) := rfl
theorem fX3_setEdge_42 : fetch tX3_setEdge 42 = some (.iload_n 1, 1, 1, 0, 0, 0) := rfl
theorem fX3_setEdge_43 : fetch tX3_setEdge 43 = some (.iaload, 1, 0, 0, 0, 0) := rfl
theorem fX3_setEdge_44 : fetch tX3_setEdge 44 = some (.istore 4, 2, 4, 0, 0, 0) := rfl
theorem fX3_setEdge_46 : fetch tX3_setEdge 46 = some (.aload_n 0, 1, 0, 0, 0, 0) := rfl
theorem fX3_setEdge_47 : fetch tX3_setEdge 47 = some (.getfield 12, 3, 3, 0, 0, 0) := rfl
theorem fX3_setEdge_50 : fetch tX3_setEdge 50 = some (.getfield 70, 3, 0, 2, 0, 0) := rfl
theorem fX3_setEdge_53 : fetch tX3_setEdge 53 = some (.iload_n 1, 1, 1, 0, 0, 0) := rfl
theorem fX3_setEdge_54 : fetch tX3_setEdge 54 = some (.iload_n 2, 1, 2, 0, 0, 0) := rfl
theorem fX3_setEdge_55 : fetch tX3_setEdge 55 = some (.iastore, 1, 0, 0, 0, 0) := rfl
theorem fX3_setEdge_56 : fetch tX3_setEdge 56 = some (.aload_n 0, 1, 0, 0, 0, 0) := rfl
theorem fX3_setEdge_57 : fetch tX3_setEdge 57 = some (.getfield 12, 3, 3, 0, 0, 0) := rfl
theorem fX3_setEdge_60 : fetch tX3_setEdge 60 = some (.getfield 74, 3, 0, 3, 0, 0) := rfl
theorem fX3_setEdge_63 : fetch tX3_setEdge 63 = some (.iload_n 1, 1, 1, 0, 0, 0) := rfl
theorem fX3_setEdge_64 : fetch tX3_setEdge 64 = some (.iload_n 3, 1, 3, 0, 0, 0) := rfl
theorem fX3_setEdge_65 : fetch tX3_setEdge 65 = some (.iastore, 1, 0, 0, 0, 0) := rfl
theorem fX3_setEdge_66 : fetch tX3_setEdge 66 = some (.iload 4, 2, 4, 0, 0, 0) := rfl
theorem fX3_setEdge_68 : fetch tX3_setEdge 68 = some (.ireturn, 1, 0, 0, 0, 0) := rfl
def tX3_removeEdge : List (Nat × TE) := [(0, .aload_n 0, 1, 0, 0, 0, 0), (1, .getfield 12, 3, 3, 0, 0, 0), (4, .iload_n 1, 1, 1, 0, 0, 0), (5, .invokevirtual 67, 3, 0, 0, 0, 0), (8, .ifCond .ne 6, 3, 14, 0, 0, 0), (11, .bipush (-2), 2, 0, 0, (-2), 0), (13, .ireturn, 1, 0, 0, 0, 0), (14, .aload_n 0, 1, 0, 0, 0, 0), (15, .invokevirtual 60, 3, 1, 3, 0, 0), (18, .aload_n 0, 1, 0, 0, 0, 0), (19, .getfield 12, 3, 3, 0, 0, 0), (22, .iload_n 1, 1, 1, 0, 0, 0), (23, .invokevirtual 77, 3, 2, 0, 0, 0), (26, .aload_n 0, 1, 0, 0, 0, 0), (27, .getfield 12, 3, 3, 0, 0, 0), (30, .getfield 81, 3, 0, 4, 0, 0), (33, .ireturn, 1, 0, 0, 0, 0)]
theorem tkX3_removeEdge : tOk cX3_removeEdge "RumourSource" 2 tX3_removeEdge = true := by decide +kernel
theorem fX3_removeEdge_0 : fetch tX3_removeEdge 0 = some (.aload_n 0, 1, 0, 0, 0, 0) := rfl
theorem fX3_removeEdge_1 : fetch tX3_removeEdge 1 = some (.getfield 12, 3, 3, 0, 0, 0) := rfl
theorem fX3_removeEdge_4 : fetch tX3_removeEdge 4 = some (.iload_n 1, 1, 1, 0, 0, 0) := rfl
theorem fX3_removeEdge_5 : fetch tX3_removeEdge 5 = some (.invokevirtual 67, 3, 0, 0, 0, 0) := rfl
theorem fX3_removeEdge_8 : fetch tX3_removeEdge 8 = some (.ifCond .ne 6, 3, 14, 0, 0, 0) := rfl
theorem fX3_removeEdge_11 : fetch tX3_removeEdge 11 = some (.bipush (-2), 2, 0, 0, (-2), 0) := rfl
theorem fX3_removeEdge_13 : fetch tX3_removeEdge 13 = some (.ireturn, 1, 0, 0, 0, 0) := rfl
theorem fX3_removeEdge_14 : fetch tX3_removeEdge 14 = some (.aload_n 0, 1, 0, 0, 0, 0) := rfl
theorem fX3_removeEdge_15 : fetch tX3_removeEdge 15 = some (.invokevirtual 60, 3, 1, 3, 0, 0) := rfl
theorem fX3_removeEdge_18 : fetch tX3_removeEdge 18 = some (.aload_n 0, 1, 0, 0, 0, 0) := rfl
theorem fX3_removeEdge_19 : fetch tX3_removeEdge 19 = some (.getfield 12, 3, 3, 0, 0, 0) := rfl
theorem fX3_removeEdge_22 : fetch tX3_removeEdge 22 = some (.iload_n 1, 1, 1, 0, 0, 0) := rfl
theorem fX3_removeEdge_23 : fetch tX3_removeEdge 23 = some (.invokevirtual 77, 3, 2, 0, 0, 0) := rfl
theorem fX3_removeEdge_26 : fetch tX3_removeEdge 26 = some (.aload_n 0, 1, 0, 0, 0, 0) := rfl
theorem fX3_removeEdge_27 : fetch tX3_removeEdge 27 = some (.getfield 12, 3, 3, 0, 0, 0) := rfl
theorem fX3_removeEdge_30 : fetch tX3_removeEdge 30 = some (.getfield 81, 3, 0, 4, 0, 0) := rfl
theorem fX3_removeEdge_33 : fetch tX3_removeEdge 33 = some (.ireturn, 1, 0, 0, 0, 0) := rfl
def tX3_edges : List (Nat × TE) := [(0, .aload_n 0, 1, 0, 0, 0, 0), (1, .getfield 12, 3, 3, 0, 0, 0), (4, .getfield 81, 3, 0, 4, 0, 0), (7, .ireturn, 1, 0, 0, 0, 0)]
theorem tkX3_edges : tOk cX3_edges "RumourSource" 1 tX3_edges = true := by decide +kernel
theorem fX3_edges_0 : fetch tX3_edges 0 = some (.aload_n 0, 1, 0, 0, 0, 0) := rfl
theorem fX3_edges_1 : fetch tX3_edges 1 = some (.getfield 12, 3, 3, 0, 0, 0) := rfl
theorem fX3_edges_4 : fetch tX3_edges 4 = some (.getfield 81, 3, 0, 4, 0, 0) := rfl
theorem fX3_edges_7 : fetch tX3_edges 7 = some (.ireturn, 1, 0, 0, 0, 0) := rfl
def tX3_edge : List (Nat × TE) := [(0, .aload_n 0, 1, 0, 0, 0, 0), (1, .getfield 12, 3, 3, 0, 0, 0), (4, .iload_n 1, 1, 1, 0, 0, 0), (5, .invokevirtual 67, 3, 0, 0, 0, 0), (8, .ifCond .ne 6, 3, 14, 0, 0, 0), (11, .bipush (-2), 2, 0, 0, (-2), 0), (13, .ireturn, 1, 0, 0, 0, 0), (14, .iload_n 2, 1, 2, 0, 0, 0), (15, .tableswitch 69 0 3 #[29, 39, 49, 59], 29, 0, 0, 0, 0), (44, .aload_n 0, 1, 0, 0, 0, 0), (45, .getfield 12, 3, 3, 0, 0, 0), (48, .getfield 84, 3, 0, 0, 0, 0), (51, .iload_n 1, 1, 1, 0, 0, 0), (52, .iaload, 1, 0, 0, 0, 0), (53, .ireturn, 1, 0, 0, 0, 0), (54, .aload_n 0, 1, 0, 0, 0, 0), (55, .getfield 12, 3, 3, 0, 0, 0), (58, .getfield 87, 3, 0, 1, 0, 0), (61, .iload_n 1, 1, 1, 0, 0, 0), (62, .iaload, 1, 0, 0, 0, 0), (63, .ireturn, 1, 0, 0, 0, 0), (64, .aload_n 0, 1, 0, 0, 0, 0), (65, .getfield 12, 3, 3, 0, 0, 0), (68, .getfield 70, 3, 0, 2, 0, 0), (71, .iload_n 1, 1, 1, 0, 0, 0), (72, .iaload, 1, 0, 0, 0, 0), (73, .ireturn, 1, 0, 0, 0, 0), (74, .aload_n 0, 1, 0, 0, 0, 0), (75, .getfield 12, 3, 3, 0, 0, 0), (78, .getfield 74, 3, 0, 3, 0, 0), (81, .iload_n 1, 1, 1, 0, 0, 0), (82, .iaload, 1, 0, 0, 0, 0), (83, .ireturn, 1, 0, 0, 0, 0), (84, .bipush (-3), 2, 0, 0, (-3), 0), (86, .ireturn, 1, 0, 0, 0, 0)]
theorem tkX3_edge : tOk cX3_edge "RumourSource" 3 tX3_edge = true := by decide +kernel
theorem fX3_edge_0 : fetch tX3_edge 0 = some (.aload_n 0, 1, 0, 0, 0, 0) := rfl
theorem fX3_edge_1 : fetch tX3_edge 1 = some (.getfield 12, 3, 3, 0, 0, 0) := rfl
theorem fX3_edge_4 : fetch tX3_edge 4 = some (.iload_n 1, 1, 1, 0, 0, 0) := rfl
theorem fX3_edge_5 : fetch tX3_edge 5 = some (.invokevirtual 67, 3, 0, 0, 0, 0) := rfl
theorem fX3_edge_8 : fetch tX3_edge 8 = some (.ifCond .ne 6, 3, 14, 0, 0, 0) := rfl
theorem fX3_edge_11 : fetch tX3_edge 11 = some (.bipush (-2), 2, 0, 0, (-2), 0) := rfl
theorem fX3_edge_13 : fetch tX3_edge 13 = some (.ireturn, 1, 0, 0, 0, 0) := rfl
theorem fX3_edge_14 : fetch tX3_edge 14 = some (.iload_n 2, 1, 2, 0, 0, 0) := rfl
theorem fX3_edge_15 : fetch tX3_edge 15 = some (.tableswitch 69 0 3 #[29, 39, 49, 59], 29, 0, 0, 0, 0) := rfl
theorem fX3_edge_44 : fetch tX3_edge 44 = some (.aload_n 0, 1, 0, 0, 0, 0) := rfl
theorem fX3_edge_45 : fetch tX3_edge 45 = some (.getfield 12, 3, 3, 0, 0, 0) := rfl
theorem fX3_edge_48 : fetch tX3_edge 48 = some (.getfield 84, 3, 0, 0, 0, 0) := rfl
theorem fX3_edge_51 : fetch tX3_edge 51 = some (.iload_n 1, 1, 1, 0, 0, 0) := rfl
theorem fX3_edge_52 : fetch tX3_edge 52 = some (.iaload, 1, 0, 0, 0, 0) := rfl
theorem fX3_edge_53 : fetch tX3_edge 53 = some (.ireturn, 1, 0, 0, 0, 0) := rfl
theorem fX3_edge_54 : fetch tX3_edge 54 = some (.aload_n 0, 1, 0, 0, 0, 0) := rfl
theorem fX3_edge_55 : fetch tX3_edge 55 = some (.getfield 12, 3, 3, 0, 0, 0) := rfl
theorem fX3_edge_58 : fetch tX3_edge 58 = some (.getfield 87, 3, 0, 1, 0, 0) := rfl
theorem fX3_edge_61 : fetch tX3_edge 61 = some (.iload_n 1, 1, 1, 0, 0, 0) := rfl
theorem fX3_edge_62 : fetch tX3_edge 62 = some (.iaload, 1, 0, 0, 0, 0) := rfl
theorem fX3_edge_63 : fetch tX3_edge 63 = some (.ireturn, 1, 0, 0, 0, 0) := rfl
theorem fX3_edge_64 : fetch tX3_edge 64 = some (.aload_n 0, 1, 0, 0, 0, 0) := rfl
theorem fX3_edge_65 : fetch tX3_edge 65 = some (.getfield 12, 3, 3, 0, 0, 0) := rfl
theorem fX3_edge_68 : fetch tX3_edge 68 = some (.getfield 70, 3, 0, 2, 0, 0) := rfl
theorem fX3_edge_71 : fetch tX3_edge 71 = some (.iload_n 1, 1, 1, 0, 0, 0) := rfl
theorem fX3_edge_72 : fetch tX3_edge 72 = some (.iaload, 1, 0, 0, 0, 0) := rfl
theorem fX3_edge_73 : fetch tX3_edge 73 = some (.ireturn, 1, 0, 0, 0, 0) := rfl
theorem fX3_edge_74 : fetch tX3_edge 74 = some (.aload_n 0, 1, 0, 0, 0, 0) := rfl
theorem fX3_edge_75 : fetch tX3_edge 75 = some (.getfield 12, 3, 3, 0, 0, 0) := rfl
theorem fX3_edge_78 : fetch tX3_edge 78 = some (.getfield 74, 3, 0, 3, 0, 0) := rfl
theorem fX3_edge_81 : fetch tX3_edge 81 = some (.iload_n 1, 1, 1, 0, 0, 0) := rfl
theorem fX3_edge_82 : fetch tX3_edge 82 = some (.iaload, 1, 0, 0, 0, 0) := rfl
theorem fX3_edge_83 : fetch tX3_edge 83 = some (.ireturn, 1, 0, 0, 0, 0) := rfl
theorem fX3_edge_84 : fetch tX3_edge 84 = some (.bipush (-3), 2, 0, 0, (-3), 0) := rfl
theorem fX3_edge_86 : fetch tX3_edge 86 = some (.ireturn, 1, 0, 0, 0, 0) := rfl
def tX3_edgeBetween : List (Nat × TE) := [(0, .iload_n 1, 1, 1, 0, 0, 0), (1, .invokestatic 42, 3, 0, 3, 0, 0), (4, .ifCond .eq 10, 3, 14, 0, 0, 0), (7, .iload_n 2, 1, 2, 0, 0, 0), (8, .invokestatic 42, 3, 0, 3, 0, 0), (11, .ifCond .ne 6, 3, 17, 0, 0, 0), (14, .bipush (-2), 2, 0, 0, (-2), 0), (16, .ireturn, 1, 0, 0, 0, 0), (17, .aload_n 0, 1, 0, 0, 0, 0), (18, .getfield 12, 3, 3, 0, 0, 0), (21, .iload_n 1, 1, 1, 0, 0, 0), (22, .iload_n 2, 1, 2, 0, 0, 0), (23, .invokevirtual 52, 3, 1, 0, 0, 0), (26, .ireturn, 1, 0, 0, 0, 0)]
theorem tkX3_edgeBetween : tOk cX3_edgeBetween "RumourSource" 3 tX3_edgeBetween = true := by decide +kernel
theorem fX3_edgeBetween_0 : fetch tX3_edgeBetween 0 = some (.iload_n 1, 1, 1, 0, 0, 0) := rfl
theorem fX3_edgeBetween_1 : fetch tX3_edgeBetween 1 = some (.invokestatic 42, 3, 0, 3, 0, 0) := rfl
theorem fX3_edgeBetween_4 : fetch tX3_edgeBetween 4 = some (.ifCond .eq 10, 3, 14, 0, 0, 0) := rfl
theorem fX3_edgeBetween_7 : fetch tX3_edgeBetween 7 = some (.iload_n 2, 1, 2, 0, 0, 0) := rfl
theorem fX3_edgeBetween_8 : fetch tX3_edgeBetween 8 = some (.invokestatic 42, 3, 0, 3, 0, 0) := rfl
theorem fX3_edgeBetween_11 : fetch tX3_edgeBetween 11 = some (.ifCond .ne 6, 3, 17, 0, 0, 0) := rfl
theorem fX3_edgeBetween_14 : fetch tX3_edgeBetween 14 = some (.bipush (-2), 2, 0, 0, (-2), 0) := rfl
theorem fX3_edgeBetween_16 : fetch tX3_edgeBetween 16 = some (.ireturn, 1, 0, 0, 0, 0) := rfl
theorem fX3_edgeBetween_17 : fetch tX3_edgeBetween 17 = some (.aload_n 0, 1, 0, 0, 0, 0) := rfl
theorem fX3_edgeBetween_18 : fetch tX3_edgeBetween 18 = some (.getfield 12, 3, 3, 0, 0, 0) := rfl
theorem fX3_edgeBetween_21 : fetch tX3_edgeBetween 21 = some (.iload_n 1, 1, 1, 0, 0, 0) := rfl
theorem fX3_edgeBetween_22 : fetch tX3_edgeBetween 22 = some (.iload_n 2, 1, 2, 0, 0, 0) := rfl
theorem fX3_edgeBetween_23 : fetch tX3_edgeBetween 23 = some (.invokevirtual 52, 3, 1, 0, 0, 0) := rfl
theorem fX3_edgeBetween_26 : fetch tX3_edgeBetween 26 = some (.ireturn, 1, 0, 0, 0, 0) := rfl
def tX3_setHorizon : List (Nat × TE) := [(0, .iload_n 1, 1, 1, 0, 0, 0), (1, .invokestatic 90, 3, 0, 3, 0, 0), (4, .ifCond .ne 6, 3, 10, 0, 0, 0), (7, .bipush (-3), 2, 0, 0, (-3), 0), (9, .ireturn, 1, 0, 0, 0, 0), (10, .aload_n 0, 1, 0, 0, 0, 0), (11, .invokevirtual 60, 3, 1, 3, 0, 0), (14, .aload_n 0, 1, 0, 0, 0, 0), (15, .getfield 12, 3, 3, 0, 0, 0), (18, .getfield 93, 3, 0, 5, 0, 0), (21, .istore_n 2, 1, 2, 0, 0, 0), (22, .aload_n 0, 1, 0, 0, 0, 0), (23, .getfield 12, 3, 3, 0, 0, 0), (26, .iload_n 1, 1, 1, 0, 0, 0), (27, .putfield 93, 3, 0, 5, 0, 0), (30, .iload_n 2, 1, 2, 0, 0, 0), (31, .ireturn, 1, 0, 0, 0, 0)]
theorem tkX3_setHorizon : tOk cX3_setHorizon "RumourSource" 3 tX3_setHorizon = true := by decide +kernel
theorem fX3_setHorizon_0 : fetch tX3_setHorizon 0 = some (.iload_n 1, 1, 1, 0, 0, 0) := rfl
theorem fX3_setHorizon_1 : fetch tX3_setHorizon 1 = some (.invokestatic 90, 3, 0, 3, 0, 0) := rfl
theorem fX3_setHorizon_4 : fetch tX3_setHorizon 4 = some (.ifCond .ne 6, 3, 10, 0, 0, 0) := rfl
theorem fX3_setHorizon_7 : fetch tX3_setHorizon 7 = some (.bipush (-3), 2, 0, 0, (-3), 0) := rfl
theorem fX3_setHorizon_9 : fetch tX3_setHorizon 9 = some (.ireturn, 1, 0, 0, 0, 0) := rfl
theorem fX3_setHorizon_10 : fetch tX3_setHorizon 10 = some (.aload_n 0, 1, 0, 0, 0, 0) := rfl
theorem fX3_setHorizon_11 : fetch tX3_setHorizon 11 = some (.invokevirtual 60, 3, 1, 3, 0, 0) := rfl
theorem fX3_setHorizon_14 : fetch tX3_setHorizon 14 = some (.aload_n 0, 1, 0, 0, 0, 0) := rfl
theorem fX3_setHorizon_15 : fetch tX3_setHorizon 15 = some (.getfield 12, 3, 3, 0, 0, 0) := rfl
theorem fX3_setHorizon_18 : fetch tX3_setHorizon 18 = some (.getfield 93, 3, 0, 5, 0, 0) := rfl
theorem fX3_setHorizon_21 : fetch tX3_setHorizon 21 = some (.istore_n 2, 1, 2, 0, 0, 0) := rfl
theorem fX3_setHorizon_22 : fetch tX3_setHorizon 22 = some (.aload_n 0, 1, 0, 0, 0, 0) := rfl
theorem fX3_setHorizon_23 : fetch tX3_setHorizon 23 = some (.getfield 12, 3, 3, 0, 0, 0) := rfl
theorem fX3_setHorizon_26 : fetch tX3_setHorizon 26 = some (.iload_n 1, 1, 1, 0, 0, 0) := rfl
theorem fX3_setHorizon_27 : fetch tX3_setHorizon 27 = some (.putfield 93, 3, 0, 5, 0, 0) := rfl
theorem fX3_setHorizon_30 : fetch tX3_setHorizon 30 = some (.iload_n 2, 1, 2, 0, 0, 0) := rfl
theorem fX3_setHorizon_31 : fetch tX3_setHorizon 31 = some (.ireturn, 1, 0, 0, 0, 0) := rfl
def tX3_observe : List (Nat × TE) := [(0, .iload_n 1, 1, 1, 0, 0, 0), (1, .invokestatic 42, 3, 0, 3, 0, 0), (4, .ifCond .ne 6, 3, 10, 0, 0, 0), (7, .bipush (-2), 2, 0, 0, (-2), 0), (9, .ireturn, 1, 0, 0, 0, 0), (10, .iload_n 2, 1, 2, 0, 0, 0), (11, .invokestatic 96, 3, 1, 3, 0, 0), (14, .ifCond .ne 6, 3, 20, 0, 0, 0), (17, .bipush (-3), 2, 0, 0, (-3), 0), (19, .ireturn, 1, 0, 0, 0, 0), (20, .aload_n 0, 1, 0, 0, 0, 0), (21, .iload_n 1, 1, 1, 0, 0, 0), (22, .iload_n 2, 1, 2, 0, 0, 0), (23, .invokevirtual 99, 3, 2, 3, 0, 0), (26, .ireturn, 1, 0, 0, 0, 0)]
theorem tkX3_observe : tOk cX3_observe "RumourSource" 3 tX3_observe = true := by decide +kernel
theorem fX3_observe_0 : fetch tX3_observe 0 = some (.iload_n 1, 1, 1, 0, 0, 0) := rfl
theorem fX3_observe_1 : fetch tX3_observe 1 = some (.invokestatic 42, 3, 0, 3, 0, 0) := rfl
theorem fX3_observe_4 : fetch tX3_observe 4 = some (.ifCond .ne 6, 3, 10, 0, 0, 0) := rfl
theorem fX3_observe_7 : fetch tX3_observe 7 = some (.bipush (-2), 2, 0, 0, (-2), 0) := rfl
theorem fX3_observe_9 : fetch tX3_observe 9 = some (.ireturn, 1, 0, 0, 0, 0) := rfl
theorem fX3_observe_10 : fetch tX3_observe 10 = some (.iload_n 2, 1, 2, 0, 0, 0) := rfl
theorem fX3_observe_11 : fetch tX3_observe 11 = some (.invokestatic 96, 3, 1, 3, 0, 0) := rfl
theorem fX3_observe_14 : fetch tX3_observe 14 = some (.ifCond .ne 6, 3, 20, 0, 0, 0) := rfl
theorem fX3_observe_17 : fetch tX3_observe 17 = some (.bipush (-3), 2, 0, 0, (-3), 0) := rfl
theorem fX3_observe_19 : fetch tX3_observe 19 = some (.ireturn, 1, 0, 0, 0, 0) := rfl
theorem fX3_observe_20 : fetch tX3_observe 20 = some (.aload_n 0, 1, 0, 0, 0, 0) := rfl
theorem fX3_observe_21 : fetch tX3_observe 21 = some (.iload_n 1, 1, 1, 0, 0, 0) := rfl
theorem fX3_observe_22 : fetch tX3_observe 22 = some (.iload_n 2, 1, 2, 0, 0, 0) := rfl
theorem fX3_observe_23 : fetch tX3_observe 23 = some (.invokevirtual 99, 3, 2, 3, 0, 0) := rfl
theorem fX3_observe_26 : fetch tX3_observe 26 = some (.ireturn, 1, 0, 0, 0, 0) := rfl
def tX3_forget : List (Nat × TE) := [(0, .iload_n 1, 1, 1, 0, 0, 0), (1, .invokestatic 42, 3, 0, 3, 0, 0), (4, .ifCond .ne 6, 3, 10, 0, 0, 0), (7, .bipush (-2), 2, 0, 0, (-2), 0), (9, .ireturn, 1, 0, 0, 0, 0), (10, .aload_n 0, 1, 0, 0, 0, 0), (11, .iload_n 1, 1, 1, 0, 0, 0), (12, .bipush 100, 2, 0, 0, 100, 0), (14, .invokevirtual 99, 3, 1, 3, 0, 0), (17, .ireturn, 1, 0, 0, 0, 0)]
theorem tkX3_forget : tOk cX3_forget "RumourSource" 2 tX3_forget = true := by decide +kernel
theorem fX3_forget_0 : fetch tX3_forget 0 = some (.iload_n 1, 1, 1, 0, 0, 0) := rfl
theorem fX3_forget_1 : fetch tX3_forget 1 = some (.invokestatic 42, 3, 0, 3, 0, 0) := rfl
theorem fX3_forget_4 : fetch tX3_forget 4 = some (.ifCond .ne 6, 3, 10, 0, 0, 0) := rfl
theorem fX3_forget_7 : fetch tX3_forget 7 = some (.bipush (-2), 2, 0, 0, (-2), 0) := rfl
theorem fX3_forget_9 : fetch tX3_forget 9 = some (.ireturn, 1, 0, 0, 0, 0) := rfl
theorem fX3_forget_10 : fetch tX3_forget 10 = some (.aload_n 0, 1, 0, 0, 0, 0) := rfl
theorem fX3_forget_11 : fetch tX3_forget 11 = some (.iload_n 1, 1, 1, 0, 0, 0) := rfl
theorem fX3_forget_12 : fetch tX3_forget 12 = some (.bipush 100, 2, 0, 0, 100, 0) := rfl
theorem fX3_forget_14 : fetch tX3_forget 14 = some (.invokevirtual 99, 3, 1, 3, 0, 0) := rfl
theorem fX3_forget_17 : fetch tX3_forget 17 = some (.ireturn, 1, 0, 0, 0, 0) := rfl
def tX3_observed : List (Nat × TE) := [(0, .iload_n 1, 1, 1, 0, 0, 0), (1, .invokestatic 42, 3, 0, 3, 0, 0), (4, .ifCond .ne 6, 3, 10, 0, 0, 0), (7, .bipush (-2), 2, 0, 0, (-2), 0), (9, .ireturn, 1, 0, 0, 0, 0), (10, .aload_n 0, 1, 0, 0, 0, 0), (11, .getfield 12, 3, 3, 0, 0, 0), (14, .getfield 102, 3, 0, 6, 0, 0), (17, .iload_n 1, 1, 1, 0, 0, 0), (18, .iaload, 1, 0, 0, 0, 0), (19, .ireturn, 1, 0, 0, 0, 0)]
theorem tkX3_observed : tOk cX3_observed "RumourSource" 2 tX3_observed = true := by decide +kernel
theorem fX3_observed_0 : fetch tX3_observed 0 = some (.iload_n 1, 1, 1, 0, 0, 0) := rfl
theorem fX3_observed_1 : fetch tX3_observed 1 = some (.invokestatic 42, 3, 0, 3, 0, 0) := rfl
theorem fX3_observed_4 : fetch tX3_observed 4 = some (.ifCond .ne 6, 3, 10, 0, 0, 0) := rfl
theorem fX3_observed_7 : fetch tX3_observed 7 = some (.bipush (-2), 2, 0, 0, (-2), 0) := rfl
theorem fX3_observed_9 : fetch tX3_observed 9 = some (.ireturn, 1, 0, 0, 0, 0) := rfl
theorem fX3_observed_10 : fetch tX3_observed 10 = some (.aload_n 0, 1, 0, 0, 0, 0) := rfl
theorem fX3_observed_11 : fetch tX3_observed 11 = some (.getfield 12, 3, 3, 0, 0, 0) := rfl
theorem fX3_observed_14 : fetch tX3_observed 14 = some (.getfield 102, 3, 0, 6, 0, 0) := rfl
theorem fX3_observed_17 : fetch tX3_observed 17 = some (.iload_n 1, 1, 1, 0, 0, 0) := rfl
theorem fX3_observed_18 : fetch tX3_observed 18 = some (.iaload, 1, 0, 0, 0, 0) := rfl
theorem fX3_observed_19 : fetch tX3_observed 19 = some (.ireturn, 1, 0, 0, 0, 0) := rfl
def tX3_setSensors : List (Nat × TE) := [(0, .iload_n 1, 1, 1, 0, 0, 0), (1, .ifCond .lt 10, 3, 11, 0, 0, 0), (4, .iload_n 1, 1, 1, 0, 0, 0), (5, .sipush 255, 3, 0, 0, 255, 0), (8, .if_icmp .le 6, 3, 14, 0, 0, 0), (11, .bipush (-3), 2, 0, 0, (-3), 0), (13, .ireturn, 1, 0, 0, 0, 0), (14, .aload_n 0, 1, 0, 0, 0, 0), (15, .invokevirtual 60, 3, 0, 3, 0, 0), (18, .aload_n 0, 1, 0, 0, 0, 0), (19, .getfield 12, 3, 3, 0, 0, 0), (22, .getfield 105, 3, 0, 7, 0, 0), (25, .istore_n 2, 1, 2, 0, 0, 0), (26, .aload_n 0, 1, 0, 0, 0, 0), (27, .getfield 12, 3, 3, 0, 0, 0), (30, .iload_n 1, 1, 1, 0, 0, 0), (31, .putfield 105, 3, 0, 7, 0, 0), (34, .iload_n 2, 1, 2, 0, 0, 0), (35, .ireturn, 1, 0, 0, 0, 0)]
theorem tkX3_setSensors : tOk cX3_setSensors "RumourSource" 3 tX3_setSensors = true := by decide +kernel
theorem fX3_setSensors_0 : fetch tX3_setSensors 0 = some (.iload_n 1, 1, 1, 0, 0, 0) := rfl
theorem fX3_setSensors_1 : fetch tX3_setSensors 1 = some (.ifCond .lt 10, 3, 11, 0, 0, 0) := rfl
theorem fX3_setSensors_4 : fetch tX3_setSensors 4 = some (.iload_n 1, 1, 1, 0, 0, 0) := rfl
theorem fX3_setSensors_5 : fetch tX3_setSensors 5 = some (.sipush 255, 3, 0, 0, 255, 0) := rfl
theorem fX3_setSensors_8 : fetch tX3_setSensors 8 = some (.if_icmp .le 6, 3, 14, 0, 0, 0) := rfl
theorem fX3_setSensors_11 : fetch tX3_setSensors 11 = some (.bipush (-3), 2, 0, 0, (-3), 0) := rfl
theorem fX3_setSensors_13 : fetch tX3_setSensors 13 = some (.ireturn, 1, 0, 0, 0, 0) := rfl
theorem fX3_setSensors_14 : fetch tX3_setSensors 14 = some (.aload_n 0, 1, 0, 0, 0, 0) := rfl
theorem fX3_setSensors_15 : fetch tX3_setSensors 15 = some (.invokevirtual 60, 3, 0, 3, 0, 0) := rfl
theorem fX3_setSensors_18 : fetch tX3_setSensors 18 = some (.aload_n 0, 1, 0, 0, 0, 0) := rfl
theorem fX3_setSensors_19 : fetch tX3_setSensors 19 = some (.getfield 12, 3, 3, 0, 0, 0) := rfl
theorem fX3_setSensors_22 : fetch tX3_setSensors 22 = some (.getfield 105, 3, 0, 7, 0, 0) := rfl
theorem fX3_setSensors_25 : fetch tX3_setSensors 25 = some (.istore_n 2, 1, 2, 0, 0, 0) := rfl
theorem fX3_setSensors_26 : fetch tX3_setSensors 26 = some (.aload_n 0, 1, 0, 0, 0, 0) := rfl
theorem fX3_setSensors_27 : fetch tX3_setSensors 27 = some (.getfield 12, 3, 3, 0, 0, 0) := rfl
theorem fX3_setSensors_30 : fetch tX3_setSensors 30 = some (.iload_n 1, 1, 1, 0, 0, 0) := rfl
theorem fX3_setSensors_31 : fetch tX3_setSensors 31 = some (.putfield 105, 3, 0, 7, 0, 0) := rfl
theorem fX3_setSensors_34 : fetch tX3_setSensors 34 = some (.iload_n 2, 1, 2, 0, 0, 0) := rfl
theorem fX3_setSensors_35 : fetch tX3_setSensors 35 = some (.ireturn, 1, 0, 0, 0, 0) := rfl
def tX3_simulate : List (Nat × TE) := [(0, .iload_n 1, 1, 1, 0, 0, 0), (1, .invokestatic 108, 3, 0, 3, 0, 0), (4, .ifCond .ne 6, 3, 10, 0, 0, 0), (7, .bipush (-3), 2, 0, 0, (-3), 0), (9, .ireturn, 1, 0, 0, 0, 0), (10, .aload_n 0, 1, 0, 0, 0, 0), (11, .invokevirtual 60, 3, 1, 3, 0, 0), (14, .aload_n 0, 1, 0, 0, 0, 0), (15, .getfield 23, 3, 3, 2, 0, 0), (18, .aload_n 0, 1, 0, 0, 0, 0), (19, .getfield 12, 3, 3, 0, 0, 0), (22, .iload_n 1, 1, 1, 0, 0, 0), (23, .aload_n 0, 1, 0, 0, 0, 0), (24, .iload_n 2, 1, 2, 0, 0, 0), (25, .invokevirtual 111, 3, 2, 3, 0, 0), (28, .invokevirtual 115, 3, 3, 1, 0, 0), (31, .iconst 0, 1, 0, 0, 0, 0), (32, .istore_n 3, 1, 3, 0, 0, 0), (33, .iconst 0, 1, 0, 0, 0, 0), (34, .istore 4, 2, 4, 0, 0, 0), (36, .iload 4, 2, 4, 0, 0, 0), (38, .bipush 8, 2, 0, 0, 8, 0), (40, .if_icmp .ge 66, 3, 106, 0, 0, 0), (43, .aload_n 0, 1, 0, 0, 0, 0), (44, .getfield 23, 3, 3, 2, 0, 0), (47, .getfield 119, 3, 1, 0, 0, 0), (50, .iload 4, 2, 4, 0, 0, 0), (52, .iaload, 1, 0, 0, 0, 0), (53, .invokestatic 122, 3, 4, 3, 0, 0), (56, .istore 5, 2, 5, 0, 0, 0), (58, .aload_n 0, 1, 0, 0, 0, 0), (59, .getfield 12, 3, 3, 0, 0, 0), (62, .getfield 102, 3, 0, 6, 0, 0), (65, .iload 4, 2, 4, 0, 0, 0), (67, .aload_n 0, 1, 0, 0, 0, 0), (68, .getfield 12, 3, 3, 0, 0, 0), (71, .getfield 105, 3, 0, 7, 0, 0), (74, .iload 4, 2, 4, 0, 0, 0), (76, .ishr, 1, 0, 0, 0, 0), (77, .iconst 1, 1, 0, 0, 1, 0), (78, .iand, 1, 0, 0, 0, 0), (79, .iconst 1, 1, 0, 0, 1, 0), (80, .if_icmp .ne 8, 3, 88, 0, 0, 0), (83, .iload 5, 2, 5, 0, 0, 0), (85, .goto 5, 3, 90, 0, 0, 0), (88, .bipush 100, 2, 0, 0, 100, 0), (90, .iastore, 1, 0, 0, 0, 0), (91, .iload 5, 2, 5, 0, 0, 0), (93, .iconst (-1), 1, 0, 0, (-1), 0), (94, .if_icmp .eq 6, 3, 100, 0, 0, 0), (97, .iinc 3 1, 3, 3, 0, 1, 0), (100, .iinc 4 1, 3, 4, 0, 1, 0), (103, .goto (-67), 3, 36, 0, 0, 0), (106, .iload_n 3, 1, 3, 0, 0, 0), (107, .ireturn, 1, 0, 0, 0, 0)]
theorem tkX3_simulate : tOk cX3_simulate "RumourSource" 6 tX3_simulate = true := by decide +kernel
theorem fX3_simulate_0 : fetch tX3_simulate 0 = some (.iload_n 1, 1, 1, 0, 0, 0) := rfl
theorem fX3_simulate_1 : fetch tX3_simulate 1 = some (.invokestatic 108, 3, 0, 3, 0, 0) := rfl
theorem fX3_simulate_4 : fetch tX3_simulate 4 = some (.ifCond .ne 6, 3, 10, 0, 0, 0) := rfl
theorem fX3_simulate_7 : fetch tX3_simulate 7 = some (.bipush (-3), 2, 0, 0, (-3), 0) := rfl
theorem fX3_simulate_9 : fetch tX3_simulate 9 = some (.ireturn, 1, 0, 0, 0, 0) := rfl
theorem fX3_simulate_10 : fetch tX3_simulate 10 = some (.aload_n 0, 1, 0, 0, 0, 0) := rfl
theorem fX3_simulate_11 : fetch tX3_simulate 11 = some (.invokevirtual 60, 3, 1, 3, 0, 0) := rfl
theorem fX3_simulate_14 : fetch tX3_simulate 14 = some (.aload_n 0, 1, 0, 0, 0, 0) := rfl
theorem fX3_simulate_15 : fetch tX3_simulate 15 = some (.getfield 23, 3, 3, 2, 0, 0) := rfl
theorem fX3_simulate_18 : fetch tX3_simulate 18 = some (.aload_n 0, 1, 0, 0, 0, 0) := rfl
theorem fX3_simulate_19 : fetch tX3_simulate 19 = some (.getfield 12, 3, 3, 0, 0, 0) := rfl
theorem fX3_simulate_22 : fetch tX3_simulate 22 = some (.iload_n 1, 1, 1, 0, 0, 0) := rfl
theorem fX3_simulate_23 : fetch tX3_simulate 23 = some (.aload_n 0, 1, 0, 0, 0, 0) := rfl
theorem fX3_simulate_24 : fetch tX3_simulate 24 = some (.iload_n 2, 1, 2, 0, 0, 0) := rfl
theorem fX3_simulate_25 : fetch tX3_simulate 25 = some (.invokevirtual 111, 3, 2, 3, 0, 0) := rfl
theorem fX3_simulate_28 : fetch tX3_simulate 28 = some (.invokevirtual 115, 3, 3, 1, 0, 0) := rfl
theorem fX3_simulate_31 : fetch tX3_simulate 31 = some (.iconst 0, 1, 0, 0, 0, 0) := rfl
theorem fX3_simulate_32 : fetch tX3_simulate 32 = some (.istore_n 3, 1, 3, 0, 0, 0) := rfl
theorem fX3_simulate_33 : fetch tX3_simulate 33 = some (.iconst 0, 1, 0, 0, 0, 0) := rfl
theorem fX3_simulate_34 : fetch tX3_simulate 34 = some (.istore 4, 2, 4, 0, 0, 0) := rfl
theorem fX3_simulate_36 : fetch tX3_simulate 36 = some (.iload 4, 2, 4, 0, 0, 0) := rfl
theorem fX3_simulate_38 : fetch tX3_simulate 38 = some (.bipush 8, 2, 0, 0, 8, 0) := rfl
theorem fX3_simulate_40 : fetch tX3_simulate 40 = some (.if_icmp .ge 66, 3, 106, 0, 0, 0) := rfl
theorem fX3_simulate_43 : fetch tX3_simulate 43 = some (.aload_n 0, 1, 0, 0, 0, 0) := rfl
theorem fX3_simulate_44 : fetch tX3_simulate 44 = some (.getfield 23, 3, 3, 2, 0, 0) := rfl
theorem fX3_simulate_47 : fetch tX3_simulate 47 = some (.getfield 119, 3, 1, 0, 0, 0) := rfl
theorem fX3_simulate_50 : fetch tX3_simulate 50 = some (.iload 4, 2, 4, 0, 0, 0) := rfl
theorem fX3_simulate_52 : fetch tX3_simulate 52 = some (.iaload, 1, 0, 0, 0, 0) := rfl
theorem fX3_simulate_53 : fetch tX3_simulate 53 = some (.invokestatic 122, 3, 4, 3, 0, 0) := rfl
theorem fX3_simulate_56 : fetch tX3_simulate 56 = some (.istore 5, 2, 5, 0, 0, 0) := rfl
theorem fX3_simulate_58 : fetch tX3_simulate 58 = some (.aload_n 0, 1, 0, 0, 0, 0) := rfl
theorem fX3_simulate_59 : fetch tX3_simulate 59 = some (.getfield 12, 3, 3, 0, 0, 0) := rfl
theorem fX3_simulate_62 : fetch tX3_simulate 62 = some (.getfield 102, 3, 0, 6, 0, 0) := rfl
theorem fX3_simulate_65 : fetch tX3_simulate 65 = some (.iload 4, 2, 4, 0, 0, 0) := rfl
theorem fX3_simulate_67 : fetch tX3_simulate 67 = some (.aload_n 0, 1, 0, 0, 0, 0) := rfl
theorem fX3_simulate_68 : fetch tX3_simulate 68 = some (.getfield 12, 3, 3, 0, 0, 0) := rfl
theorem fX3_simulate_71 : fetch tX3_simulate 71 = some (.getfield 105, 3, 0, 7, 0, 0) := rfl
theorem fX3_simulate_74 : fetch tX3_simulate 74 = some (.iload 4, 2, 4, 0, 0, 0) := rfl
theorem fX3_simulate_76 : fetch tX3_simulate 76 = some (.ishr, 1, 0, 0, 0, 0) := rfl
theorem fX3_simulate_77 : fetch tX3_simulate 77 = some (.iconst 1, 1, 0, 0, 1, 0) := rfl
theorem fX3_simulate_78 : fetch tX3_simulate 78 = some (.iand, 1, 0, 0, 0, 0) := rfl
theorem fX3_simulate_79 : fetch tX3_simulate 79 = some (.iconst 1, 1, 0, 0, 1, 0) := rfl
theorem fX3_simulate_80 : fetch tX3_simulate 80 = some (.if_icmp .ne 8, 3, 88, 0, 0, 0) := rfl
theorem fX3_simulate_83 : fetch tX3_simulate 83 = some (.iload 5, 2, 5, 0, 0, 0) := rfl
theorem fX3_simulate_85 : fetch tX3_simulate 85 = some (.goto 5, 3, 90, 0, 0, 0) := rfl
theorem fX3_simulate_88 : fetch tX3_simulate 88 = some (.bipush 100, 2, 0, 0, 100, 0) := rfl
theorem fX3_simulate_90 : fetch tX3_simulate 90 = some (.iastore, 1, 0, 0, 0, 0) := rfl
theorem fX3_simulate_91 : fetch tX3_simulate 91 = some (.iload 5, 2, 5, 0, 0, 0) := rfl
theorem fX3_simulate_93 : fetch tX3_simulate 93 = some (.iconst (-1), 1, 0, 0, (-1), 0) := rfl
theorem fX3_simulate_94 : fetch tX3_simulate 94 = some (.if_icmp .eq 6, 3, 100, 0, 0, 0) := rfl
theorem fX3_simulate_97 : fetch tX3_simulate 97 = some (.iinc 3 1, 3, 3, 0, 1, 0) := rfl
theorem fX3_simulate_100 : fetch tX3_simulate 100 = some (.iinc 4 1, 3, 4, 0, 1, 0) := rfl
theorem fX3_simulate_103 : fetch tX3_simulate 103 = some (.goto (-67), 3, 36, 0, 0, 0) := rfl
theorem fX3_simulate_106 : fetch tX3_simulate 106 = some (.iload_n 3, 1, 3, 0, 0, 0) := rfl
theorem fX3_simulate_107 : fetch tX3_simulate 107 = some (.ireturn, 1, 0, 0, 0, 0) := rfl
def tX3_timeBy : List (Nat × TE) := [(0, .iload_n 3, 1, 3, 0, 0, 0), (1, .invokestatic 42, 3, 0, 3, 0, 0), (4, .ifCond .ne 6, 3, 10, 0, 0, 0), (7, .bipush (-2), 2, 0, 0, (-2), 0), (9, .ireturn, 1, 0, 0, 0, 0), (10, .iload_n 1, 1, 1, 0, 0, 0), (11, .invokestatic 108, 3, 1, 3, 0, 0), (14, .ifCond .eq 11, 3, 25, 0, 0, 0), (17, .aload_n 0, 1, 0, 0, 0, 0), (18, .iload_n 2, 1, 2, 0, 0, 0), (19, .invokevirtual 125, 3, 2, 3, 0, 0), (22, .ifCond .ne 6, 3, 28, 0, 0, 0), (25, .bipush (-3), 2, 0, 0, (-3), 0), (27, .ireturn, 1, 0, 0, 0, 0), (28, .aload_n 0, 1, 0, 0, 0, 0), (29, .getfield 23, 3, 3, 2, 0, 0), (32, .aload_n 0, 1, 0, 0, 0, 0), (33, .getfield 12, 3, 3, 0, 0, 0), (36, .iload_n 1, 1, 1, 0, 0, 0), (37, .iload_n 2, 1, 2, 0, 0, 0), (38, .invokevirtual 115, 3, 3, 1, 0, 0), (41, .aload_n 0, 1, 0, 0, 0, 0), (42, .getfield 23, 3, 3, 2, 0, 0), (45, .getfield 119, 3, 1, 0, 0, 0), (48, .iload_n 3, 1, 3, 0, 0, 0), (49, .iaload, 1, 0, 0, 0, 0), (50, .invokestatic 122, 3, 4, 3, 0, 0), (53, .ireturn, 1, 0, 0, 0, 0)]
theorem tkX3_timeBy : tOk cX3_timeBy "RumourSource" 4 tX3_timeBy = true := by decide +kernel
theorem fX3_timeBy_0 : fetch tX3_timeBy 0 = some (.iload_n 3, 1, 3, 0, 0, 0) := rfl
theorem fX3_timeBy_1 : fetch tX3_timeBy 1 = some (.invokestatic 42, 3, 0, 3, 0, 0) := rfl
theorem fX3_timeBy_4 : fetch tX3_timeBy 4 = some (.ifCond .ne 6, 3, 10, 0, 0, 0) := rfl
theorem fX3_timeBy_7 : fetch tX3_timeBy 7 = some (.bipush (-2), 2, 0, 0, (-2), 0) := rfl
theorem fX3_timeBy_9 : fetch tX3_timeBy 9 = some (.ireturn, 1, 0, 0, 0, 0) := rfl
theorem fX3_timeBy_10 : fetch tX3_timeBy 10 = some (.iload_n 1, 1, 1, 0, 0, 0) := rfl
theorem fX3_timeBy_11 : fetch tX3_timeBy 11 = some (.invokestatic 108, 3, 1, 3, 0, 0) := rfl
theorem fX3_timeBy_14 : fetch tX3_timeBy 14 = some (.ifCond .eq 11, 3, 25, 0, 0, 0) := rfl
theorem fX3_timeBy_17 : fetch tX3_timeBy 17 = some (.aload_n 0, 1, 0, 0, 0, 0) := rfl
theorem fX3_timeBy_18 : fetch tX3_timeBy 18 = some (.iload_n 2, 1, 2, 0, 0, 0) := rfl
theorem fX3_timeBy_19 : fetch tX3_timeBy 19 = some (.invokevirtual 125, 3, 2, 3, 0, 0) := rfl
theorem fX3_timeBy_22 : fetch tX3_timeBy 22 = some (.ifCond .ne 6, 3, 28, 0, 0, 0) := rfl
theorem fX3_timeBy_25 : fetch tX3_timeBy 25 = some (.bipush (-3), 2, 0, 0, (-3), 0) := rfl
theorem fX3_timeBy_27 : fetch tX3_timeBy 27 = some (.ireturn, 1, 0, 0, 0, 0) := rfl
theorem fX3_timeBy_28 : fetch tX3_timeBy 28 = some (.aload_n 0, 1, 0, 0, 0, 0) := rfl
theorem fX3_timeBy_29 : fetch tX3_timeBy 29 = some (.getfield 23, 3, 3, 2, 0, 0) := rfl
theorem fX3_timeBy_32 : fetch tX3_timeBy 32 = some (.aload_n 0, 1, 0, 0, 0, 0) := rfl
theorem fX3_timeBy_33 : fetch tX3_timeBy 33 = some (.getfield 12, 3, 3, 0, 0, 0) := rfl
theorem fX3_timeBy_36 : fetch tX3_timeBy 36 = some (.iload_n 1, 1, 1, 0, 0, 0) := rfl
theorem fX3_timeBy_37 : fetch tX3_timeBy 37 = some (.iload_n 2, 1, 2, 0, 0, 0) := rfl
theorem fX3_timeBy_38 : fetch tX3_timeBy 38 = some (.invokevirtual 115, 3, 3, 1, 0, 0) := rfl
theorem fX3_timeBy_41 : fetch tX3_timeBy 41 = some (.aload_n 0, 1, 0, 0, 0, 0) := rfl
theorem fX3_timeBy_42 : fetch tX3_timeBy 42 = some (.getfield 23, 3, 3, 2, 0, 0) := rfl
theorem fX3_timeBy_45 : fetch tX3_timeBy 45 = some (.getfield 119, 3, 1, 0, 0, 0) := rfl
theorem fX3_timeBy_48 : fetch tX3_timeBy 48 = some (.iload_n 3, 1, 3, 0, 0, 0) := rfl
theorem fX3_timeBy_49 : fetch tX3_timeBy 49 = some (.iaload, 1, 0, 0, 0, 0) := rfl
theorem fX3_timeBy_50 : fetch tX3_timeBy 50 = some (.invokestatic 122, 3, 4, 3, 0, 0) := rfl
theorem fX3_timeBy_53 : fetch tX3_timeBy 53 = some (.ireturn, 1, 0, 0, 0, 0) := rfl
def tX3_weight : List (Nat × TE) := [(0, .aload_n 0, 1, 0, 0, 0, 0), (1, .iload_n 1, 1, 1, 0, 0, 0), (2, .invokevirtual 125, 3, 0, 3, 0, 0), (5, .ifCond .ne 7, 3, 12, 0, 0, 0), (8, .ldc2_w 128, 3, 0, 0, 0, (-3)), (11, .lreturn, 1, 0, 0, 0, 0), (12, .lconst 1, 1, 0, 0, 0, 1), (13, .lstore_n 2, 1, 2, 0, 0, 0), (14, .iconst 0, 1, 0, 0, 0, 0), (15, .istore 4, 2, 4, 0, 0, 0), (17, .iload 4, 2, 4, 0, 0, 0), (19, .aload_n 0, 1, 0, 0, 0, 0), (20, .getfield 12, 3, 3, 0, 0, 0), (23, .getfield 81, 3, 0, 4, 0, 0), (26, .if_icmp .ge 46, 3, 72, 0, 0, 0), (29, .aload_n 0, 1, 0, 0, 0, 0), (30, .getfield 12, 3, 3, 0, 0, 0), (33, .getfield 70, 3, 0, 2, 0, 0), (36, .iload 4, 2, 4, 0, 0, 0), (38, .iaload, 1, 0, 0, 0, 0), (39, .istore 5, 2, 5, 0, 0, 0), (41, .lload_n 2, 1, 2, 0, 0, 0), (42, .iload_n 1, 1, 1, 0, 0, 0), (43, .iload 4, 2, 4, 0, 0, 0), (45, .ishr, 1, 0, 0, 0, 0), (46, .iconst 1, 1, 0, 0, 1, 0), (47, .iand, 1, 0, 0, 0, 0), (48, .iconst 1, 1, 0, 0, 1, 0), (49, .if_icmp .ne 9, 3, 58, 0, 0, 0), (52, .iload 5, 2, 5, 0, 0, 0), (54, .i2l, 1, 0, 0, 0, 0), (55, .goto 9, 3, 64, 0, 0, 0), (58, .bipush 10, 2, 0, 0, 10, 0), (60, .iload 5, 2, 5, 0, 0, 0), (62, .isub, 1, 0, 0, 0, 0), (63, .i2l, 1, 0, 0, 0, 0), (64, .lmul, 1, 0, 0, 0, 0), (65, .lstore_n 2, 1, 2, 0, 0, 0), (66, .iinc 4 1, 3, 4, 0, 1, 0), (69, .goto (-52), 3, 17, 0, 0, 0), (72, .lload_n 2, 1, 2, 0, 0, 0), (73, .lreturn, 1, 0, 0, 0, 0)]
theorem tkX3_weight : tOk cX3_weight "RumourSource" 6 tX3_weight = true := by decide +kernel
theorem fX3_weight_0 : fetch tX3_weight 0 = some (.aload_n 0, 1, 0, 0, 0, 0) := rfl
theorem fX3_weight_1 : fetch tX3_weight 1 = some (.iload_n 1, 1, 1, 0, 0, 0) := rfl
theorem fX3_weight_2 : fetch tX3_weight 2 = some (.invokevirtual 125, 3, 0, 3, 0, 0) := rfl
theorem fX3_weight_5 : fetch tX3_weight 5 = some (.ifCond .ne 7, 3, 12, 0, 0, 0) := rfl
theorem fX3_weight_8 : fetch tX3_weight 8 = some (.ldc2_w 128, 3, 0, 0, 0, (-3)) := rfl
theorem fX3_weight_11 : fetch tX3_weight 11 = some (.lreturn, 1, 0, 0, 0, 0) := rfl
theorem fX3_weight_12 : fetch tX3_weight 12 = some (.lconst 1, 1, 0, 0, 0, 1) := rfl
theorem fX3_weight_13 : fetch tX3_weight 13 = some (.lstore_n 2, 1, 2, 0, 0, 0) := rfl
theorem fX3_weight_14 : fetch tX3_weight 14 = some (.iconst 0, 1, 0, 0, 0, 0) := rfl
theorem fX3_weight_15 : fetch tX3_weight 15 = some (.istore 4, 2, 4, 0, 0, 0) := rfl
theorem fX3_weight_17 : fetch tX3_weight 17 = some (.iload 4, 2, 4, 0, 0, 0) := rfl
theorem fX3_weight_19 : fetch tX3_weight 19 = some (.aload_n 0, 1, 0, 0, 0, 0) := rfl
theorem fX3_weight_20 : fetch tX3_weight 20 = some (.getfield 12, 3, 3, 0, 0, 0) := rfl
theorem fX3_weight_23 : fetch tX3_weight 23 = some (.getfield 81, 3, 0, 4, 0, 0) := rfl
theorem fX3_weight_26 : fetch tX3_weight 26 = some (.if_icmp .ge 46, 3, 72, 0, 0, 0) := rfl
theorem fX3_weight_29 : fetch tX3_weight 29 = some (.aload_n 0, 1, 0, 0, 0, 0) := rfl
theorem fX3_weight_30 : fetch tX3_weight 30 = some (.getfield 12, 3, 3, 0, 0, 0) := rfl
theorem fX3_weight_33 : fetch tX3_weight 33 = some (.getfield 70, 3, 0, 2, 0, 0) := rfl
theorem fX3_weight_36 : fetch tX3_weight 36 = some (.iload 4, 2, 4, 0, 0, 0) := rfl
theorem fX3_weight_38 : fetch tX3_weight 38 = some (.iaload, 1, 0, 0, 0, 0) := rfl
theorem fX3_weight_39 : fetch tX3_weight 39 = some (.istore 5, 2, 5, 0, 0, 0) := rfl
theorem fX3_weight_41 : fetch tX3_weight 41 = some (.lload_n 2, 1, 2, 0, 0, 0) := rfl
theorem fX3_weight_42 : fetch tX3_weight 42 = some (.iload_n 1, 1, 1, 0, 0, 0) := rfl
theorem fX3_weight_43 : fetch tX3_weight 43 = some (.iload 4, 2, 4, 0, 0, 0) := rfl
theorem fX3_weight_45 : fetch tX3_weight 45 = some (.ishr, 1, 0, 0, 0, 0) := rfl
theorem fX3_weight_46 : fetch tX3_weight 46 = some (.iconst 1, 1, 0, 0, 1, 0) := rfl
theorem fX3_weight_47 : fetch tX3_weight 47 = some (.iand, 1, 0, 0, 0, 0) := rfl
theorem fX3_weight_48 : fetch tX3_weight 48 = some (.iconst 1, 1, 0, 0, 1, 0) := rfl
theorem fX3_weight_49 : fetch tX3_weight 49 = some (.if_icmp .ne 9, 3, 58, 0, 0, 0) := rfl
theorem fX3_weight_52 : fetch tX3_weight 52 = some (.iload 5, 2, 5, 0, 0, 0) := rfl
theorem fX3_weight_54 : fetch tX3_weight 54 = some (.i2l, 1, 0, 0, 0, 0) := rfl
theorem fX3_weight_55 : fetch tX3_weight 55 = some (.goto 9, 3, 64, 0, 0, 0) := rfl
theorem fX3_weight_58 : fetch tX3_weight 58 = some (.bipush 10, 2, 0, 0, 10, 0) := rfl
theorem fX3_weight_60 : fetch tX3_weight 60 = some (.iload 5, 2, 5, 0, 0, 0) := rfl
theorem fX3_weight_62 : fetch tX3_weight 62 = some (.isub, 1, 0, 0, 0, 0) := rfl
theorem fX3_weight_63 : fetch tX3_weight 63 = some (.i2l, 1, 0, 0, 0, 0) := rfl
theorem fX3_weight_64 : fetch tX3_weight 64 = some (.lmul, 1, 0, 0, 0, 0) := rfl
theorem fX3_weight_65 : fetch tX3_weight 65 = some (.lstore_n 2, 1, 2, 0, 0, 0) := rfl
theorem fX3_weight_66 : fetch tX3_weight 66 = some (.iinc 4 1, 3, 4, 0, 1, 0) := rfl
theorem fX3_weight_69 : fetch tX3_weight 69 = some (.goto (-52), 3, 17, 0, 0, 0) := rfl
theorem fX3_weight_72 : fetch tX3_weight 72 = some (.lload_n 2, 1, 2, 0, 0, 0) := rfl
theorem fX3_weight_73 : fetch tX3_weight 73 = some (.lreturn, 1, 0, 0, 0, 0) := rfl
def tX3_fits : List (Nat × TE) := [(0, .iload_n 1, 1, 1, 0, 0, 0), (1, .invokestatic 108, 3, 0, 3, 0, 0), (4, .ifCond .eq 11, 3, 15, 0, 0, 0), (7, .aload_n 0, 1, 0, 0, 0, 0), (8, .iload_n 2, 1, 2, 0, 0, 0), (9, .invokevirtual 125, 3, 1, 3, 0, 0), (12, .ifCond .ne 6, 3, 18, 0, 0, 0), (15, .bipush (-3), 2, 0, 0, (-3), 0), (17, .ireturn, 1, 0, 0, 0, 0), (18, .aload_n 0, 1, 0, 0, 0, 0), (19, .getfield 23, 3, 3, 2, 0, 0), (22, .aload_n 0, 1, 0, 0, 0, 0), (23, .getfield 12, 3, 3, 0, 0, 0), (26, .invokevirtual 130, 3, 2, 1, 0, 0), (29, .aload_n 0, 1, 0, 0, 0, 0), (30, .getfield 23, 3, 3, 2, 0, 0), (33, .aload_n 0, 1, 0, 0, 0, 0), (34, .getfield 12, 3, 3, 0, 0, 0), (37, .iload_n 1, 1, 1, 0, 0, 0), (38, .iload_n 2, 1, 2, 0, 0, 0), (39, .invokevirtual 115, 3, 3, 1, 0, 0), (42, .aload_n 0, 1, 0, 0, 0, 0), (43, .getfield 23, 3, 3, 2, 0, 0), (46, .invokevirtual 134, 3, 4, 1, 0, 0), (49, .ifCond .eq 7, 3, 56, 0, 0, 0), (52, .iconst 1, 1, 0, 0, 1, 0), (53, .goto 4, 3, 57, 0, 0, 0), (56, .iconst 0, 1, 0, 0, 0, 0), (57, .ireturn, 1, 0, 0, 0, 0)]
theorem tkX3_fits : tOk cX3_fits "RumourSource" 3 tX3_fits = true := by decide +kernel
theorem fX3_fits_0 : fetch tX3_fits 0 = some (.iload_n 1, 1, 1, 0, 0, 0) := rfl
theorem fX3_fits_1 : fetch tX3_fits 1 = some (.invokestatic 108, 3, 0, 3, 0, 0) := rfl
theorem fX3_fits_4 : fetch tX3_fits 4 = some (.ifCond .eq 11, 3, 15, 0, 0, 0) := rfl
theorem fX3_fits_7 : fetch tX3_fits 7 = some (.aload_n 0, 1, 0, 0, 0, 0) := rfl
theorem fX3_fits_8 : fetch tX3_fits 8 = some (.iload_n 2, 1, 2, 0, 0, 0) := rfl
theorem fX3_fits_9 : fetch tX3_fits 9 = some (.invokevirtual 125, 3, 1, 3, 0, 0) := rfl
theorem fX3_fits_12 : fetch tX3_fits 12 = some (.ifCond .ne 6, 3, 18, 0, 0, 0) := rfl
theorem fX3_fits_15 : fetch tX3_fits 15 = some (.bipush (-3), 2, 0, 0, (-3), 0) := rfl
theorem fX3_fits_17 : fetch tX3_fits 17 = some (.ireturn, 1, 0, 0, 0, 0) := rfl
theorem fX3_fits_18 : fetch tX3_fits 18 = some (.aload_n 0, 1, 0, 0, 0, 0) := rfl
theorem fX3_fits_19 : fetch tX3_fits 19 = some (.getfield 23, 3, 3, 2, 0, 0) := rfl
theorem fX3_fits_22 : fetch tX3_fits 22 = some (.aload_n 0, 1, 0, 0, 0, 0) := rfl
theorem fX3_fits_23 : fetch tX3_fits 23 = some (.getfield 12, 3, 3, 0, 0, 0) := rfl
theorem fX3_fits_26 : fetch tX3_fits 26 = some (.invokevirtual 130, 3, 2, 1, 0, 0) := rfl
theorem fX3_fits_29 : fetch tX3_fits 29 = some (.aload_n 0, 1, 0, 0, 0, 0) := rfl
theorem fX3_fits_30 : fetch tX3_fits 30 = some (.getfield 23, 3, 3, 2, 0, 0) := rfl
theorem fX3_fits_33 : fetch tX3_fits 33 = some (.aload_n 0, 1, 0, 0, 0, 0) := rfl
theorem fX3_fits_34 : fetch tX3_fits 34 = some (.getfield 12, 3, 3, 0, 0, 0) := rfl
theorem fX3_fits_37 : fetch tX3_fits 37 = some (.iload_n 1, 1, 1, 0, 0, 0) := rfl
theorem fX3_fits_38 : fetch tX3_fits 38 = some (.iload_n 2, 1, 2, 0, 0, 0) := rfl
theorem fX3_fits_39 : fetch tX3_fits 39 = some (.invokevirtual 115, 3, 3, 1, 0, 0) := rfl
theorem fX3_fits_42 : fetch tX3_fits 42 = some (.aload_n 0, 1, 0, 0, 0, 0) := rfl
theorem fX3_fits_43 : fetch tX3_fits 43 = some (.getfield 23, 3, 3, 2, 0, 0) := rfl
theorem fX3_fits_46 : fetch tX3_fits 46 = some (.invokevirtual 134, 3, 4, 1, 0, 0) := rfl
theorem fX3_fits_49 : fetch tX3_fits 49 = some (.ifCond .eq 7, 3, 56, 0, 0, 0) := rfl
theorem fX3_fits_52 : fetch tX3_fits 52 = some (.iconst 1, 1, 0, 0, 1, 0) := rfl
theorem fX3_fits_53 : fetch tX3_fits 53 = some (.goto 4, 3, 57, 0, 0, 0) := rfl
theorem fX3_fits_56 : fetch tX3_fits 56 = some (.iconst 0, 1, 0, 0, 0, 0) := rfl
theorem fX3_fits_57 : fetch tX3_fits 57 = some (.ireturn, 1, 0, 0, 0, 0) := rfl
def tX3_timeWeight : List (Nat × TE) := [(0, .iload_n 2, 1, 2, 0, 0, 0), (1, .invokestatic 42, 3, 0, 3, 0, 0), (4, .ifCond .ne 7, 3, 11, 0, 0, 0), (7, .ldc2_w 137, 3, 0, 0, 0, (-2)), (10, .lreturn, 1, 0, 0, 0, 0), (11, .iload_n 1, 1, 1, 0, 0, 0), (12, .invokestatic 108, 3, 1, 3, 0, 0), (15, .ifCond .eq 10, 3, 25, 0, 0, 0), (18, .iload_n 3, 1, 3, 0, 0, 0), (19, .invokestatic 96, 3, 2, 3, 0, 0), (22, .ifCond .ne 7, 3, 29, 0, 0, 0), (25, .ldc2_w 128, 3, 0, 0, 0, (-3)), (28, .lreturn, 1, 0, 0, 0, 0), (29, .aload_n 0, 1, 0, 0, 0, 0), (30, .getfield 23, 3, 3, 2, 0, 0), (33, .iload_n 2, 1, 2, 0, 0, 0), (34, .iload_n 3, 1, 3, 0, 0, 0), (35, .invokevirtual 139, 3, 3, 1, 0, 0), (38, .aload_n 0, 1, 0, 0, 0, 0), (39, .getfield 23, 3, 3, 2, 0, 0), (42, .aload_n 0, 1, 0, 0, 0, 0), (43, .getfield 12, 3, 3, 0, 0, 0), (46, .iload_n 1, 1, 1, 0, 0, 0), (47, .iconst 0, 1, 0, 0, 0, 0), (48, .invokevirtual 143, 3, 4, 1, 0, 0), (51, .aload_n 0, 1, 0, 0, 0, 0), (52, .getfield 23, 3, 3, 2, 0, 0), (55, .getfield 147, 3, 1, 2, 0, 0), (58, .lreturn, 1, 0, 0, 0, 0)]
theorem tkX3_timeWeight : tOk cX3_timeWeight "RumourSource" 4 tX3_timeWeight = true := by decide +kernel
theorem fX3_timeWeight_0 : fetch tX3_timeWeight 0 = some (.iload_n 2, 1, 2, 0, 0, 0) := rfl
theorem fX3_timeWeight_1 : fetch tX3_timeWeight 1 = some (.invokestatic 42, 3, 0, 3, 0, 0) := rfl
theorem fX3_timeWeight_4 : fetch tX3_timeWeight 4 = some (.ifCond .ne 7, 3, 11, 0, 0, 0) := rfl
theorem fX3_timeWeight_7 : fetch tX3_timeWeight 7 = some (.ldc2_w 137, 3, 0, 0, 0, (-2)) := rfl
theorem fX3_timeWeight_10 : fetch tX3_timeWeight 10 = some (.lreturn, 1, 0, 0, 0, 0) := rfl
theorem fX3_timeWeight_11 : fetch tX3_timeWeight 11 = some (.iload_n 1, 1, 1, 0, 0, 0) := rfl
theorem fX3_timeWeight_12 : fetch tX3_timeWeight 12 = some (.invokestatic 108, 3, 1, 3, 0, 0) := rfl
theorem fX3_timeWeight_15 : fetch tX3_timeWeight 15 = some (.ifCond .eq 10, 3, 25, 0, 0, 0) := rfl
theorem fX3_timeWeight_18 : fetch tX3_timeWeight 18 = some (.iload_n 3, 1, 3, 0, 0, 0) := rfl
theorem fX3_timeWeight_19 : fetch tX3_timeWeight 19 = some (.invokestatic 96, 3, 2, 3, 0, 0) := rfl
theorem fX3_timeWeight_22 : fetch tX3_timeWeight 22 = some (.ifCond .ne 7, 3, 29, 0, 0, 0) := rfl
theorem fX3_timeWeight_25 : fetch tX3_timeWeight 25 = some (.ldc2_w 128, 3, 0, 0, 0, (-3)) := rfl
theorem fX3_timeWeight_28 : fetch tX3_timeWeight 28 = some (.lreturn, 1, 0, 0, 0, 0) := rfl
theorem fX3_timeWeight_29 : fetch tX3_timeWeight 29 = some (.aload_n 0, 1, 0, 0, 0, 0) := rfl
theorem fX3_timeWeight_30 : fetch tX3_timeWeight 30 = some (.getfield 23, 3, 3, 2, 0, 0) := rfl
theorem fX3_timeWeight_33 : fetch tX3_timeWeight 33 = some (.iload_n 2, 1, 2, 0, 0, 0) := rfl
theorem fX3_timeWeight_34 : fetch tX3_timeWeight 34 = some (.iload_n 3, 1, 3, 0, 0, 0) := rfl
theorem fX3_timeWeight_35 : fetch tX3_timeWeight 35 = some (.invokevirtual 139, 3, 3, 1, 0, 0) := rfl
theorem fX3_timeWeight_38 : fetch tX3_timeWeight 38 = some (.aload_n 0, 1, 0, 0, 0, 0) := rfl
theorem fX3_timeWeight_39 : fetch tX3_timeWeight 39 = some (.getfield 23, 3, 3, 2, 0, 0) := rfl
theorem fX3_timeWeight_42 : fetch tX3_timeWeight 42 = some (.aload_n 0, 1, 0, 0, 0, 0) := rfl
theorem fX3_timeWeight_43 : fetch tX3_timeWeight 43 = some (.getfield 12, 3, 3, 0, 0, 0) := rfl
theorem fX3_timeWeight_46 : fetch tX3_timeWeight 46 = some (.iload_n 1, 1, 1, 0, 0, 0) := rfl
theorem fX3_timeWeight_47 : fetch tX3_timeWeight 47 = some (.iconst 0, 1, 0, 0, 0, 0) := rfl
theorem fX3_timeWeight_48 : fetch tX3_timeWeight 48 = some (.invokevirtual 143, 3, 4, 1, 0, 0) := rfl
theorem fX3_timeWeight_51 : fetch tX3_timeWeight 51 = some (.aload_n 0, 1, 0, 0, 0, 0) := rfl
theorem fX3_timeWeight_52 : fetch tX3_timeWeight 52 = some (.getfield 23, 3, 3, 2, 0, 0) := rfl
theorem fX3_timeWeight_55 : fetch tX3_timeWeight 55 = some (.getfield 147, 3, 1, 2, 0, 0) := rfl
theorem fX3_timeWeight_58 : fetch tX3_timeWeight 58 = some (.lreturn, 1, 0, 0, 0, 0) := rfl
def tX3_reach : List (Nat × TE) := [(0, .iload_n 1, 1, 1, 0, 0, 0), (1, .invokestatic 108, 3, 0, 3, 0, 0), (4, .ifCond .ne 7, 3, 11, 0, 0, 0), (7, .ldc2_w 128, 3, 0, 0, 0, (-3)), (10, .lreturn, 1, 0, 0, 0, 0), (11, .aload_n 0, 1, 0, 0, 0, 0), (12, .getfield 23, 3, 3, 2, 0, 0), (15, .invokevirtual 151, 3, 1, 1, 0, 0), (18, .aload_n 0, 1, 0, 0, 0, 0), (19, .getfield 23, 3, 3, 2, 0, 0), (22, .aload_n 0, 1, 0, 0, 0, 0), (23, .getfield 12, 3, 3, 0, 0, 0), (26, .iload_n 1, 1, 1, 0, 0, 0), (27, .iconst 0, 1, 0, 0, 0, 0), (28, .invokevirtual 143, 3, 2, 1, 0, 0), (31, .aload_n 0, 1, 0, 0, 0, 0), (32, .getfield 23, 3, 3, 2, 0, 0), (35, .getfield 154, 3, 1, 3, 0, 0), (38, .lreturn, 1, 0, 0, 0, 0)]
theorem tkX3_reach : tOk cX3_reach "RumourSource" 2 tX3_reach = true := by decide +kernel
theorem fX3_reach_0 : fetch tX3_reach 0 = some (.iload_n 1, 1, 1, 0, 0, 0) := rfl
theorem fX3_reach_1 : fetch tX3_reach 1 = some (.invokestatic 108, 3, 0, 3, 0, 0) := rfl
theorem fX3_reach_4 : fetch tX3_reach 4 = some (.ifCond .ne 7, 3, 11, 0, 0, 0) := rfl
theorem fX3_reach_7 : fetch tX3_reach 7 = some (.ldc2_w 128, 3, 0, 0, 0, (-3)) := rfl
theorem fX3_reach_10 : fetch tX3_reach 10 = some (.lreturn, 1, 0, 0, 0, 0) := rfl
theorem fX3_reach_11 : fetch tX3_reach 11 = some (.aload_n 0, 1, 0, 0, 0, 0) := rfl
theorem fX3_reach_12 : fetch tX3_reach 12 = some (.getfield 23, 3, 3, 2, 0, 0) := rfl
theorem fX3_reach_15 : fetch tX3_reach 15 = some (.invokevirtual 151, 3, 1, 1, 0, 0) := rfl
theorem fX3_reach_18 : fetch tX3_reach 18 = some (.aload_n 0, 1, 0, 0, 0, 0) := rfl
theorem fX3_reach_19 : fetch tX3_reach 19 = some (.getfield 23, 3, 3, 2, 0, 0) := rfl
theorem fX3_reach_22 : fetch tX3_reach 22 = some (.aload_n 0, 1, 0, 0, 0, 0) := rfl
theorem fX3_reach_23 : fetch tX3_reach 23 = some (.getfield 12, 3, 3, 0, 0, 0) := rfl
theorem fX3_reach_26 : fetch tX3_reach 26 = some (.iload_n 1, 1, 1, 0, 0, 0) := rfl
theorem fX3_reach_27 : fetch tX3_reach 27 = some (.iconst 0, 1, 0, 0, 0, 0) := rfl
theorem fX3_reach_28 : fetch tX3_reach 28 = some (.invokevirtual 143, 3, 2, 1, 0, 0) := rfl
theorem fX3_reach_31 : fetch tX3_reach 31 = some (.aload_n 0, 1, 0, 0, 0, 0) := rfl
theorem fX3_reach_32 : fetch tX3_reach 32 = some (.getfield 23, 3, 3, 2, 0, 0) := rfl
theorem fX3_reach_35 : fetch tX3_reach 35 = some (.getfield 154, 3, 1, 3, 0, 0) := rfl
theorem fX3_reach_38 : fetch tX3_reach 38 = some (.lreturn, 1, 0, 0, 0, 0) := rfl
def tX3_likelihood : List (Nat × TE) := [(0, .iload_n 1, 1, 1, 0, 0, 0), (1, .invokestatic 108, 3, 0, 3, 0, 0), (4, .ifCond .ne 7, 3, 11, 0, 0, 0), (7, .ldc2_w 128, 3, 0, 0, 0, (-3)), (10, .lreturn, 1, 0, 0, 0, 0), (11, .aload_n 0, 1, 0, 0, 0, 0), (12, .iload_n 1, 1, 1, 0, 0, 0), (13, .invokevirtual 157, 3, 1, 3, 0, 0), (16, .lreturn, 1, 0, 0, 0, 0)]
theorem tkX3_likelihood : tOk cX3_likelihood "RumourSource" 2 tX3_likelihood = true := by decide +kernel
theorem fX3_likelihood_0 : fetch tX3_likelihood 0 = some (.iload_n 1, 1, 1, 0, 0, 0) := rfl
theorem fX3_likelihood_1 : fetch tX3_likelihood 1 = some (.invokestatic 108, 3, 0, 3, 0, 0) := rfl
theorem fX3_likelihood_4 : fetch tX3_likelihood 4 = some (.ifCond .ne 7, 3, 11, 0, 0, 0) := rfl
theorem fX3_likelihood_7 : fetch tX3_likelihood 7 = some (.ldc2_w 128, 3, 0, 0, 0, (-3)) := rfl
theorem fX3_likelihood_10 : fetch tX3_likelihood 10 = some (.lreturn, 1, 0, 0, 0, 0) := rfl
theorem fX3_likelihood_11 : fetch tX3_likelihood 11 = some (.aload_n 0, 1, 0, 0, 0, 0) := rfl
theorem fX3_likelihood_12 : fetch tX3_likelihood 12 = some (.iload_n 1, 1, 1, 0, 0, 0) := rfl
theorem fX3_likelihood_13 : fetch tX3_likelihood 13 = some (.invokevirtual 157, 3, 1, 3, 0, 0) := rfl
theorem fX3_likelihood_16 : fetch tX3_likelihood 16 = some (.lreturn, 1, 0, 0, 0, 0) := rfl
def tX3_candidates : List (Nat × TE) := [(0, .iconst 0, 1, 0, 0, 0, 0), (1, .istore_n 1, 1, 1, 0, 0, 0), (2, .iconst 0, 1, 0, 0, 0, 0), (3, .istore_n 2, 1, 2, 0, 0, 0), (4, .iload_n 2, 1, 2, 0, 0, 0), (5, .bipush 8, 2, 0, 0, 8, 0), (7, .if_icmp .ge 19, 3, 26, 0, 0, 0), (10, .iload_n 1, 1, 1, 0, 0, 0), (11, .aload_n 0, 1, 0, 0, 0, 0), (12, .iconst 1, 1, 0, 0, 1, 0), (13, .iload_n 2, 1, 2, 0, 0, 0), (14, .ishl, 1, 0, 0, 0, 0), (15, .invokevirtual 161, 3, 0, 3, 0, 0), (18, .iadd, 1, 0, 0, 0, 0), (19, .istore_n 1, 1, 1, 0, 0, 0), (20, .iinc 2 1, 3, 2, 0, 1, 0), (23, .goto (-19), 3, 4, 0, 0, 0), (26, .iload_n 1, 1, 1, 0, 0, 0), (27, .ireturn, 1, 0, 0, 0, 0)]
theorem tkX3_candidates : tOk cX3_candidates "RumourSource" 3 tX3_candidates = true := by decide +kernel
theorem fX3_candidates_0 : fetch tX3_candidates 0 = some (.iconst 0, 1, 0, 0, 0, 0) := rfl
theorem fX3_candidates_1 : fetch tX3_candidates 1 = some (.istore_n 1, 1, 1, 0, 0, 0) := rfl
theorem fX3_candidates_2 : fetch tX3_candidates 2 = some (.iconst 0, 1, 0, 0, 0, 0) := rfl
theorem fX3_candidates_3 : fetch tX3_candidates 3 = some (.istore_n 2, 1, 2, 0, 0, 0) := rfl
theorem fX3_candidates_4 : fetch tX3_candidates 4 = some (.iload_n 2, 1, 2, 0, 0, 0) := rfl
theorem fX3_candidates_5 : fetch tX3_candidates 5 = some (.bipush 8, 2, 0, 0, 8, 0) := rfl
theorem fX3_candidates_7 : fetch tX3_candidates 7 = some (.if_icmp .ge 19, 3, 26, 0, 0, 0) := rfl
theorem fX3_candidates_10 : fetch tX3_candidates 10 = some (.iload_n 1, 1, 1, 0, 0, 0) := rfl
theorem fX3_candidates_11 : fetch tX3_candidates 11 = some (.aload_n 0, 1, 0, 0, 0, 0) := rfl
theorem fX3_candidates_12 : fetch tX3_candidates 12 = some (.iconst 1, 1, 0, 0, 1, 0) := rfl
theorem fX3_candidates_13 : fetch tX3_candidates 13 = some (.iload_n 2, 1, 2, 0, 0, 0) := rfl
theorem fX3_candidates_14 : fetch tX3_candidates 14 = some (.ishl, 1, 0, 0, 0, 0) := rfl
theorem fX3_candidates_15 : fetch tX3_candidates 15 = some (.invokevirtual 161, 3, 0, 3, 0, 0) := rfl
theorem fX3_candidates_18 : fetch tX3_candidates 18 = some (.iadd, 1, 0, 0, 0, 0) := rfl
theorem fX3_candidates_19 : fetch tX3_candidates 19 = some (.istore_n 1, 1, 1, 0, 0, 0) := rfl
theorem fX3_candidates_20 : fetch tX3_candidates 20 = some (.iinc 2 1, 3, 2, 0, 1, 0) := rfl
theorem fX3_candidates_23 : fetch tX3_candidates 23 = some (.goto (-19), 3, 4, 0, 0, 0) := rfl
theorem fX3_candidates_26 : fetch tX3_candidates 26 = some (.iload_n 1, 1, 1, 0, 0, 0) := rfl
theorem fX3_candidates_27 : fetch tX3_candidates 27 = some (.ireturn, 1, 0, 0, 0, 0) := rfl
def tX3_candidate : List (Nat × TE) := [(0, .aload_n 0, 1, 0, 0, 0, 0), (1, .invokevirtual 164, 3, 0, 3, 0, 0), (4, .iconst 0, 1, 0, 0, 0, 0), (5, .istore_n 2, 1, 2, 0, 0, 0), (6, .iload_n 2, 1, 2, 0, 0, 0), (7, .bipush 8, 2, 0, 0, 8, 0), (9, .if_icmp .ge 31, 3, 40, 0, 0, 0), (12, .aload_n 0, 1, 0, 0, 0, 0), (13, .getfield 34, 3, 3, 4, 0, 0), (16, .iload_n 2, 1, 2, 0, 0, 0), (17, .laload, 1, 0, 0, 0, 0), (18, .lconst 0, 1, 0, 0, 0, 0), (19, .lcmp, 1, 0, 0, 0, 0), (20, .ifCond .le 14, 3, 34, 0, 0, 0), (23, .aload_n 0, 1, 0, 0, 0, 0), (24, .iload_n 2, 1, 2, 0, 0, 0), (25, .invokevirtual 167, 3, 1, 3, 0, 0), (28, .iload_n 1, 1, 1, 0, 0, 0), (29, .if_icmp .ne 5, 3, 34, 0, 0, 0), (32, .iload_n 2, 1, 2, 0, 0, 0), (33, .ireturn, 1, 0, 0, 0, 0), (34, .iinc 2 1, 3, 2, 0, 1, 0), (37, .goto (-31), 3, 6, 0, 0, 0), (40, .bipush (-2), 2, 0, 0, (-2), 0), (42, .ireturn, 1, 0, 0, 0, 0)]
theorem tkX3_candidate : tOk cX3_candidate "RumourSource" 3 tX3_candidate = true := by decide +kernel
theorem fX3_candidate_0 : fetch tX3_candidate 0 = some (.aload_n 0, 1, 0, 0, 0, 0) := rfl
theorem fX3_candidate_1 : fetch tX3_candidate 1 = some (.invokevirtual 164, 3, 0, 3, 0, 0) := rfl
theorem fX3_candidate_4 : fetch tX3_candidate 4 = some (.iconst 0, 1, 0, 0, 0, 0) := rfl
theorem fX3_candidate_5 : fetch tX3_candidate 5 = some (.istore_n 2, 1, 2, 0, 0, 0) := rfl
theorem fX3_candidate_6 : fetch tX3_candidate 6 = some (.iload_n 2, 1, 2, 0, 0, 0) := rfl
theorem fX3_candidate_7 : fetch tX3_candidate 7 = some (.bipush 8, 2, 0, 0, 8, 0) := rfl
theorem fX3_candidate_9 : fetch tX3_candidate 9 = some (.if_icmp .ge 31, 3, 40, 0, 0, 0) := rfl
theorem fX3_candidate_12 : fetch tX3_candidate 12 = some (.aload_n 0, 1, 0, 0, 0, 0) := rfl
theorem fX3_candidate_13 : fetch tX3_candidate 13 = some (.getfield 34, 3, 3, 4, 0, 0) := rfl
theorem fX3_candidate_16 : fetch tX3_candidate 16 = some (.iload_n 2, 1, 2, 0, 0, 0) := rfl
theorem fX3_candidate_17 : fetch tX3_candidate 17 = some (.laload, 1, 0, 0, 0, 0) := rfl
theorem fX3_candidate_18 : fetch tX3_candidate 18 = some (.lconst 0, 1, 0, 0, 0, 0) := rfl
theorem fX3_candidate_19 : fetch tX3_candidate 19 = some (.lcmp, 1, 0, 0, 0, 0) := rfl
theorem fX3_candidate_20 : fetch tX3_candidate 20 = some (.ifCond .le 14, 3, 34, 0, 0, 0) := rfl
theorem fX3_candidate_23 : fetch tX3_candidate 23 = some (.aload_n 0, 1, 0, 0, 0, 0) := rfl
theorem fX3_candidate_24 : fetch tX3_candidate 24 = some (.iload_n 2, 1, 2, 0, 0, 0) := rfl
theorem fX3_candidate_25 : fetch tX3_candidate 25 = some (.invokevirtual 167, 3, 1, 3, 0, 0) := rfl
theorem fX3_candidate_28 : fetch tX3_candidate 28 = some (.iload_n 1, 1, 1, 0, 0, 0) := rfl
theorem fX3_candidate_29 : fetch tX3_candidate 29 = some (.if_icmp .ne 5, 3, 34, 0, 0, 0) := rfl
theorem fX3_candidate_32 : fetch tX3_candidate 32 = some (.iload_n 2, 1, 2, 0, 0, 0) := rfl
theorem fX3_candidate_33 : fetch tX3_candidate 33 = some (.ireturn, 1, 0, 0, 0, 0) := rfl
theorem fX3_candidate_34 : fetch tX3_candidate 34 = some (.iinc 2 1, 3, 2, 0, 1, 0) := rfl
theorem fX3_candidate_37 : fetch tX3_candidate 37 = some (.goto (-31), 3, 6, 0, 0, 0) := rfl
theorem fX3_candidate_40 : fetch tX3_candidate 40 = some (.bipush (-2), 2, 0, 0, (-2), 0) := rfl
theorem fX3_candidate_42 : fetch tX3_candidate 42 = some (.ireturn, 1, 0, 0, 0, 0) := rfl
def tX3_belief : List (Nat × TE) := [(0, .iload_n 1, 1, 1, 0, 0, 0), (1, .invokestatic 42, 3, 0, 3, 0, 0), (4, .ifCond .ne 6, 3, 10, 0, 0, 0), (7, .bipush (-2), 2, 0, 0, (-2), 0), (9, .ireturn, 1, 0, 0, 0, 0), (10, .aload_n 0, 1, 0, 0, 0, 0), (11, .invokevirtual 164, 3, 1, 3, 0, 0), (14, .lconst 0, 1, 0, 0, 0, 0), (15, .lstore_n 2, 1, 2, 0, 0, 0), (16, .iconst 0, 1, 0, 0, 0, 0), (17, .istore 4, 2, 4, 0, 0, 0), (19, .iload 4, 2, 4, 0, 0, 0), (21, .bipush 8, 2, 0, 0, 8, 0), (23, .if_icmp .ge 19, 3, 42, 0, 0, 0), (26, .lload_n 2, 1, 2, 0, 0, 0), (27, .aload_n 0, 1, 0, 0, 0, 0), (28, .getfield 34, 3, 3, 4, 0, 0), (31, .iload 4, 2, 4, 0, 0, 0), (33, .laload, 1, 0, 0, 0, 0), (34, .ladd, 1, 0, 0, 0, 0), (35, .lstore_n 2, 1, 2, 0, 0, 0), (36, .iinc 4 1, 3, 4, 0, 1, 0), (39, .goto (-20), 3, 19, 0, 0, 0), (42, .lload_n 2, 1, 2, 0, 0, 0), (43, .lconst 0, 1, 0, 0, 0, 0), (44, .lcmp, 1, 0, 0, 0, 0), (45, .ifCond .le 19, 3, 64, 0, 0, 0), (48, .ldc2_w 170, 3, 0, 0, 0, 1000), (51, .aload_n 0, 1, 0, 0, 0, 0), (52, .getfield 34, 3, 3, 4, 0, 0), (55, .iload_n 1, 1, 1, 0, 0, 0), (56, .laload, 1, 0, 0, 0, 0), (57, .lmul, 1, 0, 0, 0, 0), (58, .lload_n 2, 1, 2, 0, 0, 0), (59, .ldiv, 1, 0, 0, 0, 0), (60, .l2i, 1, 0, 0, 0, 0), (61, .goto 4, 3, 65, 0, 0, 0), (64, .iconst 0, 1, 0, 0, 0, 0), (65, .ireturn, 1, 0, 0, 0, 0)]
theorem tkX3_belief : tOk cX3_belief "RumourSource" 5 tX3_belief = true := by decide +kernel
theorem fX3_belief_0 : fetch tX3_belief 0 = some (.iload_n 1, 1, 1, 0, 0, 0) := rfl
theorem fX3_belief_1 : fetch tX3_belief 1 = some (.invokestatic 42, 3, 0, 3, 0, 0) := rfl
theorem fX3_belief_4 : fetch tX3_belief 4 = some (.ifCond .ne 6, 3, 10, 0, 0, 0) := rfl
theorem fX3_belief_7 : fetch tX3_belief 7 = some (.bipush (-2), 2, 0, 0, (-2), 0) := rfl
theorem fX3_belief_9 : fetch tX3_belief 9 = some (.ireturn, 1, 0, 0, 0, 0) := rfl
theorem fX3_belief_10 : fetch tX3_belief 10 = some (.aload_n 0, 1, 0, 0, 0, 0) := rfl
theorem fX3_belief_11 : fetch tX3_belief 11 = some (.invokevirtual 164, 3, 1, 3, 0, 0) := rfl
theorem fX3_belief_14 : fetch tX3_belief 14 = some (.lconst 0, 1, 0, 0, 0, 0) := rfl
theorem fX3_belief_15 : fetch tX3_belief 15 = some (.lstore_n 2, 1, 2, 0, 0, 0) := rfl
theorem fX3_belief_16 : fetch tX3_belief 16 = some (.iconst 0, 1, 0, 0, 0, 0) := rfl
theorem fX3_belief_17 : fetch tX3_belief 17 = some (.istore 4, 2, 4, 0, 0, 0) := rfl
theorem fX3_belief_19 : fetch tX3_belief 19 = some (.iload 4, 2, 4, 0, 0, 0) := rfl
theorem fX3_belief_21 : fetch tX3_belief 21 = some (.bipush 8, 2, 0, 0, 8, 0) := rfl
theorem fX3_belief_23 : fetch tX3_belief 23 = some (.if_icmp .ge 19, 3, 42, 0, 0, 0) := rfl
theorem fX3_belief_26 : fetch tX3_belief 26 = some (.lload_n 2, 1, 2, 0, 0, 0) := rfl
theorem fX3_belief_27 : fetch tX3_belief 27 = some (.aload_n 0, 1, 0, 0, 0, 0) := rfl
theorem fX3_belief_28 : fetch tX3_belief 28 = some (.getfield 34, 3, 3, 4, 0, 0) := rfl
theorem fX3_belief_31 : fetch tX3_belief 31 = some (.iload 4, 2, 4, 0, 0, 0) := rfl
theorem fX3_belief_33 : fetch tX3_belief 33 = some (.laload, 1, 0, 0, 0, 0) := rfl
theorem fX3_belief_34 : fetch tX3_belief 34 = some (.ladd, 1, 0, 0, 0, 0) := rfl
theorem fX3_belief_35 : fetch tX3_belief 35 = some (.lstore_n 2, 1, 2, 0, 0, 0) := rfl
theorem fX3_belief_36 : fetch tX3_belief 36 = some (.iinc 4 1, 3, 4, 0, 1, 0) := rfl
theorem fX3_belief_39 : fetch tX3_belief 39 = some (.goto (-20), 3, 19, 0, 0, 0) := rfl
theorem fX3_belief_42 : fetch tX3_belief 42 = some (.lload_n 2, 1, 2, 0, 0, 0) := rfl
theorem fX3_belief_43 : fetch tX3_belief 43 = some (.lconst 0, 1, 0, 0, 0, 0) := rfl
theorem fX3_belief_44 : fetch tX3_belief 44 = some (.lcmp, 1, 0, 0, 0, 0) := rfl
theorem fX3_belief_45 : fetch tX3_belief 45 = some (.ifCond .le 19, 3, 64, 0, 0, 0) := rfl
theorem fX3_belief_48 : fetch tX3_belief 48 = some (.ldc2_w 170, 3, 0, 0, 0, 1000) := rfl
theorem fX3_belief_51 : fetch tX3_belief 51 = some (.aload_n 0, 1, 0, 0, 0, 0) := rfl
theorem fX3_belief_52 : fetch tX3_belief 52 = some (.getfield 34, 3, 3, 4, 0, 0) := rfl
theorem fX3_belief_55 : fetch tX3_belief 55 = some (.iload_n 1, 1, 1, 0, 0, 0) := rfl
theorem fX3_belief_56 : fetch tX3_belief 56 = some (.laload, 1, 0, 0, 0, 0) := rfl
theorem fX3_belief_57 : fetch tX3_belief 57 = some (.lmul, 1, 0, 0, 0, 0) := rfl
theorem fX3_belief_58 : fetch tX3_belief 58 = some (.lload_n 2, 1, 2, 0, 0, 0) := rfl
theorem fX3_belief_59 : fetch tX3_belief 59 = some (.ldiv, 1, 0, 0, 0, 0) := rfl
theorem fX3_belief_60 : fetch tX3_belief 60 = some (.l2i, 1, 0, 0, 0, 0) := rfl
theorem fX3_belief_61 : fetch tX3_belief 61 = some (.goto 4, 3, 65, 0, 0, 0) := rfl
theorem fX3_belief_64 : fetch tX3_belief 64 = some (.iconst 0, 1, 0, 0, 0, 0) := rfl
theorem fX3_belief_65 : fetch tX3_belief 65 = some (.ireturn, 1, 0, 0, 0, 0) := rfl
def tX3_decoy : List (Nat × TE) := [(0, .iload_n 1, 1, 1, 0, 0, 0), (1, .invokestatic 42, 3, 0, 3, 0, 0), (4, .ifCond .ne 6, 3, 10, 0, 0, 0), (7, .bipush (-2), 2, 0, 0, (-2), 0), (9, .ireturn, 1, 0, 0, 0, 0), (10, .iconst (-1), 1, 0, 0, (-1), 0), (11, .istore_n 2, 1, 2, 0, 0, 0), (12, .lconst 0, 1, 0, 0, 0, 0), (13, .lstore_n 3, 1, 3, 0, 0, 0), (14, .iconst 0, 1, 0, 0, 0, 0), (15, .istore 5, 2, 5, 0, 0, 0), (17, .iload 5, 2, 5, 0, 0, 0), (19, .bipush 8, 2, 0, 0, 8, 0), (21, .if_icmp .ge 45, 3, 66, 0, 0, 0), (24, .iload 5, 2, 5, 0, 0, 0), (26, .iload_n 1, 1, 1, 0, 0, 0), (27, .if_icmp .ne 6, 3, 33, 0, 0, 0), (30, .goto 30, 3, 60, 0, 0, 0), (33, .aload_n 0, 1, 0, 0, 0, 0), (34, .iconst 1, 1, 0, 0, 1, 0), (35, .iload_n 1, 1, 1, 0, 0, 0), (36, .ishl, 1, 0, 0, 0, 0), (37, .iconst 1, 1, 0, 0, 1, 0), (38, .iload 5, 2, 5, 0, 0, 0), (40, .ishl, 1, 0, 0, 0, 0), (41, .ior, 1, 0, 0, 0, 0), (42, .invokevirtual 157, 3, 1, 3, 0, 0), (45, .lstore 6, 2, 6, 0, 0, 0), (47, .lload 6, 2, 6, 0, 0, 0), (49, .lload_n 3, 1, 3, 0, 0, 0), (50, .lcmp, 1, 0, 0, 0, 0), (51, .ifCond .le 9, 3, 60, 0, 0, 0), (54, .lload 6, 2, 6, 0, 0, 0), (56, .lstore_n 3, 1, 3, 0, 0, 0), (57, .iload 5, 2, 5, 0, 0, 0), (59, .istore_n 2, 1, 2, 0, 0, 0), (60, .iinc 5 1, 3, 5, 0, 1, 0), (63, .goto (-46), 3, 17, 0, 0, 0), (66, .iload_n 2, 1, 2, 0, 0, 0), (67, .ireturn, 1, 0, 0, 0, 0)]
theorem tkX3_decoy : tOk cX3_decoy "RumourSource" 8 tX3_decoy = true := by decide +kernel
theorem fX3_decoy_0 : fetch tX3_decoy 0 = some (.iload_n 1, 1, 1, 0, 0, 0) := rfl
theorem fX3_decoy_1 : fetch tX3_decoy 1 = some (.invokestatic 42, 3, 0, 3, 0, 0) := rfl
theorem fX3_decoy_4 : fetch tX3_decoy 4 = some (.ifCond .ne 6, 3, 10, 0, 0, 0) := rfl
theorem fX3_decoy_7 : fetch tX3_decoy 7 = some (.bipush (-2), 2, 0, 0, (-2), 0) := rfl
theorem fX3_decoy_9 : fetch tX3_decoy 9 = some (.ireturn, 1, 0, 0, 0, 0) := rfl
theorem fX3_decoy_10 : fetch tX3_decoy 10 = some (.iconst (-1), 1, 0, 0, (-1), 0) := rfl
theorem fX3_decoy_11 : fetch tX3_decoy 11 = some (.istore_n 2, 1, 2, 0, 0, 0) := rfl
theorem fX3_decoy_12 : fetch tX3_decoy 12 = some (.lconst 0, 1, 0, 0, 0, 0) := rfl
theorem fX3_decoy_13 : fetch tX3_decoy 13 = some (.lstore_n 3, 1, 3, 0, 0, 0) := rfl
theorem fX3_decoy_14 : fetch tX3_decoy 14 = some (.iconst 0, 1, 0, 0, 0, 0) := rfl
theorem fX3_decoy_15 : fetch tX3_decoy 15 = some (.istore 5, 2, 5, 0, 0, 0) := rfl
theorem fX3_decoy_17 : fetch tX3_decoy 17 = some (.iload 5, 2, 5, 0, 0, 0) := rfl
theorem fX3_decoy_19 : fetch tX3_decoy 19 = some (.bipush 8, 2, 0, 0, 8, 0) := rfl
theorem fX3_decoy_21 : fetch tX3_decoy 21 = some (.if_icmp .ge 45, 3, 66, 0, 0, 0) := rfl
theorem fX3_decoy_24 : fetch tX3_decoy 24 = some (.iload 5, 2, 5, 0, 0, 0) := rfl
theorem fX3_decoy_26 : fetch tX3_decoy 26 = some (.iload_n 1, 1, 1, 0, 0, 0) := rfl
theorem fX3_decoy_27 : fetch tX3_decoy 27 = some (.if_icmp .ne 6, 3, 33, 0, 0, 0) := rfl
theorem fX3_decoy_30 : fetch tX3_decoy 30 = some (.goto 30, 3, 60, 0, 0, 0) := rfl
theorem fX3_decoy_33 : fetch tX3_decoy 33 = some (.aload_n 0, 1, 0, 0, 0, 0) := rfl
theorem fX3_decoy_34 : fetch tX3_decoy 34 = some (.iconst 1, 1, 0, 0, 1, 0) := rfl
theorem fX3_decoy_35 : fetch tX3_decoy 35 = some (.iload_n 1, 1, 1, 0, 0, 0) := rfl
theorem fX3_decoy_36 : fetch tX3_decoy 36 = some (.ishl, 1, 0, 0, 0, 0) := rfl
theorem fX3_decoy_37 : fetch tX3_decoy 37 = some (.iconst 1, 1, 0, 0, 1, 0) := rfl
theorem fX3_decoy_38 : fetch tX3_decoy 38 = some (.iload 5, 2, 5, 0, 0, 0) := rfl
theorem fX3_decoy_40 : fetch tX3_decoy 40 = some (.ishl, 1, 0, 0, 0, 0) := rfl
theorem fX3_decoy_41 : fetch tX3_decoy 41 = some (.ior, 1, 0, 0, 0, 0) := rfl
theorem fX3_decoy_42 : fetch tX3_decoy 42 = some (.invokevirtual 157, 3, 1, 3, 0, 0) := rfl
theorem fX3_decoy_45 : fetch tX3_decoy 45 = some (.lstore 6, 2, 6, 0, 0, 0) := rfl
theorem fX3_decoy_47 : fetch tX3_decoy 47 = some (.lload 6, 2, 6, 0, 0, 0) := rfl
theorem fX3_decoy_49 : fetch tX3_decoy 49 = some (.lload_n 3, 1, 3, 0, 0, 0) := rfl
theorem fX3_decoy_50 : fetch tX3_decoy 50 = some (.lcmp, 1, 0, 0, 0, 0) := rfl
theorem fX3_decoy_51 : fetch tX3_decoy 51 = some (.ifCond .le 9, 3, 60, 0, 0, 0) := rfl
theorem fX3_decoy_54 : fetch tX3_decoy 54 = some (.lload 6, 2, 6, 0, 0, 0) := rfl
theorem fX3_decoy_56 : fetch tX3_decoy 56 = some (.lstore_n 3, 1, 3, 0, 0, 0) := rfl
theorem fX3_decoy_57 : fetch tX3_decoy 57 = some (.iload 5, 2, 5, 0, 0, 0) := rfl
theorem fX3_decoy_59 : fetch tX3_decoy 59 = some (.istore_n 2, 1, 2, 0, 0, 0) := rfl
theorem fX3_decoy_60 : fetch tX3_decoy 60 = some (.iinc 5 1, 3, 5, 0, 1, 0) := rfl
theorem fX3_decoy_63 : fetch tX3_decoy 63 = some (.goto (-46), 3, 17, 0, 0, 0) := rfl
theorem fX3_decoy_66 : fetch tX3_decoy 66 = some (.iload_n 2, 1, 2, 0, 0, 0) := rfl
theorem fX3_decoy_67 : fetch tX3_decoy 67 = some (.ireturn, 1, 0, 0, 0, 0) := rfl
def tX3_possible : List (Nat × TE) := [(0, .iconst 0, 1, 0, 0, 0, 0), (1, .istore_n 1, 1, 1, 0, 0, 0), (2, .iconst 0, 1, 0, 0, 0, 0), (3, .istore_n 2, 1, 2, 0, 0, 0), (4, .iload_n 2, 1, 2, 0, 0, 0), (5, .bipush 8, 2, 0, 0, 8, 0), (7, .if_icmp .ge 37, 3, 44, 0, 0, 0), (10, .iload_n 2, 1, 2, 0, 0, 0), (11, .istore_n 3, 1, 3, 0, 0, 0), (12, .iload_n 3, 1, 3, 0, 0, 0), (13, .bipush 8, 2, 0, 0, 8, 0), (15, .if_icmp .ge 23, 3, 38, 0, 0, 0), (18, .iload_n 1, 1, 1, 0, 0, 0), (19, .aload_n 0, 1, 0, 0, 0, 0), (20, .iconst 1, 1, 0, 0, 1, 0), (21, .iload_n 2, 1, 2, 0, 0, 0), (22, .ishl, 1, 0, 0, 0, 0), (23, .iconst 1, 1, 0, 0, 1, 0), (24, .iload_n 3, 1, 3, 0, 0, 0), (25, .ishl, 1, 0, 0, 0, 0), (26, .ior, 1, 0, 0, 0, 0), (27, .invokevirtual 161, 3, 0, 3, 0, 0), (30, .iadd, 1, 0, 0, 0, 0), (31, .istore_n 1, 1, 1, 0, 0, 0), (32, .iinc 3 1, 3, 3, 0, 1, 0), (35, .goto (-23), 3, 12, 0, 0, 0), (38, .iinc 2 1, 3, 2, 0, 1, 0), (41, .goto (-37), 3, 4, 0, 0, 0), (44, .iload_n 1, 1, 1, 0, 0, 0), (45, .ireturn, 1, 0, 0, 0, 0)]
theorem tkX3_possible : tOk cX3_possible "RumourSource" 4 tX3_possible = true := by decide +kernel
theorem fX3_possible_0 : fetch tX3_possible 0 = some (.iconst 0, 1, 0, 0, 0, 0) := rfl
theorem fX3_possible_1 : fetch tX3_possible 1 = some (.istore_n 1, 1, 1, 0, 0, 0) := rfl
theorem fX3_possible_2 : fetch tX3_possible 2 = some (.iconst 0, 1, 0, 0, 0, 0) := rfl
theorem fX3_possible_3 : fetch tX3_possible 3 = some (.istore_n 2, 1, 2, 0, 0, 0) := rfl
theorem fX3_possible_4 : fetch tX3_possible 4 = some (.iload_n 2, 1, 2, 0, 0, 0) := rfl
theorem fX3_possible_5 : fetch tX3_possible 5 = some (.bipush 8, 2, 0, 0, 8, 0) := rfl
theorem fX3_possible_7 : fetch tX3_possible 7 = some (.if_icmp .ge 37, 3, 44, 0, 0, 0) := rfl
theorem fX3_possible_10 : fetch tX3_possible 10 = some (.iload_n 2, 1, 2, 0, 0, 0) := rfl
theorem fX3_possible_11 : fetch tX3_possible 11 = some (.istore_n 3, 1, 3, 0, 0, 0) := rfl
theorem fX3_possible_12 : fetch tX3_possible 12 = some (.iload_n 3, 1, 3, 0, 0, 0) := rfl
theorem fX3_possible_13 : fetch tX3_possible 13 = some (.bipush 8, 2, 0, 0, 8, 0) := rfl
theorem fX3_possible_15 : fetch tX3_possible 15 = some (.if_icmp .ge 23, 3, 38, 0, 0, 0) := rfl
theorem fX3_possible_18 : fetch tX3_possible 18 = some (.iload_n 1, 1, 1, 0, 0, 0) := rfl
theorem fX3_possible_19 : fetch tX3_possible 19 = some (.aload_n 0, 1, 0, 0, 0, 0) := rfl
theorem fX3_possible_20 : fetch tX3_possible 20 = some (.iconst 1, 1, 0, 0, 1, 0) := rfl
theorem fX3_possible_21 : fetch tX3_possible 21 = some (.iload_n 2, 1, 2, 0, 0, 0) := rfl
theorem fX3_possible_22 : fetch tX3_possible 22 = some (.ishl, 1, 0, 0, 0, 0) := rfl
theorem fX3_possible_23 : fetch tX3_possible 23 = some (.iconst 1, 1, 0, 0, 1, 0) := rfl
theorem fX3_possible_24 : fetch tX3_possible 24 = some (.iload_n 3, 1, 3, 0, 0, 0) := rfl
theorem fX3_possible_25 : fetch tX3_possible 25 = some (.ishl, 1, 0, 0, 0, 0) := rfl
theorem fX3_possible_26 : fetch tX3_possible 26 = some (.ior, 1, 0, 0, 0, 0) := rfl
theorem fX3_possible_27 : fetch tX3_possible 27 = some (.invokevirtual 161, 3, 0, 3, 0, 0) := rfl
theorem fX3_possible_30 : fetch tX3_possible 30 = some (.iadd, 1, 0, 0, 0, 0) := rfl
theorem fX3_possible_31 : fetch tX3_possible 31 = some (.istore_n 1, 1, 1, 0, 0, 0) := rfl
theorem fX3_possible_32 : fetch tX3_possible 32 = some (.iinc 3 1, 3, 3, 0, 1, 0) := rfl
theorem fX3_possible_35 : fetch tX3_possible 35 = some (.goto (-23), 3, 12, 0, 0, 0) := rfl
theorem fX3_possible_38 : fetch tX3_possible 38 = some (.iinc 2 1, 3, 2, 0, 1, 0) := rfl
theorem fX3_possible_41 : fetch tX3_possible 41 = some (.goto (-37), 3, 4, 0, 0, 0) := rfl
theorem fX3_possible_44 : fetch tX3_possible 44 = some (.iload_n 1, 1, 1, 0, 0, 0) := rfl
theorem fX3_possible_45 : fetch tX3_possible 45 = some (.ireturn, 1, 0, 0, 0, 0) := rfl
def tX3_explanation : List (Nat × TE) := [(0, .iload_n 1, 1, 1, 0, 0, 0), (1, .invokestatic 108, 3, 0, 3, 0, 0), (4, .ifCond .ne 6, 3, 10, 0, 0, 0), (7, .bipush (-3), 2, 0, 0, (-3), 0), (9, .ireturn, 1, 0, 0, 0, 0), (10, .aload_n 0, 1, 0, 0, 0, 0), (11, .getfield 23, 3, 3, 2, 0, 0), (14, .aload_n 0, 1, 0, 0, 0, 0), (15, .getfield 12, 3, 3, 0, 0, 0), (18, .invokevirtual 130, 3, 1, 1, 0, 0), (21, .aload_n 0, 1, 0, 0, 0, 0), (22, .getfield 23, 3, 3, 2, 0, 0), (25, .aload_n 0, 1, 0, 0, 0, 0), (26, .getfield 12, 3, 3, 0, 0, 0), (29, .iload_n 1, 1, 1, 0, 0, 0), (30, .iconst 0, 1, 0, 0, 0, 0), (31, .invokevirtual 143, 3, 2, 1, 0, 0), (34, .aload_n 0, 1, 0, 0, 0, 0), (35, .getfield 23, 3, 3, 2, 0, 0), (38, .getfield 172, 3, 1, 5, 0, 0), (41, .ireturn, 1, 0, 0, 0, 0)]
theorem tkX3_explanation : tOk cX3_explanation "RumourSource" 2 tX3_explanation = true := by decide +kernel
theorem fX3_explanation_0 : fetch tX3_explanation 0 = some (.iload_n 1, 1, 1, 0, 0, 0) := rfl
theorem fX3_explanation_1 : fetch tX3_explanation 1 = some (.invokestatic 108, 3, 0, 3, 0, 0) := rfl
theorem fX3_explanation_4 : fetch tX3_explanation 4 = some (.ifCond .ne 6, 3, 10, 0, 0, 0) := rfl
theorem fX3_explanation_7 : fetch tX3_explanation 7 = some (.bipush (-3), 2, 0, 0, (-3), 0) := rfl
theorem fX3_explanation_9 : fetch tX3_explanation 9 = some (.ireturn, 1, 0, 0, 0, 0) := rfl
theorem fX3_explanation_10 : fetch tX3_explanation 10 = some (.aload_n 0, 1, 0, 0, 0, 0) := rfl
theorem fX3_explanation_11 : fetch tX3_explanation 11 = some (.getfield 23, 3, 3, 2, 0, 0) := rfl
theorem fX3_explanation_14 : fetch tX3_explanation 14 = some (.aload_n 0, 1, 0, 0, 0, 0) := rfl
theorem fX3_explanation_15 : fetch tX3_explanation 15 = some (.getfield 12, 3, 3, 0, 0, 0) := rfl
theorem fX3_explanation_18 : fetch tX3_explanation 18 = some (.invokevirtual 130, 3, 1, 1, 0, 0) := rfl
theorem fX3_explanation_21 : fetch tX3_explanation 21 = some (.aload_n 0, 1, 0, 0, 0, 0) := rfl
theorem fX3_explanation_22 : fetch tX3_explanation 22 = some (.getfield 23, 3, 3, 2, 0, 0) := rfl
theorem fX3_explanation_25 : fetch tX3_explanation 25 = some (.aload_n 0, 1, 0, 0, 0, 0) := rfl
theorem fX3_explanation_26 : fetch tX3_explanation 26 = some (.getfield 12, 3, 3, 0, 0, 0) := rfl
theorem fX3_explanation_29 : fetch tX3_explanation 29 = some (.iload_n 1, 1, 1, 0, 0, 0) := rfl
theorem fX3_explanation_30 : fetch tX3_explanation 30 = some (.iconst 0, 1, 0, 0, 0, 0) := rfl
theorem fX3_explanation_31 : fetch tX3_explanation 31 = some (.invokevirtual 143, 3, 2, 1, 0, 0) := rfl
theorem fX3_explanation_34 : fetch tX3_explanation 34 = some (.aload_n 0, 1, 0, 0, 0, 0) := rfl
theorem fX3_explanation_35 : fetch tX3_explanation 35 = some (.getfield 23, 3, 3, 2, 0, 0) := rfl
theorem fX3_explanation_38 : fetch tX3_explanation 38 = some (.getfield 172, 3, 1, 5, 0, 0) := rfl
theorem fX3_explanation_41 : fetch tX3_explanation 41 = some (.ireturn, 1, 0, 0, 0, 0) := rfl
def tX3_values : List (Nat × TE) := [(0, .iload_n 1, 1, 1, 0, 0, 0), (1, .invokestatic 42, 3, 0, 3, 0, 0), (4, .ifCond .ne 6, 3, 10, 0, 0, 0), (7, .bipush (-2), 2, 0, 0, (-2), 0), (9, .ireturn, 1, 0, 0, 0, 0), (10, .aload_n 0, 1, 0, 0, 0, 0), (11, .getfield 12, 3, 3, 0, 0, 0), (14, .getfield 102, 3, 0, 6, 0, 0), (17, .iload_n 1, 1, 1, 0, 0, 0), (18, .iaload, 1, 0, 0, 0, 0), (19, .bipush 100, 2, 0, 0, 100, 0), (21, .if_icmp .eq 16, 3, 37, 0, 0, 0), (24, .aload_n 0, 1, 0, 0, 0, 0), (25, .invokevirtual 175, 3, 1, 3, 0, 0), (28, .ifCond .le 7, 3, 35, 0, 0, 0), (31, .iconst 1, 1, 0, 0, 1, 0), (32, .goto 4, 3, 36, 0, 0, 0), (35, .iconst 0, 1, 0, 0, 0, 0), (36, .ireturn, 1, 0, 0, 0, 0), (37, .aload_n 0, 1, 0, 0, 0, 0), (38, .getfield 23, 3, 3, 2, 0, 0), (41, .aload_n 0, 1, 0, 0, 0, 0), (42, .getfield 12, 3, 3, 0, 0, 0), (45, .invokevirtual 130, 3, 2, 1, 0, 0), (48, .lconst 0, 1, 0, 0, 0, 0), (49, .lstore_n 2, 1, 2, 0, 0, 0), (50, .iconst 0, 1, 0, 0, 0, 0), (51, .istore 4, 2, 4, 0, 0, 0), (53, .iload 4, 2, 4, 0, 0, 0), (55, .bipush 8, 2, 0, 0, 8, 0), (57, .if_icmp .ge 37, 3, 94, 0, 0, 0), (60, .aload_n 0, 1, 0, 0, 0, 0), (61, .getfield 23, 3, 3, 2, 0, 0), (64, .aload_n 0, 1, 0, 0, 0, 0), (65, .getfield 12, 3, 3, 0, 0, 0), (68, .iconst 1, 1, 0, 0, 1, 0), (69, .iload 4, 2, 4, 0, 0, 0), (71, .ishl, 1, 0, 0, 0, 0), (72, .iconst 0, 1, 0, 0, 0, 0), (73, .invokevirtual 143, 3, 3, 1, 0, 0), (76, .lload_n 2, 1, 2, 0, 0, 0), (77, .aload_n 0, 1, 0, 0, 0, 0), (78, .getfield 23, 3, 3, 2, 0, 0), (81, .getfield 179, 3, 1, 6, 0, 0), (84, .iload_n 1, 1, 1, 0, 0, 0), (85, .laload, 1, 0, 0, 0, 0), (86, .lor, 1, 0, 0, 0, 0), (87, .lstore_n 2, 1, 2, 0, 0, 0), (88, .iinc 4 1, 3, 4, 0, 1, 0), (91, .goto (-38), 3, 53, 0, 0, 0), (94, .lload_n 2, 1, 2, 0, 0, 0), (95, .invokestatic 182, 3, 4, 0, 0, 0), (98, .ireturn, 1, 0, 0, 0, 0)]
theorem tkX3_values : tOk cX3_values "RumourSource" 5 tX3_values = true := by decide +kernel
theorem fX3_values_0 : fetch tX3_values 0 = some (.iload_n 1, 1, 1, 0, 0, 0) := rfl
theorem fX3_values_1 : fetch tX3_values 1 = some (.invokestatic 42, 3, 0, 3, 0, 0) := rfl
theorem fX3_values_4 : fetch tX3_values 4 = some (.ifCond .ne 6, 3, 10, 0, 0, 0) := rfl
theorem fX3_values_7 : fetch tX3_values 7 = some (.bipush (-2), 2, 0, 0, (-2), 0) := rfl
theorem fX3_values_9 : fetch tX3_values 9 = some (.ireturn, 1, 0, 0, 0, 0) := rfl
theorem fX3_values_10 : fetch tX3_values 10 = some (.aload_n 0, 1, 0, 0, 0, 0) := rfl
theorem fX3_values_11 : fetch tX3_values 11 = some (.getfield 12, 3, 3, 0, 0, 0) := rfl
theorem fX3_values_14 : fetch tX3_values 14 = some (.getfield 102, 3, 0, 6, 0, 0) := rfl
theorem fX3_values_17 : fetch tX3_values 17 = some (.iload_n 1, 1, 1, 0, 0, 0) := rfl
theorem fX3_values_18 : fetch tX3_values 18 = some (.iaload, 1, 0, 0, 0, 0) := rfl
theorem fX3_values_19 : fetch tX3_values 19 = some (.bipush 100, 2, 0, 0, 100, 0) := rfl
theorem fX3_values_21 : fetch tX3_values 21 = some (.if_icmp .eq 16, 3, 37, 0, 0, 0) := rfl
theorem fX3_values_24 : fetch tX3_values 24 = some (.aload_n 0, 1, 0, 0, 0, 0) := rfl
theorem fX3_values_25 : fetch tX3_values 25 = some (.invokevirtual 175, 3, 1, 3, 0, 0) := rfl
theorem fX3_values_28 : fetch tX3_values 28 = some (.ifCond .le 7, 3, 35, 0, 0, 0) := rfl
theorem fX3_values_31 : fetch tX3_values 31 = some (.iconst 1, 1, 0, 0, 1, 0) := rfl
theorem fX3_values_32 : fetch tX3_values 32 = some (.goto 4, 3, 36, 0, 0, 0) := rfl
theorem fX3_values_35 : fetch tX3_values 35 = some (.iconst 0, 1, 0, 0, 0, 0) := rfl
theorem fX3_values_36 : fetch tX3_values 36 = some (.ireturn, 1, 0, 0, 0, 0) := rfl
theorem fX3_values_37 : fetch tX3_values 37 = some (.aload_n 0, 1, 0, 0, 0, 0) := rfl
theorem fX3_values_38 : fetch tX3_values 38 = some (.getfield 23, 3, 3, 2, 0, 0) := rfl
theorem fX3_values_41 : fetch tX3_values 41 = some (.aload_n 0, 1, 0, 0, 0, 0) := rfl
theorem fX3_values_42 : fetch tX3_values 42 = some (.getfield 12, 3, 3, 0, 0, 0) := rfl
theorem fX3_values_45 : fetch tX3_values 45 = some (.invokevirtual 130, 3, 2, 1, 0, 0) := rfl
theorem fX3_values_48 : fetch tX3_values 48 = some (.lconst 0, 1, 0, 0, 0, 0) := rfl
theorem fX3_values_49 : fetch tX3_values 49 = some (.lstore_n 2, 1, 2, 0, 0, 0) := rfl
theorem fX3_values_50 : fetch tX3_values 50 = some (.iconst 0, 1, 0, 0, 0, 0) := rfl
theorem fX3_values_51 : fetch tX3_values 51 = some (.istore 4, 2, 4, 0, 0, 0) := rfl
theorem fX3_values_53 : fetch tX3_values 53 = some (.iload 4, 2, 4, 0, 0, 0) := rfl
theorem fX3_values_55 : fetch tX3_values 55 = some (.bipush 8, 2, 0, 0, 8, 0) := rfl
theorem fX3_values_57 : fetch tX3_values 57 = some (.if_icmp .ge 37, 3, 94, 0, 0, 0) := rfl
theorem fX3_values_60 : fetch tX3_values 60 = some (.aload_n 0, 1, 0, 0, 0, 0) := rfl
theorem fX3_values_61 : fetch tX3_values 61 = some (.getfield 23, 3, 3, 2, 0, 0) := rfl
theorem fX3_values_64 : fetch tX3_values 64 = some (.aload_n 0, 1, 0, 0, 0, 0) := rfl
theorem fX3_values_65 : fetch tX3_values 65 = some (.getfield 12, 3, 3, 0, 0, 0) := rfl
theorem fX3_values_68 : fetch tX3_values 68 = some (.iconst 1, 1, 0, 0, 1, 0) := rfl
theorem fX3_values_69 : fetch tX3_values 69 = some (.iload 4, 2, 4, 0, 0, 0) := rfl
theorem fX3_values_71 : fetch tX3_values 71 = some (.ishl, 1, 0, 0, 0, 0) := rfl
theorem fX3_values_72 : fetch tX3_values 72 = some (.iconst 0, 1, 0, 0, 0, 0) := rfl
theorem fX3_values_73 : fetch tX3_values 73 = some (.invokevirtual 143, 3, 3, 1, 0, 0) := rfl
theorem fX3_values_76 : fetch tX3_values 76 = some (.lload_n 2, 1, 2, 0, 0, 0) := rfl
theorem fX3_values_77 : fetch tX3_values 77 = some (.aload_n 0, 1, 0, 0, 0, 0) := rfl
theorem fX3_values_78 : fetch tX3_values 78 = some (.getfield 23, 3, 3, 2, 0, 0) := rfl
theorem fX3_values_81 : fetch tX3_values 81 = some (.getfield 179, 3, 1, 6, 0, 0) := rfl
theorem fX3_values_84 : fetch tX3_values 84 = some (.iload_n 1, 1, 1, 0, 0, 0) := rfl
theorem fX3_values_85 : fetch tX3_values 85 = some (.laload, 1, 0, 0, 0, 0) := rfl
theorem fX3_values_86 : fetch tX3_values 86 = some (.lor, 1, 0, 0, 0, 0) := rfl
theorem fX3_values_87 : fetch tX3_values 87 = some (.lstore_n 2, 1, 2, 0, 0, 0) := rfl
theorem fX3_values_88 : fetch tX3_values 88 = some (.iinc 4 1, 3, 4, 0, 1, 0) := rfl
theorem fX3_values_91 : fetch tX3_values 91 = some (.goto (-38), 3, 53, 0, 0, 0) := rfl
theorem fX3_values_94 : fetch tX3_values 94 = some (.lload_n 2, 1, 2, 0, 0, 0) := rfl
theorem fX3_values_95 : fetch tX3_values 95 = some (.invokestatic 182, 3, 4, 0, 0, 0) := rfl
theorem fX3_values_98 : fetch tX3_values 98 = some (.ireturn, 1, 0, 0, 0, 0) := rfl
def tX3_undo : List (Nat × TE) := [(0, .aload_n 0, 1, 0, 0, 0, 0), (1, .getfield 38, 3, 3, 5, 0, 0), (4, .iconst 1, 1, 0, 0, 1, 0), (5, .if_icmp .lt 15, 3, 20, 0, 0, 0), (8, .aload_n 0, 1, 0, 0, 0, 0), (9, .getfield 38, 3, 3, 5, 0, 0), (12, .aload_n 0, 1, 0, 0, 0, 0), (13, .getfield 16, 3, 3, 1, 0, 0), (16, .arraylength, 1, 0, 0, 0, 0), (17, .if_icmp .le 6, 3, 23, 0, 0, 0), (20, .bipush (-4), 2, 0, 0, (-4), 0), (22, .ireturn, 1, 0, 0, 0, 0), (23, .aload_n 0, 1, 0, 0, 0, 0), (24, .dup, 1, 0, 0, 0, 0), (25, .getfield 38, 3, 3, 5, 0, 0), (28, .iconst 1, 1, 0, 0, 1, 0), (29, .isub, 1, 0, 0, 0, 0), (30, .putfield 38, 3, 3, 5, 0, 0), (33, .aload_n 0, 1, 0, 0, 0, 0), (34, .getfield 12, 3, 3, 0, 0, 0), (37, .aload_n 0, 1, 0, 0, 0, 0), (38, .getfield 16, 3, 3, 1, 0, 0), (41, .aload_n 0, 1, 0, 0, 0, 0), (42, .getfield 38, 3, 3, 5, 0, 0), (45, .aaload, 1, 0, 0, 0, 0), (46, .invokevirtual 188, 3, 0, 0, 0, 0), (49, .aload_n 0, 1, 0, 0, 0, 0), (50, .getfield 38, 3, 3, 5, 0, 0), (53, .ireturn, 1, 0, 0, 0, 0)]
theorem tkX3_undo : tOk cX3_undo "RumourSource" 1 tX3_undo = true := by decide +kernel
theorem fX3_undo_0 : fetch tX3_undo 0 = some (.aload_n 0, 1, 0, 0, 0, 0) := rfl
theorem fX3_undo_1 : fetch tX3_undo 1 = some (.getfield 38, 3, 3, 5, 0, 0) := rfl
theorem fX3_undo_4 : fetch tX3_undo 4 = some (.iconst 1, 1, 0, 0, 1, 0) := rfl
theorem fX3_undo_5 : fetch tX3_undo 5 = some (.if_icmp .lt 15, 3, 20, 0, 0, 0) := rfl
theorem fX3_undo_8 : fetch tX3_undo 8 = some (.aload_n 0, 1, 0, 0, 0, 0) := rfl
theorem fX3_undo_9 : fetch tX3_undo 9 = some (.getfield 38, 3, 3, 5, 0, 0) := rfl
theorem fX3_undo_12 : fetch tX3_undo 12 = some (.aload_n 0, 1, 0, 0, 0, 0) := rfl
theorem fX3_undo_13 : fetch tX3_undo 13 = some (.getfield 16, 3, 3, 1, 0, 0) := rfl
theorem fX3_undo_16 : fetch tX3_undo 16 = some (.arraylength, 1, 0, 0, 0, 0) := rfl
theorem fX3_undo_17 : fetch tX3_undo 17 = some (.if_icmp .le 6, 3, 23, 0, 0, 0) := rfl
theorem fX3_undo_20 : fetch tX3_undo 20 = some (.bipush (-4), 2, 0, 0, (-4), 0) := rfl
theorem fX3_undo_22 : fetch tX3_undo 22 = some (.ireturn, 1, 0, 0, 0, 0) := rfl
theorem fX3_undo_23 : fetch tX3_undo 23 = some (.aload_n 0, 1, 0, 0, 0, 0) := rfl
theorem fX3_undo_24 : fetch tX3_undo 24 = some (.dup, 1, 0, 0, 0, 0) := rfl
theorem fX3_undo_25 : fetch tX3_undo 25 = some (.getfield 38, 3, 3, 5, 0, 0) := rfl
theorem fX3_undo_28 : fetch tX3_undo 28 = some (.iconst 1, 1, 0, 0, 1, 0) := rfl
theorem fX3_undo_29 : fetch tX3_undo 29 = some (.isub, 1, 0, 0, 0, 0) := rfl
theorem fX3_undo_30 : fetch tX3_undo 30 = some (.putfield 38, 3, 3, 5, 0, 0) := rfl
theorem fX3_undo_33 : fetch tX3_undo 33 = some (.aload_n 0, 1, 0, 0, 0, 0) := rfl
theorem fX3_undo_34 : fetch tX3_undo 34 = some (.getfield 12, 3, 3, 0, 0, 0) := rfl
theorem fX3_undo_37 : fetch tX3_undo 37 = some (.aload_n 0, 1, 0, 0, 0, 0) := rfl
theorem fX3_undo_38 : fetch tX3_undo 38 = some (.getfield 16, 3, 3, 1, 0, 0) := rfl
theorem fX3_undo_41 : fetch tX3_undo 41 = some (.aload_n 0, 1, 0, 0, 0, 0) := rfl
theorem fX3_undo_42 : fetch tX3_undo 42 = some (.getfield 38, 3, 3, 5, 0, 0) := rfl
theorem fX3_undo_45 : fetch tX3_undo 45 = some (.aaload, 1, 0, 0, 0, 0) := rfl
theorem fX3_undo_46 : fetch tX3_undo 46 = some (.invokevirtual 188, 3, 0, 0, 0, 0) := rfl
theorem fX3_undo_49 : fetch tX3_undo 49 = some (.aload_n 0, 1, 0, 0, 0, 0) := rfl
theorem fX3_undo_50 : fetch tX3_undo 50 = some (.getfield 38, 3, 3, 5, 0, 0) := rfl
theorem fX3_undo_53 : fetch tX3_undo 53 = some (.ireturn, 1, 0, 0, 0, 0) := rfl
def tX3_type : List (Nat × TE) := [(0, .iload_n 1, 1, 1, 0, 0, 0), (1, .ifCond .lt 10, 3, 11, 0, 0, 0), (4, .iload_n 1, 1, 1, 0, 0, 0), (5, .sipush 255, 3, 0, 0, 255, 0), (8, .if_icmp .le 6, 3, 14, 0, 0, 0), (11, .bipush (-3), 2, 0, 0, (-3), 0), (13, .ireturn, 1, 0, 0, 0, 0), (14, .aload_n 0, 1, 0, 0, 0, 0), (15, .getfield 30, 3, 3, 3, 0, 0), (18, .getfield 191, 3, 2, 1, 0, 0), (21, .aload_n 0, 1, 0, 0, 0, 0), (22, .getfield 30, 3, 3, 3, 0, 0), (25, .getfield 194, 3, 2, 0, 0, 0), (28, .arraylength, 1, 0, 0, 0, 0), (29, .if_icmp .lt 6, 3, 35, 0, 0, 0), (32, .bipush (-5), 2, 0, 0, (-5), 0), (34, .ireturn, 1, 0, 0, 0, 0), (35, .aload_n 0, 1, 0, 0, 0, 0), (36, .getfield 30, 3, 3, 3, 0, 0), (39, .getfield 194, 3, 2, 0, 0, 0), (42, .aload_n 0, 1, 0, 0, 0, 0), (43, .getfield 30, 3, 3, 3, 0, 0), (46, .getfield 191, 3, 2, 1, 0, 0), (49, .iload_n 1, 1, 1, 0, 0, 0), (50, .iastore, 1, 0, 0, 0, 0), (51, .aload_n 0, 1, 0, 0, 0, 0), (52, .getfield 30, 3, 3, 3, 0, 0), (55, .dup, 1, 0, 0, 0, 0), (56, .getfield 191, 3, 2, 1, 0, 0), (59, .iconst 1, 1, 0, 0, 1, 0), (60, .iadd, 1, 0, 0, 0, 0), (61, .putfield 191, 3, 2, 1, 0, 0), (64, .aload_n 0, 1, 0, 0, 0, 0), (65, .getfield 30, 3, 3, 3, 0, 0), (68, .getfield 191, 3, 2, 1, 0, 0), (71, .ireturn, 1, 0, 0, 0, 0)]
theorem tkX3_type : tOk cX3_type "RumourSource" 2 tX3_type = true := by decide +kernel
theorem fX3_type_0 : fetch tX3_type 0 = some (.iload_n 1, 1, 1, 0, 0, 0) := rfl
theorem fX3_type_1 : fetch tX3_type 1 = some (.ifCond .lt 10, 3, 11, 0, 0, 0) := rfl
theorem fX3_type_4 : fetch tX3_type 4 = some (.iload_n 1, 1, 1, 0, 0, 0) := rfl
theorem fX3_type_5 : fetch tX3_type 5 = some (.sipush 255, 3, 0, 0, 255, 0) := rfl
theorem fX3_type_8 : fetch tX3_type 8 = some (.if_icmp .le 6, 3, 14, 0, 0, 0) := rfl
theorem fX3_type_11 : fetch tX3_type 11 = some (.bipush (-3), 2, 0, 0, (-3), 0) := rfl
theorem fX3_type_13 : fetch tX3_type 13 = some (.ireturn, 1, 0, 0, 0, 0) := rfl
theorem fX3_type_14 : fetch tX3_type 14 = some (.aload_n 0, 1, 0, 0, 0, 0) := rfl
theorem fX3_type_15 : fetch tX3_type 15 = some (.getfield 30, 3, 3, 3, 0, 0) := rfl
theorem fX3_type_18 : fetch tX3_type 18 = some (.getfield 191, 3, 2, 1, 0, 0) := rfl
theorem fX3_type_21 : fetch tX3_type 21 = some (.aload_n 0, 1, 0, 0, 0, 0) := rfl
theorem fX3_type_22 : fetch tX3_type 22 = some (.getfield 30, 3, 3, 3, 0, 0) := rfl
theorem fX3_type_25 : fetch tX3_type 25 = some (.getfield 194, 3, 2, 0, 0, 0) := rfl
theorem fX3_type_28 : fetch tX3_type 28 = some (.arraylength, 1, 0, 0, 0, 0) := rfl
theorem fX3_type_29 : fetch tX3_type 29 = some (.if_icmp .lt 6, 3, 35, 0, 0, 0) := rfl
theorem fX3_type_32 : fetch tX3_type 32 = some (.bipush (-5), 2, 0, 0, (-5), 0) := rfl
theorem fX3_type_34 : fetch tX3_type 34 = some (.ireturn, 1, 0, 0, 0, 0) := rfl
theorem fX3_type_35 : fetch tX3_type 35 = some (.aload_n 0, 1, 0, 0, 0, 0) := rfl
theorem fX3_type_36 : fetch tX3_type 36 = some (.getfield 30, 3, 3, 3, 0, 0) := rfl
theorem fX3_type_39 : fetch tX3_type 39 = some (.getfield 194, 3, 2, 0, 0, 0) := rfl
theorem fX3_type_42 : fetch tX3_type 42 = some (.aload_n 0, 1, 0, 0, 0, 0) := rfl
theorem fX3_type_43 : fetch tX3_type 43 = some (.getfield 30, 3, 3, 3, 0, 0) := rfl
theorem fX3_type_46 : fetch tX3_type 46 = some (.getfield 191, 3, 2, 1, 0, 0) := rfl
theorem fX3_type_49 : fetch tX3_type 49 = some (.iload_n 1, 1, 1, 0, 0, 0) := rfl
theorem fX3_type_50 : fetch tX3_type 50 = some (.iastore, 1, 0, 0, 0, 0) := rfl
theorem fX3_type_51 : fetch tX3_type 51 = some (.aload_n 0, 1, 0, 0, 0, 0) := rfl
theorem fX3_type_52 : fetch tX3_type 52 = some (.getfield 30, 3, 3, 3, 0, 0) := rfl
theorem fX3_type_55 : fetch tX3_type 55 = some (.dup, 1, 0, 0, 0, 0) := rfl
theorem fX3_type_56 : fetch tX3_type 56 = some (.getfield 191, 3, 2, 1, 0, 0) := rfl
theorem fX3_type_59 : fetch tX3_type 59 = some (.iconst 1, 1, 0, 0, 1, 0) := rfl
theorem fX3_type_60 : fetch tX3_type 60 = some (.iadd, 1, 0, 0, 0, 0) := rfl
theorem fX3_type_61 : fetch tX3_type 61 = some (.putfield 191, 3, 2, 1, 0, 0) := rfl
theorem fX3_type_64 : fetch tX3_type 64 = some (.aload_n 0, 1, 0, 0, 0, 0) := rfl
theorem fX3_type_65 : fetch tX3_type 65 = some (.getfield 30, 3, 3, 3, 0, 0) := rfl
theorem fX3_type_68 : fetch tX3_type 68 = some (.getfield 191, 3, 2, 1, 0, 0) := rfl
theorem fX3_type_71 : fetch tX3_type 71 = some (.ireturn, 1, 0, 0, 0, 0) := rfl
def tX3_clearText : List (Nat × TE) := [(0, .aload_n 0, 1, 0, 0, 0, 0), (1, .getfield 30, 3, 3, 3, 0, 0), (4, .getfield 191, 3, 2, 1, 0, 0), (7, .istore_n 1, 1, 1, 0, 0, 0), (8, .aload_n 0, 1, 0, 0, 0, 0), (9, .getfield 30, 3, 3, 3, 0, 0), (12, .iconst 0, 1, 0, 0, 0, 0), (13, .putfield 191, 3, 2, 1, 0, 0), (16, .iload_n 1, 1, 1, 0, 0, 0), (17, .ireturn, 1, 0, 0, 0, 0)]
theorem tkX3_clearText : tOk cX3_clearText "RumourSource" 2 tX3_clearText = true := by decide +kernel
theorem fX3_clearText_0 : fetch tX3_clearText 0 = some (.aload_n 0, 1, 0, 0, 0, 0) := rfl
theorem fX3_clearText_1 : fetch tX3_clearText 1 = some (.getfield 30, 3, 3, 3, 0, 0) := rfl
theorem fX3_clearText_4 : fetch tX3_clearText 4 = some (.getfield 191, 3, 2, 1, 0, 0) := rfl
theorem fX3_clearText_7 : fetch tX3_clearText 7 = some (.istore_n 1, 1, 1, 0, 0, 0) := rfl
theorem fX3_clearText_8 : fetch tX3_clearText 8 = some (.aload_n 0, 1, 0, 0, 0, 0) := rfl
theorem fX3_clearText_9 : fetch tX3_clearText 9 = some (.getfield 30, 3, 3, 3, 0, 0) := rfl
theorem fX3_clearText_12 : fetch tX3_clearText 12 = some (.iconst 0, 1, 0, 0, 0, 0) := rfl
theorem fX3_clearText_13 : fetch tX3_clearText 13 = some (.putfield 191, 3, 2, 1, 0, 0) := rfl
theorem fX3_clearText_16 : fetch tX3_clearText 16 = some (.iload_n 1, 1, 1, 0, 0, 0) := rfl
theorem fX3_clearText_17 : fetch tX3_clearText 17 = some (.ireturn, 1, 0, 0, 0, 0) := rfl
def tX3_textFault : List (Nat × TE) := [(0, .aload_n 0, 1, 0, 0, 0, 0), (1, .getfield 30, 3, 3, 3, 0, 0), (4, .aload_n 0, 1, 0, 0, 0, 0), (5, .getfield 12, 3, 3, 0, 0, 0), (8, .invokevirtual 197, 3, 0, 2, 0, 0), (11, .ireturn, 1, 0, 0, 0, 0)]
theorem tkX3_textFault : tOk cX3_textFault "RumourSource" 1 tX3_textFault = true := by decide +kernel
theorem fX3_textFault_0 : fetch tX3_textFault 0 = some (.aload_n 0, 1, 0, 0, 0, 0) := rfl
theorem fX3_textFault_1 : fetch tX3_textFault 1 = some (.getfield 30, 3, 3, 3, 0, 0) := rfl
theorem fX3_textFault_4 : fetch tX3_textFault 4 = some (.aload_n 0, 1, 0, 0, 0, 0) := rfl
theorem fX3_textFault_5 : fetch tX3_textFault 5 = some (.getfield 12, 3, 3, 0, 0, 0) := rfl
theorem fX3_textFault_8 : fetch tX3_textFault 8 = some (.invokevirtual 197, 3, 0, 2, 0, 0) := rfl
theorem fX3_textFault_11 : fetch tX3_textFault 11 = some (.ireturn, 1, 0, 0, 0, 0) := rfl
def tX3_load : List (Nat × TE) := [(0, .aload_n 0, 1, 0, 0, 0, 0), (1, .getfield 30, 3, 3, 3, 0, 0), (4, .aload_n 0, 1, 0, 0, 0, 0), (5, .getfield 12, 3, 3, 0, 0, 0), (8, .invokevirtual 197, 3, 0, 2, 0, 0), (11, .iconst (-1), 1, 0, 0, (-1), 0), (12, .if_icmp .eq 6, 3, 18, 0, 0, 0), (15, .bipush (-4), 2, 0, 0, (-4), 0), (17, .ireturn, 1, 0, 0, 0, 0), (18, .aload_n 0, 1, 0, 0, 0, 0), (19, .invokevirtual 60, 3, 1, 3, 0, 0), (22, .aload_n 0, 1, 0, 0, 0, 0), (23, .getfield 12, 3, 3, 0, 0, 0), (26, .aload_n 0, 1, 0, 0, 0, 0), (27, .getfield 30, 3, 3, 3, 0, 0), (30, .getfield 201, 3, 2, 2, 0, 0), (33, .invokevirtual 188, 3, 2, 0, 0, 0), (36, .aload_n 0, 1, 0, 0, 0, 0), (37, .getfield 12, 3, 3, 0, 0, 0), (40, .getfield 81, 3, 0, 4, 0, 0), (43, .ireturn, 1, 0, 0, 0, 0)]
theorem tkX3_load : tOk cX3_load "RumourSource" 1 tX3_load = true := by decide +kernel
theorem fX3_load_0 : fetch tX3_load 0 = some (.aload_n 0, 1, 0, 0, 0, 0) := rfl
theorem fX3_load_1 : fetch tX3_load 1 = some (.getfield 30, 3, 3, 3, 0, 0) := rfl
theorem fX3_load_4 : fetch tX3_load 4 = some (.aload_n 0, 1, 0, 0, 0, 0) := rfl
theorem fX3_load_5 : fetch tX3_load 5 = some (.getfield 12, 3, 3, 0, 0, 0) := rfl
theorem fX3_load_8 : fetch tX3_load 8 = some (.invokevirtual 197, 3, 0, 2, 0, 0) := rfl
theorem fX3_load_11 : fetch tX3_load 11 = some (.iconst (-1), 1, 0, 0, (-1), 0) := rfl
theorem fX3_load_12 : fetch tX3_load 12 = some (.if_icmp .eq 6, 3, 18, 0, 0, 0) := rfl
theorem fX3_load_15 : fetch tX3_load 15 = some (.bipush (-4), 2, 0, 0, (-4), 0) := rfl
theorem fX3_load_17 : fetch tX3_load 17 = some (.ireturn, 1, 0, 0, 0, 0) := rfl
theorem fX3_load_18 : fetch tX3_load 18 = some (.aload_n 0, 1, 0, 0, 0, 0) := rfl
theorem fX3_load_19 : fetch tX3_load 19 = some (.invokevirtual 60, 3, 1, 3, 0, 0) := rfl
theorem fX3_load_22 : fetch tX3_load 22 = some (.aload_n 0, 1, 0, 0, 0, 0) := rfl
theorem fX3_load_23 : fetch tX3_load 23 = some (.getfield 12, 3, 3, 0, 0, 0) := rfl
theorem fX3_load_26 : fetch tX3_load 26 = some (.aload_n 0, 1, 0, 0, 0, 0) := rfl
theorem fX3_load_27 : fetch tX3_load 27 = some (.getfield 30, 3, 3, 3, 0, 0) := rfl
theorem fX3_load_30 : fetch tX3_load 30 = some (.getfield 201, 3, 2, 2, 0, 0) := rfl
theorem fX3_load_33 : fetch tX3_load 33 = some (.invokevirtual 188, 3, 2, 0, 0, 0) := rfl
theorem fX3_load_36 : fetch tX3_load 36 = some (.aload_n 0, 1, 0, 0, 0, 0) := rfl
theorem fX3_load_37 : fetch tX3_load 37 = some (.getfield 12, 3, 3, 0, 0, 0) := rfl
theorem fX3_load_40 : fetch tX3_load 40 = some (.getfield 81, 3, 0, 4, 0, 0) := rfl
theorem fX3_load_43 : fetch tX3_load 43 = some (.ireturn, 1, 0, 0, 0, 0) := rfl
def tX3_digest : List (Nat × TE) := [(0, .ldc2_w 204, 3, 0, 0, 0, 527), (3, .aload_n 0, 1, 0, 0, 0, 0), (4, .getfield 12, 3, 3, 0, 0, 0), (7, .getfield 81, 3, 0, 4, 0, 0), (10, .i2l, 1, 0, 0, 0, 0), (11, .ladd, 1, 0, 0, 0, 0), (12, .lstore_n 1, 1, 1, 0, 0, 0), (13, .iconst 0, 1, 0, 0, 0, 0), (14, .istore_n 3, 1, 3, 0, 0, 0), (15, .iload_n 3, 1, 3, 0, 0, 0), (16, .aload_n 0, 1, 0, 0, 0, 0), (17, .getfield 12, 3, 3, 0, 0, 0), (20, .getfield 81, 3, 0, 4, 0, 0), (23, .if_icmp .ge 77, 3, 100, 0, 0, 0), (26, .ldc2_w 206, 3, 0, 0, 0, 31), (29, .lload_n 1, 1, 1, 0, 0, 0), (30, .lmul, 1, 0, 0, 0, 0), (31, .aload_n 0, 1, 0, 0, 0, 0), (32, .getfield 12, 3, 3, 0, 0, 0), (35, .getfield 84, 3, 0, 0, 0, 0), (38, .iload_n 3, 1, 3, 0, 0, 0), (39, .iaload, 1, 0, 0, 0, 0), (40, .i2l, 1, 0, 0, 0, 0), (41, .ladd, 1, 0, 0, 0, 0), (42, .lstore_n 1, 1, 1, 0, 0, 0), (43, .ldc2_w 206, 3, 0, 0, 0, 31), (46, .lload_n 1, 1, 1, 0, 0, 0), (47, .lmul, 1, 0, 0, 0, 0), (48, .aload_n 0, 1, 0, 0, 0, 0), (49, .getfield 12, 3, 3, 0, 0, 0), (52, .getfield 87, 3, 0, 1, 0, 0), (55, .iload_n 3, 1, 3, 0, 0, 0), (56, .iaload, 1, 0, 0, 0, 0), (57, .i2l, 1, 0, 0, 0, 0), (58, .ladd, 1, 0, 0, 0, 0), (59, .lstore_n 1, 1, 1, 0, 0, 0), (60, .ldc2_w 206, 3, 0, 0, 0, 31), (63, .lload_n 1, 1, 1, 0, 0, 0), (64, .lmul, 1, 0, 0, 0, 0), (65, .aload_n 0, 1, 0, 0, 0, 0), (66, .getfield 12, 3, 3, 0, 0, 0), (69, .getfield 70, 3, 0, 2, 0, 0), (72, .iload_n 3, 1, 3, 0, 0, 0), (73, .iaload, 1, 0, 0, 0, 0), (74, .i2l, 1, 0, 0, 0, 0), (75, .ladd, 1, 0, 0, 0, 0), (76, .lstore_n 1, 1, 1, 0, 0, 0), (77, .ldc2_w 206, 3, 0, 0, 0, 31), (80, .lload_n 1, 1, 1, 0, 0, 0), (81, .lmul, 1, 0, 0, 0, 0), (82, .aload_n 0, 1, 0, 0, 0, 0), (83, .getfield 12, 3, 3, 0, 0, 0), (86, .getfield 74, 3, 0, 3, 0, 0), (89, .iload_n 3, 1, 3, 0, 0, 0), (90, .iaload, 1, 0, 0, 0, 0), (91, .i2l, 1, 0, 0, 0, 0), (92, .ladd, 1, 0, 0, 0, 0), (93, .lstore_n 1, 1, 1, 0, 0, 0), (94, .iinc 3 1, 3, 3, 0, 1, 0), (97, .goto (-82), 3, 15, 0, 0, 0), (100, .ldc2_w 206, 3, 0, 0, 0, 31), (103, .lload_n 1, 1, 1, 0, 0, 0), (104, .lmul, 1, 0, 0, 0, 0), (105, .aload_n 0, 1, 0, 0, 0, 0), (106, .getfield 12, 3, 3, 0, 0, 0), (109, .getfield 93, 3, 0, 5, 0, 0), (112, .i2l, 1, 0, 0, 0, 0), (113, .ladd, 1, 0, 0, 0, 0), (114, .lstore_n 1, 1, 1, 0, 0, 0), (115, .iconst 0, 1, 0, 0, 0, 0), (116, .istore_n 3, 1, 3, 0, 0, 0), (117, .iload_n 3, 1, 3, 0, 0, 0), (118, .bipush 8, 2, 0, 0, 8, 0), (120, .if_icmp .ge 26, 3, 146, 0, 0, 0), (123, .ldc2_w 206, 3, 0, 0, 0, 31), (126, .lload_n 1, 1, 1, 0, 0, 0), (127, .lmul, 1, 0, 0, 0, 0), (128, .aload_n 0, 1, 0, 0, 0, 0), (129, .getfield 12, 3, 3, 0, 0, 0), (132, .getfield 102, 3, 0, 6, 0, 0), (135, .iload_n 3, 1, 3, 0, 0, 0), (136, .iaload, 1, 0, 0, 0, 0), (137, .i2l, 1, 0, 0, 0, 0), (138, .ladd, 1, 0, 0, 0, 0), (139, .lstore_n 1, 1, 1, 0, 0, 0), (140, .iinc 3 1, 3, 3, 0, 1, 0), (143, .goto (-26), 3, 117, 0, 0, 0), (146, .ldc2_w 206, 3, 0, 0, 0, 31), (149, .lload_n 1, 1, 1, 0, 0, 0), (150, .lmul, 1, 0, 0, 0, 0), (151, .aload_n 0, 1, 0, 0, 0, 0), (152, .getfield 12, 3, 3, 0, 0, 0), (155, .getfield 105, 3, 0, 7, 0, 0), (158, .i2l, 1, 0, 0, 0, 0), (159, .ladd, 1, 0, 0, 0, 0), (160, .lreturn, 1, 0, 0, 0, 0)]
theorem tkX3_digest : tOk cX3_digest "RumourSource" 4 tX3_digest = true := by decide +kernel
theorem fX3_digest_0 : fetch tX3_digest 0 = some (.ldc2_w 204, 3, 0, 0, 0, 527) := rfl
theorem fX3_digest_3 : fetch tX3_digest 3 = some (.aload_n 0, 1, 0, 0, 0, 0) := rfl
theorem fX3_digest_4 : fetch tX3_digest 4 = some (.getfield 12, 3, 3, 0, 0, 0) := rfl
theorem fX3_digest_7 : fetch tX3_digest 7 = some (.getfield 81, 3, 0, 4, 0, 0) := rfl
theorem fX3_digest_10 : fetch tX3_digest 10 = some (.i2l, 1, 0, 0, 0, 0) := rfl
theorem fX3_digest_11 : fetch tX3_digest 11 = some (.ladd, 1, 0, 0, 0, 0) := rfl
theorem fX3_digest_12 : fetch tX3_digest 12 = some (.lstore_n 1, 1, 1, 0, 0, 0) := rfl
theorem fX3_digest_13 : fetch tX3_digest 13 = some (.iconst 0, 1, 0, 0, 0, 0) := rfl
theorem fX3_digest_14 : fetch tX3_digest 14 = some (.istore_n 3, 1, 3, 0, 0, 0) := rfl
theorem fX3_digest_15 : fetch tX3_digest 15 = some (.iload_n 3, 1, 3, 0, 0, 0) := rfl
theorem fX3_digest_16 : fetch tX3_digest 16 = some (.aload_n 0, 1, 0, 0, 0, 0) := rfl
theorem fX3_digest_17 : fetch tX3_digest 17 = some (.getfield 12, 3, 3, 0, 0, 0) := rfl
theorem fX3_digest_20 : fetch tX3_digest 20 = some (.getfield 81, 3, 0, 4, 0, 0) := rfl
theorem fX3_digest_23 : fetch tX3_digest 23 = some (.if_icmp .ge 77, 3, 100, 0, 0, 0) := rfl
theorem fX3_digest_26 : fetch tX3_digest 26 = some (.ldc2_w 206, 3, 0, 0, 0, 31) := rfl
theorem fX3_digest_29 : fetch tX3_digest 29 = some (.lload_n 1, 1, 1, 0, 0, 0) := rfl
theorem fX3_digest_30 : fetch tX3_digest 30 = some (.lmul, 1, 0, 0, 0, 0) := rfl
theorem fX3_digest_31 : fetch tX3_digest 31 = some (.aload_n 0, 1, 0, 0, 0, 0) := rfl
theorem fX3_digest_32 : fetch tX3_digest 32 = some (.getfield 12, 3, 3, 0, 0, 0) := rfl
theorem fX3_digest_35 : fetch tX3_digest 35 = some (.getfield 84, 3, 0, 0, 0, 0) := rfl
theorem fX3_digest_38 : fetch tX3_digest 38 = some (.iload_n 3, 1, 3, 0, 0, 0) := rfl
theorem fX3_digest_39 : fetch tX3_digest 39 = some (.iaload, 1, 0, 0, 0, 0) := rfl
theorem fX3_digest_40 : fetch tX3_digest 40 = some (.i2l, 1, 0, 0, 0, 0) := rfl
theorem fX3_digest_41 : fetch tX3_digest 41 = some (.ladd, 1, 0, 0, 0, 0) := rfl
theorem fX3_digest_42 : fetch tX3_digest 42 = some (.lstore_n 1, 1, 1, 0, 0, 0) := rfl
theorem fX3_digest_43 : fetch tX3_digest 43 = some (.ldc2_w 206, 3, 0, 0, 0, 31) := rfl
theorem fX3_digest_46 : fetch tX3_digest 46 = some (.lload_n 1, 1, 1, 0, 0, 0) := rfl
theorem fX3_digest_47 : fetch tX3_digest 47 = some (.lmul, 1, 0, 0, 0, 0) := rfl
theorem fX3_digest_48 : fetch tX3_digest 48 = some (.aload_n 0, 1, 0, 0, 0, 0) := rfl
theorem fX3_digest_49 : fetch tX3_digest 49 = some (.getfield 12, 3, 3, 0, 0, 0) := rfl
theorem fX3_digest_52 : fetch tX3_digest 52 = some (.getfield 87, 3, 0, 1, 0, 0) := rfl
theorem fX3_digest_55 : fetch tX3_digest 55 = some (.iload_n 3, 1, 3, 0, 0, 0) := rfl
theorem fX3_digest_56 : fetch tX3_digest 56 = some (.iaload, 1, 0, 0, 0, 0) := rfl
theorem fX3_digest_57 : fetch tX3_digest 57 = some (.i2l, 1, 0, 0, 0, 0) := rfl
theorem fX3_digest_58 : fetch tX3_digest 58 = some (.ladd, 1, 0, 0, 0, 0) := rfl
theorem fX3_digest_59 : fetch tX3_digest 59 = some (.lstore_n 1, 1, 1, 0, 0, 0) := rfl
theorem fX3_digest_60 : fetch tX3_digest 60 = some (.ldc2_w 206, 3, 0, 0, 0, 31) := rfl
theorem fX3_digest_63 : fetch tX3_digest 63 = some (.lload_n 1, 1, 1, 0, 0, 0) := rfl
theorem fX3_digest_64 : fetch tX3_digest 64 = some (.lmul, 1, 0, 0, 0, 0) := rfl
theorem fX3_digest_65 : fetch tX3_digest 65 = some (.aload_n 0, 1, 0, 0, 0, 0) := rfl
theorem fX3_digest_66 : fetch tX3_digest 66 = some (.getfield 12, 3, 3, 0, 0, 0) := rfl
theorem fX3_digest_69 : fetch tX3_digest 69 = some (.getfield 70, 3, 0, 2, 0, 0) := rfl
theorem fX3_digest_72 : fetch tX3_digest 72 = some (.iload_n 3, 1, 3, 0, 0, 0) := rfl
theorem fX3_digest_73 : fetch tX3_digest 73 = some (.iaload, 1, 0, 0, 0, 0) := rfl
theorem fX3_digest_74 : fetch tX3_digest 74 = some (.i2l, 1, 0, 0, 0, 0) := rfl
theorem fX3_digest_75 : fetch tX3_digest 75 = some (.ladd, 1, 0, 0, 0, 0) := rfl
theorem fX3_digest_76 : fetch tX3_digest 76 = some (.lstore_n 1, 1, 1, 0, 0, 0) := rfl
theorem fX3_digest_77 : fetch tX3_digest 77 = some (.ldc2_w 206, 3, 0, 0, 0, 31) := rfl
theorem fX3_digest_80 : fetch tX3_digest 80 = some (.lload_n 1, 1, 1, 0, 0, 0) := rfl
theorem fX3_digest_81 : fetch tX3_digest 81 = some (.lmul, 1, 0, 0, 0, 0) := rfl
theorem fX3_digest_82 : fetch tX3_digest 82 = some (.aload_n 0, 1, 0, 0, 0, 0) := rfl
theorem fX3_digest_83 : fetch tX3_digest 83 = some (.getfield 12, 3, 3, 0, 0, 0) := rfl
theorem fX3_digest_86 : fetch tX3_digest 86 = some (.getfield 74, 3, 0, 3, 0, 0) := rfl
theorem fX3_digest_89 : fetch tX3_digest 89 = some (.iload_n 3, 1, 3, 0, 0, 0) := rfl
theorem fX3_digest_90 : fetch tX3_digest 90 = some (.iaload, 1, 0, 0, 0, 0) := rfl
theorem fX3_digest_91 : fetch tX3_digest 91 = some (.i2l, 1, 0, 0, 0, 0) := rfl
theorem fX3_digest_92 : fetch tX3_digest 92 = some (.ladd, 1, 0, 0, 0, 0) := rfl
theorem fX3_digest_93 : fetch tX3_digest 93 = some (.lstore_n 1, 1, 1, 0, 0, 0) := rfl
theorem fX3_digest_94 : fetch tX3_digest 94 = some (.iinc 3 1, 3, 3, 0, 1, 0) := rfl
theorem fX3_digest_97 : fetch tX3_digest 97 = some (.goto (-82), 3, 15, 0, 0, 0) := rfl
theorem fX3_digest_100 : fetch tX3_digest 100 = some (.ldc2_w 206, 3, 0, 0, 0, 31) := rfl
theorem fX3_digest_103 : fetch tX3_digest 103 = some (.lload_n 1, 1, 1, 0, 0, 0) := rfl
theorem fX3_digest_104 : fetch tX3_digest 104 = some (.lmul, 1, 0, 0, 0, 0) := rfl
theorem fX3_digest_105 : fetch tX3_digest 105 = some (.aload_n 0, 1, 0, 0, 0, 0) := rfl
theorem fX3_digest_106 : fetch tX3_digest 106 = some (.getfield 12, 3, 3, 0, 0, 0) := rfl
theorem fX3_digest_109 : fetch tX3_digest 109 = some (.getfield 93, 3, 0, 5, 0, 0) := rfl
theorem fX3_digest_112 : fetch tX3_digest 112 = some (.i2l, 1, 0, 0, 0, 0) := rfl
theorem fX3_digest_113 : fetch tX3_digest 113 = some (.ladd, 1, 0, 0, 0, 0) := rfl
theorem fX3_digest_114 : fetch tX3_digest 114 = some (.lstore_n 1, 1, 1, 0, 0, 0) := rfl
theorem fX3_digest_115 : fetch tX3_digest 115 = some (.iconst 0, 1, 0, 0, 0, 0) := rfl
theorem fX3_digest_116 : fetch tX3_digest 116 = some (.istore_n 3, 1, 3, 0, 0, 0) := rfl
theorem fX3_digest_117 : fetch tX3_digest 117 = some (.iload_n 3, 1, 3, 0, 0, 0) := rfl
theorem fX3_digest_118 : fetch tX3_digest 118 = some (.bipush 8, 2, 0, 0, 8, 0) := rfl
theorem fX3_digest_120 : fetch tX3_digest 120 = some (.if_icmp .ge 26, 3, 146, 0, 0, 0) := rfl
theorem fX3_digest_123 : fetch tX3_digest 123 = some (.ldc2_w 206, 3, 0, 0, 0, 31) := rfl
theorem fX3_digest_126 : fetch tX3_digest 126 = some (.lload_n 1, 1, 1, 0, 0, 0) := rfl
theorem fX3_digest_127 : fetch tX3_digest 127 = some (.lmul, 1, 0, 0, 0, 0) := rfl
theorem fX3_digest_128 : fetch tX3_digest 128 = some (.aload_n 0, 1, 0, 0, 0, 0) := rfl
theorem fX3_digest_129 : fetch tX3_digest 129 = some (.getfield 12, 3, 3, 0, 0, 0) := rfl
theorem fX3_digest_132 : fetch tX3_digest 132 = some (.getfield 102, 3, 0, 6, 0, 0) := rfl
theorem fX3_digest_135 : fetch tX3_digest 135 = some (.iload_n 3, 1, 3, 0, 0, 0) := rfl
theorem fX3_digest_136 : fetch tX3_digest 136 = some (.iaload, 1, 0, 0, 0, 0) := rfl
theorem fX3_digest_137 : fetch tX3_digest 137 = some (.i2l, 1, 0, 0, 0, 0) := rfl
theorem fX3_digest_138 : fetch tX3_digest 138 = some (.ladd, 1, 0, 0, 0, 0) := rfl
theorem fX3_digest_139 : fetch tX3_digest 139 = some (.lstore_n 1, 1, 1, 0, 0, 0) := rfl
theorem fX3_digest_140 : fetch tX3_digest 140 = some (.iinc 3 1, 3, 3, 0, 1, 0) := rfl
theorem fX3_digest_143 : fetch tX3_digest 143 = some (.goto (-26), 3, 117, 0, 0, 0) := rfl
theorem fX3_digest_146 : fetch tX3_digest 146 = some (.ldc2_w 206, 3, 0, 0, 0, 31) := rfl
theorem fX3_digest_149 : fetch tX3_digest 149 = some (.lload_n 1, 1, 1, 0, 0, 0) := rfl
theorem fX3_digest_150 : fetch tX3_digest 150 = some (.lmul, 1, 0, 0, 0, 0) := rfl
theorem fX3_digest_151 : fetch tX3_digest 151 = some (.aload_n 0, 1, 0, 0, 0, 0) := rfl
theorem fX3_digest_152 : fetch tX3_digest 152 = some (.getfield 12, 3, 3, 0, 0, 0) := rfl
theorem fX3_digest_155 : fetch tX3_digest 155 = some (.getfield 105, 3, 0, 7, 0, 0) := rfl
theorem fX3_digest_158 : fetch tX3_digest 158 = some (.i2l, 1, 0, 0, 0, 0) := rfl
theorem fX3_digest_159 : fetch tX3_digest 159 = some (.ladd, 1, 0, 0, 0, 0) := rfl
theorem fX3_digest_160 : fetch tX3_digest 160 = some (.lreturn, 1, 0, 0, 0, 0) := rfl
def tX3_isNode : List (Nat × TE) := [(0, .iload_n 0, 1, 0, 0, 0, 0), (1, .ifCond .lt 13, 3, 14, 0, 0, 0), (4, .iload_n 0, 1, 0, 0, 0, 0), (5, .bipush 8, 2, 0, 0, 8, 0), (7, .if_icmp .ge 7, 3, 14, 0, 0, 0), (10, .iconst 1, 1, 0, 0, 1, 0), (11, .goto 4, 3, 15, 0, 0, 0), (14, .iconst 0, 1, 0, 0, 0, 0), (15, .ireturn, 1, 0, 0, 0, 0)]
theorem tkX3_isNode : tOk cX3_isNode "RumourSource" 1 tX3_isNode = true := by decide +kernel
theorem fX3_isNode_0 : fetch tX3_isNode 0 = some (.iload_n 0, 1, 0, 0, 0, 0) := rfl
theorem fX3_isNode_1 : fetch tX3_isNode 1 = some (.ifCond .lt 13, 3, 14, 0, 0, 0) := rfl
theorem fX3_isNode_4 : fetch tX3_isNode 4 = some (.iload_n 0, 1, 0, 0, 0, 0) := rfl
theorem fX3_isNode_5 : fetch tX3_isNode 5 = some (.bipush 8, 2, 0, 0, 8, 0) := rfl
theorem fX3_isNode_7 : fetch tX3_isNode 7 = some (.if_icmp .ge 7, 3, 14, 0, 0, 0) := rfl
theorem fX3_isNode_10 : fetch tX3_isNode 10 = some (.iconst 1, 1, 0, 0, 1, 0) := rfl
theorem fX3_isNode_11 : fetch tX3_isNode 11 = some (.goto 4, 3, 15, 0, 0, 0) := rfl
theorem fX3_isNode_14 : fetch tX3_isNode 14 = some (.iconst 0, 1, 0, 0, 0, 0) := rfl
theorem fX3_isNode_15 : fetch tX3_isNode 15 = some (.ireturn, 1, 0, 0, 0, 0) := rfl
def tX3_isTrust : List (Nat × TE) := [(0, .iload_n 0, 1, 0, 0, 0, 0), (1, .ifCond .lt 13, 3, 14, 0, 0, 0), (4, .iload_n 0, 1, 0, 0, 0, 0), (5, .bipush 10, 2, 0, 0, 10, 0), (7, .if_icmp .gt 7, 3, 14, 0, 0, 0), (10, .iconst 1, 1, 0, 0, 1, 0), (11, .goto 4, 3, 15, 0, 0, 0), (14, .iconst 0, 1, 0, 0, 0, 0), (15, .ireturn, 1, 0, 0, 0, 0)]
theorem tkX3_isTrust : tOk cX3_isTrust "RumourSource" 1 tX3_isTrust = true := by decide +kernel
theorem fX3_isTrust_0 : fetch tX3_isTrust 0 = some (.iload_n 0, 1, 0, 0, 0, 0) := rfl
theorem fX3_isTrust_1 : fetch tX3_isTrust 1 = some (.ifCond .lt 13, 3, 14, 0, 0, 0) := rfl
theorem fX3_isTrust_4 : fetch tX3_isTrust 4 = some (.iload_n 0, 1, 0, 0, 0, 0) := rfl
theorem fX3_isTrust_5 : fetch tX3_isTrust 5 = some (.bipush 10, 2, 0, 0, 10, 0) := rfl
theorem fX3_isTrust_7 : fetch tX3_isTrust 7 = some (.if_icmp .gt 7, 3, 14, 0, 0, 0) := rfl
theorem fX3_isTrust_10 : fetch tX3_isTrust 10 = some (.iconst 1, 1, 0, 0, 1, 0) := rfl
theorem fX3_isTrust_11 : fetch tX3_isTrust 11 = some (.goto 4, 3, 15, 0, 0, 0) := rfl
theorem fX3_isTrust_14 : fetch tX3_isTrust 14 = some (.iconst 0, 1, 0, 0, 0, 0) := rfl
theorem fX3_isTrust_15 : fetch tX3_isTrust 15 = some (.ireturn, 1, 0, 0, 0, 0) := rfl
def tX3_isDelay : List (Nat × TE) := [(0, .iload_n 0, 1, 0, 0, 0, 0), (1, .iconst 1, 1, 0, 0, 1, 0), (2, .if_icmp .lt 12, 3, 14, 0, 0, 0), (5, .iload_n 0, 1, 0, 0, 0, 0), (6, .iconst 5, 1, 0, 0, 5, 0), (7, .if_icmp .gt 7, 3, 14, 0, 0, 0), (10, .iconst 1, 1, 0, 0, 1, 0), (11, .goto 4, 3, 15, 0, 0, 0), (14, .iconst 0, 1, 0, 0, 0, 0), (15, .ireturn, 1, 0, 0, 0, 0)]
theorem tkX3_isDelay : tOk cX3_isDelay "RumourSource" 1 tX3_isDelay = true := by decide +kernel
theorem fX3_isDelay_0 : fetch tX3_isDelay 0 = some (.iload_n 0, 1, 0, 0, 0, 0) := rfl
theorem fX3_isDelay_1 : fetch tX3_isDelay 1 = some (.iconst 1, 1, 0, 0, 1, 0) := rfl
theorem fX3_isDelay_2 : fetch tX3_isDelay 2 = some (.if_icmp .lt 12, 3, 14, 0, 0, 0) := rfl
theorem fX3_isDelay_5 : fetch tX3_isDelay 5 = some (.iload_n 0, 1, 0, 0, 0, 0) := rfl
theorem fX3_isDelay_6 : fetch tX3_isDelay 6 = some (.iconst 5, 1, 0, 0, 5, 0) := rfl
theorem fX3_isDelay_7 : fetch tX3_isDelay 7 = some (.if_icmp .gt 7, 3, 14, 0, 0, 0) := rfl
theorem fX3_isDelay_10 : fetch tX3_isDelay 10 = some (.iconst 1, 1, 0, 0, 1, 0) := rfl
theorem fX3_isDelay_11 : fetch tX3_isDelay 11 = some (.goto 4, 3, 15, 0, 0, 0) := rfl
theorem fX3_isDelay_14 : fetch tX3_isDelay 14 = some (.iconst 0, 1, 0, 0, 0, 0) := rfl
theorem fX3_isDelay_15 : fetch tX3_isDelay 15 = some (.ireturn, 1, 0, 0, 0, 0) := rfl
def tX3_isTime : List (Nat × TE) := [(0, .iload_n 0, 1, 0, 0, 0, 0), (1, .ifCond .lt 13, 3, 14, 0, 0, 0), (4, .iload_n 0, 1, 0, 0, 0, 0), (5, .bipush 30, 2, 0, 0, 30, 0), (7, .if_icmp .gt 7, 3, 14, 0, 0, 0), (10, .iconst 1, 1, 0, 0, 1, 0), (11, .goto 4, 3, 15, 0, 0, 0), (14, .iconst 0, 1, 0, 0, 0, 0), (15, .ireturn, 1, 0, 0, 0, 0)]
theorem tkX3_isTime : tOk cX3_isTime "RumourSource" 1 tX3_isTime = true := by decide +kernel
theorem fX3_isTime_0 : fetch tX3_isTime 0 = some (.iload_n 0, 1, 0, 0, 0, 0) := rfl
theorem fX3_isTime_1 : fetch tX3_isTime 1 = some (.ifCond .lt 13, 3, 14, 0, 0, 0) := rfl
theorem fX3_isTime_4 : fetch tX3_isTime 4 = some (.iload_n 0, 1, 0, 0, 0, 0) := rfl
theorem fX3_isTime_5 : fetch tX3_isTime 5 = some (.bipush 30, 2, 0, 0, 30, 0) := rfl
theorem fX3_isTime_7 : fetch tX3_isTime 7 = some (.if_icmp .gt 7, 3, 14, 0, 0, 0) := rfl
theorem fX3_isTime_10 : fetch tX3_isTime 10 = some (.iconst 1, 1, 0, 0, 1, 0) := rfl
theorem fX3_isTime_11 : fetch tX3_isTime 11 = some (.goto 4, 3, 15, 0, 0, 0) := rfl
theorem fX3_isTime_14 : fetch tX3_isTime 14 = some (.iconst 0, 1, 0, 0, 0, 0) := rfl
theorem fX3_isTime_15 : fetch tX3_isTime 15 = some (.ireturn, 1, 0, 0, 0, 0) := rfl
def tX3_isTimeOrNone : List (Nat × TE) := [(0, .iload_n 0, 1, 0, 0, 0, 0), (1, .iconst (-1), 1, 0, 0, (-1), 0), (2, .if_icmp .eq 10, 3, 12, 0, 0, 0), (5, .iload_n 0, 1, 0, 0, 0, 0), (6, .invokestatic 90, 3, 0, 3, 0, 0), (9, .ifCond .eq 7, 3, 16, 0, 0, 0), (12, .iconst 1, 1, 0, 0, 1, 0), (13, .goto 4, 3, 17, 0, 0, 0), (16, .iconst 0, 1, 0, 0, 0, 0), (17, .ireturn, 1, 0, 0, 0, 0)]
theorem tkX3_isTimeOrNone : tOk cX3_isTimeOrNone "RumourSource" 1 tX3_isTimeOrNone = true := by decide +kernel
theorem fX3_isTimeOrNone_0 : fetch tX3_isTimeOrNone 0 = some (.iload_n 0, 1, 0, 0, 0, 0) := rfl
theorem fX3_isTimeOrNone_1 : fetch tX3_isTimeOrNone 1 = some (.iconst (-1), 1, 0, 0, (-1), 0) := rfl
theorem fX3_isTimeOrNone_2 : fetch tX3_isTimeOrNone 2 = some (.if_icmp .eq 10, 3, 12, 0, 0, 0) := rfl
theorem fX3_isTimeOrNone_5 : fetch tX3_isTimeOrNone 5 = some (.iload_n 0, 1, 0, 0, 0, 0) := rfl
theorem fX3_isTimeOrNone_6 : fetch tX3_isTimeOrNone 6 = some (.invokestatic 90, 3, 0, 3, 0, 0) := rfl
theorem fX3_isTimeOrNone_9 : fetch tX3_isTimeOrNone 9 = some (.ifCond .eq 7, 3, 16, 0, 0, 0) := rfl
theorem fX3_isTimeOrNone_12 : fetch tX3_isTimeOrNone 12 = some (.iconst 1, 1, 0, 0, 1, 0) := rfl
theorem fX3_isTimeOrNone_13 : fetch tX3_isTimeOrNone 13 = some (.goto 4, 3, 17, 0, 0, 0) := rfl
theorem fX3_isTimeOrNone_16 : fetch tX3_isTimeOrNone 16 = some (.iconst 0, 1, 0, 0, 0, 0) := rfl
theorem fX3_isTimeOrNone_17 : fetch tX3_isTimeOrNone 17 = some (.ireturn, 1, 0, 0, 0, 0) := rfl
def tX3_isStart : List (Nat × TE) := [(0, .iload_n 0, 1, 0, 0, 0, 0), (1, .iconst 1, 1, 0, 0, 1, 0), (2, .if_icmp .lt 14, 3, 16, 0, 0, 0), (5, .iload_n 0, 1, 0, 0, 0, 0), (6, .sipush 255, 3, 0, 0, 255, 0), (9, .if_icmp .gt 7, 3, 16, 0, 0, 0), (12, .iconst 1, 1, 0, 0, 1, 0), (13, .goto 4, 3, 17, 0, 0, 0), (16, .iconst 0, 1, 0, 0, 0, 0), (17, .ireturn, 1, 0, 0, 0, 0)]
theorem tkX3_isStart : tOk cX3_isStart "RumourSource" 1 tX3_isStart = true := by decide +kernel
theorem fX3_isStart_0 : fetch tX3_isStart 0 = some (.iload_n 0, 1, 0, 0, 0, 0) := rfl
theorem fX3_isStart_1 : fetch tX3_isStart 1 = some (.iconst 1, 1, 0, 0, 1, 0) := rfl
theorem fX3_isStart_2 : fetch tX3_isStart 2 = some (.if_icmp .lt 14, 3, 16, 0, 0, 0) := rfl
theorem fX3_isStart_5 : fetch tX3_isStart 5 = some (.iload_n 0, 1, 0, 0, 0, 0) := rfl
theorem fX3_isStart_6 : fetch tX3_isStart 6 = some (.sipush 255, 3, 0, 0, 255, 0) := rfl
theorem fX3_isStart_9 : fetch tX3_isStart 9 = some (.if_icmp .gt 7, 3, 16, 0, 0, 0) := rfl
theorem fX3_isStart_12 : fetch tX3_isStart 12 = some (.iconst 1, 1, 0, 0, 1, 0) := rfl
theorem fX3_isStart_13 : fetch tX3_isStart 13 = some (.goto 4, 3, 17, 0, 0, 0) := rfl
theorem fX3_isStart_16 : fetch tX3_isStart 16 = some (.iconst 0, 1, 0, 0, 0, 0) := rfl
theorem fX3_isStart_17 : fetch tX3_isStart 17 = some (.ireturn, 1, 0, 0, 0, 0) := rfl
def tX3_isOutcome : List (Nat × TE) := [(0, .iload_n 1, 1, 1, 0, 0, 0), (1, .ifCond .lt 20, 3, 21, 0, 0, 0), (4, .iload_n 1, 1, 1, 0, 0, 0), (5, .iconst 1, 1, 0, 0, 1, 0), (6, .aload_n 0, 1, 0, 0, 0, 0), (7, .getfield 12, 3, 3, 0, 0, 0), (10, .getfield 81, 3, 0, 4, 0, 0), (13, .ishl, 1, 0, 0, 0, 0), (14, .if_icmp .ge 7, 3, 21, 0, 0, 0), (17, .iconst 1, 1, 0, 0, 1, 0), (18, .goto 4, 3, 22, 0, 0, 0), (21, .iconst 0, 1, 0, 0, 0, 0), (22, .ireturn, 1, 0, 0, 0, 0)]
theorem tkX3_isOutcome : tOk cX3_isOutcome "RumourSource" 2 tX3_isOutcome = true := by decide +kernel
theorem fX3_isOutcome_0 : fetch tX3_isOutcome 0 = some (.iload_n 1, 1, 1, 0, 0, 0) := rfl
theorem fX3_isOutcome_1 : fetch tX3_isOutcome 1 = some (.ifCond .lt 20, 3, 21, 0, 0, 0) := rfl
theorem fX3_isOutcome_4 : fetch tX3_isOutcome 4 = some (.iload_n 1, 1, 1, 0, 0, 0) := rfl
theorem fX3_isOutcome_5 : fetch tX3_isOutcome 5 = some (.iconst 1, 1, 0, 0, 1, 0) := rfl
theorem fX3_isOutcome_6 : fetch tX3_isOutcome 6 = some (.aload_n 0, 1, 0, 0, 0, 0) := rfl
theorem fX3_isOutcome_7 : fetch tX3_isOutcome 7 = some (.getfield 12, 3, 3, 0, 0, 0) := rfl
theorem fX3_isOutcome_10 : fetch tX3_isOutcome 10 = some (.getfield 81, 3, 0, 4, 0, 0) := rfl
theorem fX3_isOutcome_13 : fetch tX3_isOutcome 13 = some (.ishl, 1, 0, 0, 0, 0) := rfl
theorem fX3_isOutcome_14 : fetch tX3_isOutcome 14 = some (.if_icmp .ge 7, 3, 21, 0, 0, 0) := rfl
theorem fX3_isOutcome_17 : fetch tX3_isOutcome 17 = some (.iconst 1, 1, 0, 0, 1, 0) := rfl
theorem fX3_isOutcome_18 : fetch tX3_isOutcome 18 = some (.goto 4, 3, 22, 0, 0, 0) := rfl
theorem fX3_isOutcome_21 : fetch tX3_isOutcome 21 = some (.iconst 0, 1, 0, 0, 0, 0) := rfl
theorem fX3_isOutcome_22 : fetch tX3_isOutcome 22 = some (.ireturn, 1, 0, 0, 0, 0) := rfl
def tX3_timeOrNone : List (Nat × TE) := [(0, .iload_n 0, 1, 0, 0, 0, 0), (1, .bipush 31, 2, 0, 0, 31, 0), (3, .if_icmp .ne 7, 3, 10, 0, 0, 0), (6, .iconst (-1), 1, 0, 0, (-1), 0), (7, .goto 4, 3, 11, 0, 0, 0), (10, .iload_n 0, 1, 0, 0, 0, 0), (11, .ireturn, 1, 0, 0, 0, 0)]
theorem tkX3_timeOrNone : tOk cX3_timeOrNone "RumourSource" 1 tX3_timeOrNone = true := by decide +kernel
theorem fX3_timeOrNone_0 : fetch tX3_timeOrNone 0 = some (.iload_n 0, 1, 0, 0, 0, 0) := rfl
theorem fX3_timeOrNone_1 : fetch tX3_timeOrNone 1 = some (.bipush 31, 2, 0, 0, 31, 0) := rfl
theorem fX3_timeOrNone_3 : fetch tX3_timeOrNone 3 = some (.if_icmp .ne 7, 3, 10, 0, 0, 0) := rfl
theorem fX3_timeOrNone_6 : fetch tX3_timeOrNone 6 = some (.iconst (-1), 1, 0, 0, (-1), 0) := rfl
theorem fX3_timeOrNone_7 : fetch tX3_timeOrNone 7 = some (.goto 4, 3, 11, 0, 0, 0) := rfl
theorem fX3_timeOrNone_10 : fetch tX3_timeOrNone 10 = some (.iload_n 0, 1, 0, 0, 0, 0) := rfl
theorem fX3_timeOrNone_11 : fetch tX3_timeOrNone 11 = some (.ireturn, 1, 0, 0, 0, 0) := rfl
def tX3_remember : List (Nat × TE) := [(0, .aload_n 0, 1, 0, 0, 0, 0), (1, .getfield 38, 3, 3, 5, 0, 0), (4, .aload_n 0, 1, 0, 0, 0, 0), (5, .getfield 16, 3, 3, 1, 0, 0), (8, .arraylength, 1, 0, 0, 0, 0), (9, .if_icmp .lt 65, 3, 74, 0, 0, 0), (12, .aload_n 0, 1, 0, 0, 0, 0), (13, .getfield 16, 3, 3, 1, 0, 0), (16, .iconst 0, 1, 0, 0, 0, 0), (17, .aaload, 1, 0, 0, 0, 0), (18, .astore_n 1, 1, 1, 0, 0, 0), (19, .iconst 1, 1, 0, 0, 1, 0), (20, .istore_n 2, 1, 2, 0, 0, 0), (21, .iload_n 2, 1, 2, 0, 0, 0), (22, .aload_n 0, 1, 0, 0, 0, 0), (23, .getfield 16, 3, 3, 1, 0, 0), (26, .arraylength, 1, 0, 0, 0, 0), (27, .if_icmp .ge 23, 3, 50, 0, 0, 0), (30, .aload_n 0, 1, 0, 0, 0, 0), (31, .getfield 16, 3, 3, 1, 0, 0), (34, .iload_n 2, 1, 2, 0, 0, 0), (35, .iconst 1, 1, 0, 0, 1, 0), (36, .isub, 1, 0, 0, 0, 0), (37, .aload_n 0, 1, 0, 0, 0, 0), (38, .getfield 16, 3, 3, 1, 0, 0), (41, .iload_n 2, 1, 2, 0, 0, 0), (42, .aaload, 1, 0, 0, 0, 0), (43, .aastore, 1, 0, 0, 0, 0), (44, .iinc 2 1, 3, 2, 0, 1, 0), (47, .goto (-26), 3, 21, 0, 0, 0), (50, .aload_n 0, 1, 0, 0, 0, 0), (51, .getfield 16, 3, 3, 1, 0, 0), (54, .aload_n 0, 1, 0, 0, 0, 0), (55, .getfield 16, 3, 3, 1, 0, 0), (58, .arraylength, 1, 0, 0, 0, 0), (59, .iconst 1, 1, 0, 0, 1, 0), (60, .isub, 1, 0, 0, 0, 0), (61, .aload_n 1, 1, 1, 0, 0, 0), (62, .aastore, 1, 0, 0, 0, 0), (63, .aload_n 0, 1, 0, 0, 0, 0), (64, .aload_n 0, 1, 0, 0, 0, 0), (65, .getfield 16, 3, 3, 1, 0, 0), (68, .arraylength, 1, 0, 0, 0, 0), (69, .iconst 1, 1, 0, 0, 1, 0), (70, .isub, 1, 0, 0, 0, 0), (71, .putfield 38, 3, 3, 5, 0, 0), (74, .aload_n 0, 1, 0, 0, 0, 0), (75, .getfield 16, 3, 3, 1, 0, 0), (78, .aload_n 0, 1, 0, 0, 0, 0), (79, .getfield 38, 3, 3, 5, 0, 0), (82, .aaload, 1, 0, 0, 0, 0), (83, .aload_n 0, 1, 0, 0, 0, 0), (84, .getfield 12, 3, 3, 0, 0, 0), (87, .invokevirtual 188, 3, 0, 0, 0, 0), (90, .aload_n 0, 1, 0, 0, 0, 0), (91, .dup, 1, 0, 0, 0, 0), (92, .getfield 38, 3, 3, 5, 0, 0), (95, .iconst 1, 1, 0, 0, 1, 0), (96, .iadd, 1, 0, 0, 0, 0), (97, .putfield 38, 3, 3, 5, 0, 0), (100, .return_, 1, 0, 0, 0, 0)]
theorem tkX3_remember : tOk cX3_remember "RumourSource" 3 tX3_remember = true := by decide +kernel
theorem fX3_remember_0 : fetch tX3_remember 0 = some (.aload_n 0, 1, 0, 0, 0, 0) := rfl
theorem fX3_remember_1 : fetch tX3_remember 1 = some (.getfield 38, 3, 3, 5, 0, 0) := rfl
theorem fX3_remember_4 : fetch tX3_remember 4 = some (.aload_n 0, 1, 0, 0, 0, 0) := rfl
theorem fX3_remember_5 : fetch tX3_remember 5 = some (.getfield 16, 3, 3, 1, 0, 0) := rfl
theorem fX3_remember_8 : fetch tX3_remember 8 = some (.arraylength, 1, 0, 0, 0, 0) := rfl
theorem fX3_remember_9 : fetch tX3_remember 9 = some (.if_icmp .lt 65, 3, 74, 0, 0, 0) := rfl
theorem fX3_remember_12 : fetch tX3_remember 12 = some (.aload_n 0, 1, 0, 0, 0, 0) := rfl
theorem fX3_remember_13 : fetch tX3_remember 13 = some (.getfield 16, 3, 3, 1, 0, 0) := rfl
theorem fX3_remember_16 : fetch tX3_remember 16 = some (.iconst 0, 1, 0, 0, 0, 0) := rfl
theorem fX3_remember_17 : fetch tX3_remember 17 = some (.aaload, 1, 0, 0, 0, 0) := rfl
theorem fX3_remember_18 : fetch tX3_remember 18 = some (.astore_n 1, 1, 1, 0, 0, 0) := rfl
theorem fX3_remember_19 : fetch tX3_remember 19 = some (.iconst 1, 1, 0, 0, 1, 0) := rfl
theorem fX3_remember_20 : fetch tX3_remember 20 = some (.istore_n 2, 1, 2, 0, 0, 0) := rfl
theorem fX3_remember_21 : fetch tX3_remember 21 = some (.iload_n 2, 1, 2, 0, 0, 0) := rfl
theorem fX3_remember_22 : fetch tX3_remember 22 = some (.aload_n 0, 1, 0, 0, 0, 0) := rfl
theorem fX3_remember_23 : fetch tX3_remember 23 = some (.getfield 16, 3, 3, 1, 0, 0) := rfl
theorem fX3_remember_26 : fetch tX3_remember 26 = some (.arraylength, 1, 0, 0, 0, 0) := rfl
theorem fX3_remember_27 : fetch tX3_remember 27 = some (.if_icmp .ge 23, 3, 50, 0, 0, 0) := rfl
theorem fX3_remember_30 : fetch tX3_remember 30 = some (.aload_n 0, 1, 0, 0, 0, 0) := rfl
theorem fX3_remember_31 : fetch tX3_remember 31 = some (.getfield 16, 3, 3, 1, 0, 0) := rfl
theorem fX3_remember_34 : fetch tX3_remember 34 = some (.iload_n 2, 1, 2, 0, 0, 0) := rfl
theorem fX3_remember_35 : fetch tX3_remember 35 = some (.iconst 1, 1, 0, 0, 1, 0) := rfl
theorem fX3_remember_36 : fetch tX3_remember 36 = some (.isub, 1, 0, 0, 0, 0) := rfl
theorem fX3_remember_37 : fetch tX3_remember 37 = some (.aload_n 0, 1, 0, 0, 0, 0) := rfl
theorem fX3_remember_38 : fetch tX3_remember 38 = some (.getfield 16, 3, 3, 1, 0, 0) := rfl
theorem fX3_remember_41 : fetch tX3_remember 41 = some (.iload_n 2, 1, 2, 0, 0, 0) := rfl
theorem fX3_remember_42 : fetch tX3_remember 42 = some (.aaload, 1, 0, 0, 0, 0) := rfl
theorem fX3_remember_43 : fetch tX3_remember 43 = some (.aastore, 1, 0, 0, 0, 0) := rfl
theorem fX3_remember_44 : fetch tX3_remember 44 = some (.iinc 2 1, 3, 2, 0, 1, 0) := rfl
theorem fX3_remember_47 : fetch tX3_remember 47 = some (.goto (-26), 3, 21, 0, 0, 0) := rfl
theorem fX3_remember_50 : fetch tX3_remember 50 = some (.aload_n 0, 1, 0, 0, 0, 0) := rfl
theorem fX3_remember_51 : fetch tX3_remember 51 = some (.getfield 16, 3, 3, 1, 0, 0) := rfl
theorem fX3_remember_54 : fetch tX3_remember 54 = some (.aload_n 0, 1, 0, 0, 0, 0) := rfl
theorem fX3_remember_55 : fetch tX3_remember 55 = some (.getfield 16, 3, 3, 1, 0, 0) := rfl
theorem fX3_remember_58 : fetch tX3_remember 58 = some (.arraylength, 1, 0, 0, 0, 0) := rfl
theorem fX3_remember_59 : fetch tX3_remember 59 = some (.iconst 1, 1, 0, 0, 1, 0) := rfl
theorem fX3_remember_60 : fetch tX3_remember 60 = some (.isub, 1, 0, 0, 0, 0) := rfl
theorem fX3_remember_61 : fetch tX3_remember 61 = some (.aload_n 1, 1, 1, 0, 0, 0) := rfl
theorem fX3_remember_62 : fetch tX3_remember 62 = some (.aastore, 1, 0, 0, 0, 0) := rfl
theorem fX3_remember_63 : fetch tX3_remember 63 = some (.aload_n 0, 1, 0, 0, 0, 0) := rfl
theorem fX3_remember_64 : fetch tX3_remember 64 = some (.aload_n 0, 1, 0, 0, 0, 0) := rfl
theorem fX3_remember_65 : fetch tX3_remember 65 = some (.getfield 16, 3, 3, 1, 0, 0) := rfl
theorem fX3_remember_68 : fetch tX3_remember 68 = some (.arraylength, 1, 0, 0, 0, 0) := rfl
theorem fX3_remember_69 : fetch tX3_remember 69 = some (.iconst 1, 1, 0, 0, 1, 0) := rfl
theorem fX3_remember_70 : fetch tX3_remember 70 = some (.isub, 1, 0, 0, 0, 0) := rfl
theorem fX3_remember_71 : fetch tX3_remember 71 = some (.putfield 38, 3, 3, 5, 0, 0) := rfl
theorem fX3_remember_74 : fetch tX3_remember 74 = some (.aload_n 0, 1, 0, 0, 0, 0) := rfl
theorem fX3_remember_75 : fetch tX3_remember 75 = some (.getfield 16, 3, 3, 1, 0, 0) := rfl
theorem fX3_remember_78 : fetch tX3_remember 78 = some (.aload_n 0, 1, 0, 0, 0, 0) := rfl
theorem fX3_remember_79 : fetch tX3_remember 79 = some (.getfield 38, 3, 3, 5, 0, 0) := rfl
theorem fX3_remember_82 : fetch tX3_remember 82 = some (.aaload, 1, 0, 0, 0, 0) := rfl
theorem fX3_remember_83 : fetch tX3_remember 83 = some (.aload_n 0, 1, 0, 0, 0, 0) := rfl
theorem fX3_remember_84 : fetch tX3_remember 84 = some (.getfield 12, 3, 3, 0, 0, 0) := rfl
theorem fX3_remember_87 : fetch tX3_remember 87 = some (.invokevirtual 188, 3, 0, 0, 0, 0) := rfl
theorem fX3_remember_90 : fetch tX3_remember 90 = some (.aload_n 0, 1, 0, 0, 0, 0) := rfl
theorem fX3_remember_91 : fetch tX3_remember 91 = some (.dup, 1, 0, 0, 0, 0) := rfl
theorem fX3_remember_92 : fetch tX3_remember 92 = some (.getfield 38, 3, 3, 5, 0, 0) := rfl
theorem fX3_remember_95 : fetch tX3_remember 95 = some (.iconst 1, 1, 0, 0, 1, 0) := rfl
theorem fX3_remember_96 : fetch tX3_remember 96 = some (.iadd, 1, 0, 0, 0, 0) := rfl
theorem fX3_remember_97 : fetch tX3_remember 97 = some (.putfield 38, 3, 3, 5, 0, 0) := rfl
theorem fX3_remember_100 : fetch tX3_remember 100 = some (.return_, 1, 0, 0, 0, 0) := rfl
def tX3_replaceSeen : List (Nat × TE) := [(0, .aload_n 0, 1, 0, 0, 0, 0), (1, .invokevirtual 60, 3, 0, 3, 0, 0), (4, .aload_n 0, 1, 0, 0, 0, 0), (5, .getfield 12, 3, 3, 0, 0, 0), (8, .getfield 102, 3, 0, 6, 0, 0), (11, .iload_n 1, 1, 1, 0, 0, 0), (12, .iaload, 1, 0, 0, 0, 0), (13, .istore_n 3, 1, 3, 0, 0, 0), (14, .aload_n 0, 1, 0, 0, 0, 0), (15, .getfield 12, 3, 3, 0, 0, 0), (18, .getfield 102, 3, 0, 6, 0, 0), (21, .iload_n 1, 1, 1, 0, 0, 0), (22, .iload_n 2, 1, 2, 0, 0, 0), (23, .iastore, 1, 0, 0, 0, 0), (24, .iload_n 3, 1, 3, 0, 0, 0), (25, .ireturn, 1, 0, 0, 0, 0)]
theorem tkX3_replaceSeen : tOk cX3_replaceSeen "RumourSource" 4 tX3_replaceSeen = true := by decide +kernel
theorem fX3_replaceSeen_0 : fetch tX3_replaceSeen 0 = some (.aload_n 0, 1, 0, 0, 0, 0) := rfl
theorem fX3_replaceSeen_1 : fetch tX3_replaceSeen 1 = some (.invokevirtual 60, 3, 0, 3, 0, 0) := rfl
theorem fX3_replaceSeen_4 : fetch tX3_replaceSeen 4 = some (.aload_n 0, 1, 0, 0, 0, 0) := rfl
theorem fX3_replaceSeen_5 : fetch tX3_replaceSeen 5 = some (.getfield 12, 3, 3, 0, 0, 0) := rfl
theorem fX3_replaceSeen_8 : fetch tX3_replaceSeen 8 = some (.getfield 102, 3, 0, 6, 0, 0) := rfl
theorem fX3_replaceSeen_11 : fetch tX3_replaceSeen 11 = some (.iload_n 1, 1, 1, 0, 0, 0) := rfl
theorem fX3_replaceSeen_12 : fetch tX3_replaceSeen 12 = some (.iaload, 1, 0, 0, 0, 0) := rfl
theorem fX3_replaceSeen_13 : fetch tX3_replaceSeen 13 = some (.istore_n 3, 1, 3, 0, 0, 0) := rfl
theorem fX3_replaceSeen_14 : fetch tX3_replaceSeen 14 = some (.aload_n 0, 1, 0, 0, 0, 0) := rfl
theorem fX3_replaceSeen_15 : fetch tX3_replaceSeen 15 = some (.getfield 12, 3, 3, 0, 0, 0) := rfl
theorem fX3_replaceSeen_18 : fetch tX3_replaceSeen 18 = some (.getfield 102, 3, 0, 6, 0, 0) := rfl
theorem fX3_replaceSeen_21 : fetch tX3_replaceSeen 21 = some (.iload_n 1, 1, 1, 0, 0, 0) := rfl
theorem fX3_replaceSeen_22 : fetch tX3_replaceSeen 22 = some (.iload_n 2, 1, 2, 0, 0, 0) := rfl
theorem fX3_replaceSeen_23 : fetch tX3_replaceSeen 23 = some (.iastore, 1, 0, 0, 0, 0) := rfl
theorem fX3_replaceSeen_24 : fetch tX3_replaceSeen 24 = some (.iload_n 3, 1, 3, 0, 0, 0) := rfl
theorem fX3_replaceSeen_25 : fetch tX3_replaceSeen 25 = some (.ireturn, 1, 0, 0, 0, 0) := rfl
def tX3_drawOutcome : List (Nat × TE) := [(0, .iconst 0, 1, 0, 0, 0, 0), (1, .istore_n 2, 1, 2, 0, 0, 0), (2, .iload_n 1, 1, 1, 0, 0, 0), (3, .istore_n 3, 1, 3, 0, 0, 0), (4, .iconst 0, 1, 0, 0, 0, 0), (5, .istore 4, 2, 4, 0, 0, 0), (7, .iload 4, 2, 4, 0, 0, 0), (9, .aload_n 0, 1, 0, 0, 0, 0), (10, .getfield 12, 3, 3, 0, 0, 0), (13, .getfield 81, 3, 0, 4, 0, 0), (16, .if_icmp .ge 45, 3, 61, 0, 0, 0), (19, .iload_n 3, 1, 3, 0, 0, 0), (20, .ldc 208, 2, 0, 0, 1103515245, 0), (22, .imul, 1, 0, 0, 0, 0), (23, .sipush 12345, 3, 0, 0, 12345, 0), (26, .iadd, 1, 0, 0, 0, 0), (27, .istore_n 3, 1, 3, 0, 0, 0), (28, .iload_n 3, 1, 3, 0, 0, 0), (29, .bipush 8, 2, 0, 0, 8, 0), (31, .iushr, 1, 0, 0, 0, 0), (32, .bipush 10, 2, 0, 0, 10, 0), (34, .irem, 1, 0, 0, 0, 0), (35, .aload_n 0, 1, 0, 0, 0, 0), (36, .getfield 12, 3, 3, 0, 0, 0), (39, .getfield 70, 3, 0, 2, 0, 0), (42, .iload 4, 2, 4, 0, 0, 0), (44, .iaload, 1, 0, 0, 0, 0), (45, .if_icmp .ge 10, 3, 55, 0, 0, 0), (48, .iload_n 2, 1, 2, 0, 0, 0), (49, .iconst 1, 1, 0, 0, 1, 0), (50, .iload 4, 2, 4, 0, 0, 0), (52, .ishl, 1, 0, 0, 0, 0), (53, .ior, 1, 0, 0, 0, 0), (54, .istore_n 2, 1, 2, 0, 0, 0), (55, .iinc 4 1, 3, 4, 0, 1, 0), (58, .goto (-51), 3, 7, 0, 0, 0), (61, .iload_n 2, 1, 2, 0, 0, 0), (62, .ireturn, 1, 0, 0, 0, 0)]
theorem tkX3_drawOutcome : tOk cX3_drawOutcome "RumourSource" 5 tX3_drawOutcome = true := by decide +kernel
theorem fX3_drawOutcome_0 : fetch tX3_drawOutcome 0 = some (.iconst 0, 1, 0, 0, 0, 0) := rfl
theorem fX3_drawOutcome_1 : fetch tX3_drawOutcome 1 = some (.istore_n 2, 1, 2, 0, 0, 0) := rfl
theorem fX3_drawOutcome_2 : fetch tX3_drawOutcome 2 = some (.iload_n 1, 1, 1, 0, 0, 0) := rfl
theorem fX3_drawOutcome_3 : fetch tX3_drawOutcome 3 = some (.istore_n 3, 1, 3, 0, 0, 0) := rfl
theorem fX3_drawOutcome_4 : fetch tX3_drawOutcome 4 = some (.iconst 0, 1, 0, 0, 0, 0) := rfl
theorem fX3_drawOutcome_5 : fetch tX3_drawOutcome 5 = some (.istore 4, 2, 4, 0, 0, 0) := rfl
theorem fX3_drawOutcome_7 : fetch tX3_drawOutcome 7 = some (.iload 4, 2, 4, 0, 0, 0) := rfl
theorem fX3_drawOutcome_9 : fetch tX3_drawOutcome 9 = some (.aload_n 0, 1, 0, 0, 0, 0) := rfl
theorem fX3_drawOutcome_10 : fetch tX3_drawOutcome 10 = some (.getfield 12, 3, 3, 0, 0, 0) := rfl
theorem fX3_drawOutcome_13 : fetch tX3_drawOutcome 13 = some (.getfield 81, 3, 0, 4, 0, 0) := rfl
theorem fX3_drawOutcome_16 : fetch tX3_drawOutcome 16 = some (.if_icmp .ge 45, 3, 61, 0, 0, 0) := rfl
theorem fX3_drawOutcome_19 : fetch tX3_drawOutcome 19 = some (.iload_n 3, 1, 3, 0, 0, 0) := rfl
theorem fX3_drawOutcome_20 : fetch tX3_drawOutcome 20 = some (.ldc 208, 2, 0, 0, 1103515245, 0) := rfl
theorem fX3_drawOutcome_22 : fetch tX3_drawOutcome 22 = some (.imul, 1, 0, 0, 0, 0) := rfl
theorem fX3_drawOutcome_23 : fetch tX3_drawOutcome 23 = some (.sipush 12345, 3, 0, 0, 12345, 0) := rfl
theorem fX3_drawOutcome_26 : fetch tX3_drawOutcome 26 = some (.iadd, 1, 0, 0, 0, 0) := rfl
theorem fX3_drawOutcome_27 : fetch tX3_drawOutcome 27 = some (.istore_n 3, 1, 3, 0, 0, 0) := rfl
theorem fX3_drawOutcome_28 : fetch tX3_drawOutcome 28 = some (.iload_n 3, 1, 3, 0, 0, 0) := rfl
theorem fX3_drawOutcome_29 : fetch tX3_drawOutcome 29 = some (.bipush 8, 2, 0, 0, 8, 0) := rfl
theorem fX3_drawOutcome_31 : fetch tX3_drawOutcome 31 = some (.iushr, 1, 0, 0, 0, 0) := rfl
theorem fX3_drawOutcome_32 : fetch tX3_drawOutcome 32 = some (.bipush 10, 2, 0, 0, 10, 0) := rfl
theorem fX3_drawOutcome_34 : fetch tX3_drawOutcome 34 = some (.irem, 1, 0, 0, 0, 0) := rfl
theorem fX3_drawOutcome_35 : fetch tX3_drawOutcome 35 = some (.aload_n 0, 1, 0, 0, 0, 0) := rfl
theorem fX3_drawOutcome_36 : fetch tX3_drawOutcome 36 = some (.getfield 12, 3, 3, 0, 0, 0) := rfl
theorem fX3_drawOutcome_39 : fetch tX3_drawOutcome 39 = some (.getfield 70, 3, 0, 2, 0, 0) := rfl
theorem fX3_drawOutcome_42 : fetch tX3_drawOutcome 42 = some (.iload 4, 2, 4, 0, 0, 0) := rfl
theorem fX3_drawOutcome_44 : fetch tX3_drawOutcome 44 = some (.iaload, 1, 0, 0, 0, 0) := rfl
theorem fX3_drawOutcome_45 : fetch tX3_drawOutcome 45 = some (.if_icmp .ge 10, 3, 55, 0, 0, 0) := rfl
theorem fX3_drawOutcome_48 : fetch tX3_drawOutcome 48 = some (.iload_n 2, 1, 2, 0, 0, 0) := rfl
theorem fX3_drawOutcome_49 : fetch tX3_drawOutcome 49 = some (.iconst 1, 1, 0, 0, 1, 0) := rfl
theorem fX3_drawOutcome_50 : fetch tX3_drawOutcome 50 = some (.iload 4, 2, 4, 0, 0, 0) := rfl
theorem fX3_drawOutcome_52 : fetch tX3_drawOutcome 52 = some (.ishl, 1, 0, 0, 0, 0) := rfl
theorem fX3_drawOutcome_53 : fetch tX3_drawOutcome 53 = some (.ior, 1, 0, 0, 0, 0) := rfl
theorem fX3_drawOutcome_54 : fetch tX3_drawOutcome 54 = some (.istore_n 2, 1, 2, 0, 0, 0) := rfl
theorem fX3_drawOutcome_55 : fetch tX3_drawOutcome 55 = some (.iinc 4 1, 3, 4, 0, 1, 0) := rfl
theorem fX3_drawOutcome_58 : fetch tX3_drawOutcome 58 = some (.goto (-51), 3, 7, 0, 0, 0) := rfl
theorem fX3_drawOutcome_61 : fetch tX3_drawOutcome 61 = some (.iload_n 2, 1, 2, 0, 0, 0) := rfl
theorem fX3_drawOutcome_62 : fetch tX3_drawOutcome 62 = some (.ireturn, 1, 0, 0, 0, 0) := rfl
def tX3_likelihoodOf : List (Nat × TE) := [(0, .aload_n 0, 1, 0, 0, 0, 0), (1, .getfield 23, 3, 3, 2, 0, 0), (4, .aload_n 0, 1, 0, 0, 0, 0), (5, .getfield 12, 3, 3, 0, 0, 0), (8, .invokevirtual 130, 3, 0, 1, 0, 0), (11, .aload_n 0, 1, 0, 0, 0, 0), (12, .getfield 23, 3, 3, 2, 0, 0), (15, .aload_n 0, 1, 0, 0, 0, 0), (16, .getfield 12, 3, 3, 0, 0, 0), (19, .iload_n 1, 1, 1, 0, 0, 0), (20, .iconst 0, 1, 0, 0, 0, 0), (21, .invokevirtual 143, 3, 1, 1, 0, 0), (24, .aload_n 0, 1, 0, 0, 0, 0), (25, .getfield 23, 3, 3, 2, 0, 0), (28, .getfield 147, 3, 1, 2, 0, 0), (31, .lreturn, 1, 0, 0, 0, 0)]
theorem tkX3_likelihoodOf : tOk cX3_likelihoodOf "RumourSource" 2 tX3_likelihoodOf = true := by decide +kernel
theorem fX3_likelihoodOf_0 : fetch tX3_likelihoodOf 0 = some (.aload_n 0, 1, 0, 0, 0, 0) := rfl
theorem fX3_likelihoodOf_1 : fetch tX3_likelihoodOf 1 = some (.getfield 23, 3, 3, 2, 0, 0) := rfl
theorem fX3_likelihoodOf_4 : fetch tX3_likelihoodOf 4 = some (.aload_n 0, 1, 0, 0, 0, 0) := rfl
theorem fX3_likelihoodOf_5 : fetch tX3_likelihoodOf 5 = some (.getfield 12, 3, 3, 0, 0, 0) := rfl
theorem fX3_likelihoodOf_8 : fetch tX3_likelihoodOf 8 = some (.invokevirtual 130, 3, 0, 1, 0, 0) := rfl
theorem fX3_likelihoodOf_11 : fetch tX3_likelihoodOf 11 = some (.aload_n 0, 1, 0, 0, 0, 0) := rfl
theorem fX3_likelihoodOf_12 : fetch tX3_likelihoodOf 12 = some (.getfield 23, 3, 3, 2, 0, 0) := rfl
theorem fX3_likelihoodOf_15 : fetch tX3_likelihoodOf 15 = some (.aload_n 0, 1, 0, 0, 0, 0) := rfl
theorem fX3_likelihoodOf_16 : fetch tX3_likelihoodOf 16 = some (.getfield 12, 3, 3, 0, 0, 0) := rfl
theorem fX3_likelihoodOf_19 : fetch tX3_likelihoodOf 19 = some (.iload_n 1, 1, 1, 0, 0, 0) := rfl
theorem fX3_likelihoodOf_20 : fetch tX3_likelihoodOf 20 = some (.iconst 0, 1, 0, 0, 0, 0) := rfl
theorem fX3_likelihoodOf_21 : fetch tX3_likelihoodOf 21 = some (.invokevirtual 143, 3, 1, 1, 0, 0) := rfl
theorem fX3_likelihoodOf_24 : fetch tX3_likelihoodOf 24 = some (.aload_n 0, 1, 0, 0, 0, 0) := rfl
theorem fX3_likelihoodOf_25 : fetch tX3_likelihoodOf 25 = some (.getfield 23, 3, 3, 2, 0, 0) := rfl
theorem fX3_likelihoodOf_28 : fetch tX3_likelihoodOf 28 = some (.getfield 147, 3, 1, 2, 0, 0) := rfl
theorem fX3_likelihoodOf_31 : fetch tX3_likelihoodOf 31 = some (.lreturn, 1, 0, 0, 0, 0) := rfl
def tX3_countIfPossible : List (Nat × TE) := [(0, .aload_n 0, 1, 0, 0, 0, 0), (1, .getfield 23, 3, 3, 2, 0, 0), (4, .aload_n 0, 1, 0, 0, 0, 0), (5, .getfield 12, 3, 3, 0, 0, 0), (8, .invokevirtual 130, 3, 0, 1, 0, 0), (11, .aload_n 0, 1, 0, 0, 0, 0), (12, .getfield 23, 3, 3, 2, 0, 0), (15, .aload_n 0, 1, 0, 0, 0, 0), (16, .getfield 12, 3, 3, 0, 0, 0), (19, .iload_n 1, 1, 1, 0, 0, 0), (20, .iconst 1, 1, 0, 0, 1, 0), (21, .invokevirtual 143, 3, 1, 1, 0, 0), (24, .aload_n 0, 1, 0, 0, 0, 0), (25, .getfield 23, 3, 3, 2, 0, 0), (28, .getfield 147, 3, 1, 2, 0, 0), (31, .lconst 0, 1, 0, 0, 0, 0), (32, .lcmp, 1, 0, 0, 0, 0), (33, .ifCond .le 7, 3, 40, 0, 0, 0), (36, .iconst 1, 1, 0, 0, 1, 0), (37, .goto 4, 3, 41, 0, 0, 0), (40, .iconst 0, 1, 0, 0, 0, 0), (41, .ireturn, 1, 0, 0, 0, 0)]
theorem tkX3_countIfPossible : tOk cX3_countIfPossible "RumourSource" 2 tX3_countIfPossible = true := by decide +kernel
theorem fX3_countIfPossible_0 : fetch tX3_countIfPossible 0 = some (.aload_n 0, 1, 0, 0, 0, 0) := rfl
theorem fX3_countIfPossible_1 : fetch tX3_countIfPossible 1 = some (.getfield 23, 3, 3, 2, 0, 0) := rfl
theorem fX3_countIfPossible_4 : fetch tX3_countIfPossible 4 = some (.aload_n 0, 1, 0, 0, 0, 0) := rfl
theorem fX3_countIfPossible_5 : fetch tX3_countIfPossible 5 = some (.getfield 12, 3, 3, 0, 0, 0) := rfl
theorem fX3_countIfPossible_8 : fetch tX3_countIfPossible 8 = some (.invokevirtual 130, 3, 0, 1, 0, 0) := rfl
theorem fX3_countIfPossible_11 : fetch tX3_countIfPossible 11 = some (.aload_n 0, 1, 0, 0, 0, 0) := rfl
theorem fX3_countIfPossible_12 : fetch tX3_countIfPossible 12 = some (.getfield 23, 3, 3, 2, 0, 0) := rfl
theorem fX3_countIfPossible_15 : fetch tX3_countIfPossible 15 = some (.aload_n 0, 1, 0, 0, 0, 0) := rfl
theorem fX3_countIfPossible_16 : fetch tX3_countIfPossible 16 = some (.getfield 12, 3, 3, 0, 0, 0) := rfl
theorem fX3_countIfPossible_19 : fetch tX3_countIfPossible 19 = some (.iload_n 1, 1, 1, 0, 0, 0) := rfl
theorem fX3_countIfPossible_20 : fetch tX3_countIfPossible 20 = some (.iconst 1, 1, 0, 0, 1, 0) := rfl
theorem fX3_countIfPossible_21 : fetch tX3_countIfPossible 21 = some (.invokevirtual 143, 3, 1, 1, 0, 0) := rfl
theorem fX3_countIfPossible_24 : fetch tX3_countIfPossible 24 = some (.aload_n 0, 1, 0, 0, 0, 0) := rfl
theorem fX3_countIfPossible_25 : fetch tX3_countIfPossible 25 = some (.getfield 23, 3, 3, 2, 0, 0) := rfl
theorem fX3_countIfPossible_28 : fetch tX3_countIfPossible 28 = some (.getfield 147, 3, 1, 2, 0, 0) := rfl
theorem fX3_countIfPossible_31 : fetch tX3_countIfPossible 31 = some (.lconst 0, 1, 0, 0, 0, 0) := rfl
theorem fX3_countIfPossible_32 : fetch tX3_countIfPossible 32 = some (.lcmp, 1, 0, 0, 0, 0) := rfl
theorem fX3_countIfPossible_33 : fetch tX3_countIfPossible 33 = some (.ifCond .le 7, 3, 40, 0, 0, 0) := rfl
theorem fX3_countIfPossible_36 : fetch tX3_countIfPossible 36 = some (.iconst 1, 1, 0, 0, 1, 0) := rfl
theorem fX3_countIfPossible_37 : fetch tX3_countIfPossible 37 = some (.goto 4, 3, 41, 0, 0, 0) := rfl
theorem fX3_countIfPossible_40 : fetch tX3_countIfPossible 40 = some (.iconst 0, 1, 0, 0, 0, 0) := rfl
theorem fX3_countIfPossible_41 : fetch tX3_countIfPossible 41 = some (.ireturn, 1, 0, 0, 0, 0) := rfl
def tX3_findLikelihoods : List (Nat × TE) := [(0, .iconst 0, 1, 0, 0, 0, 0), (1, .istore_n 1, 1, 1, 0, 0, 0), (2, .iload_n 1, 1, 1, 0, 0, 0), (3, .bipush 8, 2, 0, 0, 8, 0), (5, .if_icmp .ge 22, 3, 27, 0, 0, 0), (8, .aload_n 0, 1, 0, 0, 0, 0), (9, .getfield 34, 3, 3, 4, 0, 0), (12, .iload_n 1, 1, 1, 0, 0, 0), (13, .aload_n 0, 1, 0, 0, 0, 0), (14, .iconst 1, 1, 0, 0, 1, 0), (15, .iload_n 1, 1, 1, 0, 0, 0), (16, .ishl, 1, 0, 0, 0, 0), (17, .invokevirtual 157, 3, 0, 3, 0, 0), (20, .lastore, 1, 0, 0, 0, 0), (21, .iinc 1 1, 3, 1, 0, 1, 0), (24, .goto (-22), 3, 2, 0, 0, 0), (27, .return_, 1, 0, 0, 0, 0)]
theorem tkX3_findLikelihoods : tOk cX3_findLikelihoods "RumourSource" 2 tX3_findLikelihoods = true := by decide +kernel
theorem fX3_findLikelihoods_0 : fetch tX3_findLikelihoods 0 = some (.iconst 0, 1, 0, 0, 0, 0) := rfl
theorem fX3_findLikelihoods_1 : fetch tX3_findLikelihoods 1 = some (.istore_n 1, 1, 1, 0, 0, 0) := rfl
theorem fX3_findLikelihoods_2 : fetch tX3_findLikelihoods 2 = some (.iload_n 1, 1, 1, 0, 0, 0) := rfl
theorem fX3_findLikelihoods_3 : fetch tX3_findLikelihoods 3 = some (.bipush 8, 2, 0, 0, 8, 0) := rfl
theorem fX3_findLikelihoods_5 : fetch tX3_findLikelihoods 5 = some (.if_icmp .ge 22, 3, 27, 0, 0, 0) := rfl
theorem fX3_findLikelihoods_8 : fetch tX3_findLikelihoods 8 = some (.aload_n 0, 1, 0, 0, 0, 0) := rfl
theorem fX3_findLikelihoods_9 : fetch tX3_findLikelihoods 9 = some (.getfield 34, 3, 3, 4, 0, 0) := rfl
theorem fX3_findLikelihoods_12 : fetch tX3_findLikelihoods 12 = some (.iload_n 1, 1, 1, 0, 0, 0) := rfl
theorem fX3_findLikelihoods_13 : fetch tX3_findLikelihoods 13 = some (.aload_n 0, 1, 0, 0, 0, 0) := rfl
theorem fX3_findLikelihoods_14 : fetch tX3_findLikelihoods 14 = some (.iconst 1, 1, 0, 0, 1, 0) := rfl
theorem fX3_findLikelihoods_15 : fetch tX3_findLikelihoods 15 = some (.iload_n 1, 1, 1, 0, 0, 0) := rfl
theorem fX3_findLikelihoods_16 : fetch tX3_findLikelihoods 16 = some (.ishl, 1, 0, 0, 0, 0) := rfl
theorem fX3_findLikelihoods_17 : fetch tX3_findLikelihoods 17 = some (.invokevirtual 157, 3, 0, 3, 0, 0) := rfl
theorem fX3_findLikelihoods_20 : fetch tX3_findLikelihoods 20 = some (.lastore, 1, 0, 0, 0, 0) := rfl
theorem fX3_findLikelihoods_21 : fetch tX3_findLikelihoods 21 = some (.iinc 1 1, 3, 1, 0, 1, 0) := rfl
theorem fX3_findLikelihoods_24 : fetch tX3_findLikelihoods 24 = some (.goto (-22), 3, 2, 0, 0, 0) := rfl
theorem fX3_findLikelihoods_27 : fetch tX3_findLikelihoods 27 = some (.return_, 1, 0, 0, 0, 0) := rfl
def tX3_rankOf : List (Nat × TE) := [(0, .iconst 0, 1, 0, 0, 0, 0), (1, .istore_n 2, 1, 2, 0, 0, 0), (2, .iconst 0, 1, 0, 0, 0, 0), (3, .istore_n 3, 1, 3, 0, 0, 0), (4, .iload_n 3, 1, 3, 0, 0, 0), (5, .bipush 8, 2, 0, 0, 8, 0), (7, .if_icmp .ge 73, 3, 80, 0, 0, 0), (10, .aload_n 0, 1, 0, 0, 0, 0), (11, .getfield 34, 3, 3, 4, 0, 0), (14, .iload_n 3, 1, 3, 0, 0, 0), (15, .laload, 1, 0, 0, 0, 0), (16, .aload_n 0, 1, 0, 0, 0, 0), (17, .getfield 34, 3, 3, 4, 0, 0), (20, .iload_n 1, 1, 1, 0, 0, 0), (21, .laload, 1, 0, 0, 0, 0), (22, .lcmp, 1, 0, 0, 0, 0), (23, .ifCond .le 7, 3, 30, 0, 0, 0), (26, .iconst 1, 1, 0, 0, 1, 0), (27, .goto 4, 3, 31, 0, 0, 0), (30, .iconst 0, 1, 0, 0, 0, 0), (31, .istore 4, 2, 4, 0, 0, 0), (33, .aload_n 0, 1, 0, 0, 0, 0), (34, .getfield 34, 3, 3, 4, 0, 0), (37, .iload_n 3, 1, 3, 0, 0, 0), (38, .laload, 1, 0, 0, 0, 0), (39, .aload_n 0, 1, 0, 0, 0, 0), (40, .getfield 34, 3, 3, 4, 0, 0), (43, .iload_n 1, 1, 1, 0, 0, 0), (44, .laload, 1, 0, 0, 0, 0), (45, .lcmp, 1, 0, 0, 0, 0), (46, .ifCond .ne 12, 3, 58, 0, 0, 0), (49, .iload_n 3, 1, 3, 0, 0, 0), (50, .iload_n 1, 1, 1, 0, 0, 0), (51, .if_icmp .ge 7, 3, 58, 0, 0, 0), (54, .iconst 1, 1, 0, 0, 1, 0), (55, .goto 4, 3, 59, 0, 0, 0), (58, .iconst 0, 1, 0, 0, 0, 0), (59, .istore 5, 2, 5, 0, 0, 0), (61, .iload 4, 2, 4, 0, 0, 0), (63, .ifCond .ne 8, 3, 71, 0, 0, 0), (66, .iload 5, 2, 5, 0, 0, 0), (68, .ifCond .eq 6, 3, 74, 0, 0, 0), (71, .iinc 2 1, 3, 2, 0, 1, 0), (74, .iinc 3 1, 3, 3, 0, 1, 0), (77, .goto (-73), 3, 4, 0, 0, 0), (80, .iload_n 2, 1, 2, 0, 0, 0), (81, .ireturn, 1, 0, 0, 0, 0)]
theorem tkX3_rankOf : tOk cX3_rankOf "RumourSource" 6 tX3_rankOf = true := by decide +kernel
theorem fX3_rankOf_0 : fetch tX3_rankOf 0 = some (.iconst 0, 1, 0, 0, 0, 0) := rfl
theorem fX3_rankOf_1 : fetch tX3_rankOf 1 = some (.istore_n 2, 1, 2, 0, 0, 0) := rfl
theorem fX3_rankOf_2 : fetch tX3_rankOf 2 = some (.iconst 0, 1, 0, 0, 0, 0) := rfl
theorem fX3_rankOf_3 : fetch tX3_rankOf 3 = some (.istore_n 3, 1, 3, 0, 0, 0) := rfl
theorem fX3_rankOf_4 : fetch tX3_rankOf 4 = some (.iload_n 3, 1, 3, 0, 0, 0) := rfl
theorem fX3_rankOf_5 : fetch tX3_rankOf 5 = some (.bipush 8, 2, 0, 0, 8, 0) := rfl
theorem fX3_rankOf_7 : fetch tX3_rankOf 7 = some (.if_icmp .ge 73, 3, 80, 0, 0, 0) := rfl
theorem fX3_rankOf_10 : fetch tX3_rankOf 10 = some (.aload_n 0, 1, 0, 0, 0, 0) := rfl
theorem fX3_rankOf_11 : fetch tX3_rankOf 11 = some (.getfield 34, 3, 3, 4, 0, 0) := rfl
theorem fX3_rankOf_14 : fetch tX3_rankOf 14 = some (.iload_n 3, 1, 3, 0, 0, 0) := rfl
theorem fX3_rankOf_15 : fetch tX3_rankOf 15 = some (.laload, 1, 0, 0, 0, 0) := rfl
theorem fX3_rankOf_16 : fetch tX3_rankOf 16 = some (.aload_n 0, 1, 0, 0, 0, 0) := rfl
theorem fX3_rankOf_17 : fetch tX3_rankOf 17 = some (.getfield 34, 3, 3, 4, 0, 0) := rfl
theorem fX3_rankOf_20 : fetch tX3_rankOf 20 = some (.iload_n 1, 1, 1, 0, 0, 0) := rfl
theorem fX3_rankOf_21 : fetch tX3_rankOf 21 = some (.laload, 1, 0, 0, 0, 0) := rfl
theorem fX3_rankOf_22 : fetch tX3_rankOf 22 = some (.lcmp, 1, 0, 0, 0, 0) := rfl
theorem fX3_rankOf_23 : fetch tX3_rankOf 23 = some (.ifCond .le 7, 3, 30, 0, 0, 0) := rfl
theorem fX3_rankOf_26 : fetch tX3_rankOf 26 = some (.iconst 1, 1, 0, 0, 1, 0) := rfl
theorem fX3_rankOf_27 : fetch tX3_rankOf 27 = some (.goto 4, 3, 31, 0, 0, 0) := rfl
theorem fX3_rankOf_30 : fetch tX3_rankOf 30 = some (.iconst 0, 1, 0, 0, 0, 0) := rfl
theorem fX3_rankOf_31 : fetch tX3_rankOf 31 = some (.istore 4, 2, 4, 0, 0, 0) := rfl
theorem fX3_rankOf_33 : fetch tX3_rankOf 33 = some (.aload_n 0, 1, 0, 0, 0, 0) := rfl
theorem fX3_rankOf_34 : fetch tX3_rankOf 34 = some (.getfield 34, 3, 3, 4, 0, 0) := rfl
theorem fX3_rankOf_37 : fetch tX3_rankOf 37 = some (.iload_n 3, 1, 3, 0, 0, 0) := rfl
theorem fX3_rankOf_38 : fetch tX3_rankOf 38 = some (.laload, 1, 0, 0, 0, 0) := rfl
theorem fX3_rankOf_39 : fetch tX3_rankOf 39 = some (.aload_n 0, 1, 0, 0, 0, 0) := rfl
theorem fX3_rankOf_40 : fetch tX3_rankOf 40 = some (.getfield 34, 3, 3, 4, 0, 0) := rfl
theorem fX3_rankOf_43 : fetch tX3_rankOf 43 = some (.iload_n 1, 1, 1, 0, 0, 0) := rfl
theorem fX3_rankOf_44 : fetch tX3_rankOf 44 = some (.laload, 1, 0, 0, 0, 0) := rfl
theorem fX3_rankOf_45 : fetch tX3_rankOf 45 = some (.lcmp, 1, 0, 0, 0, 0) := rfl
theorem fX3_rankOf_46 : fetch tX3_rankOf 46 = some (.ifCond .ne 12, 3, 58, 0, 0, 0) := rfl
theorem fX3_rankOf_49 : fetch tX3_rankOf 49 = some (.iload_n 3, 1, 3, 0, 0, 0) := rfl
theorem fX3_rankOf_50 : fetch tX3_rankOf 50 = some (.iload_n 1, 1, 1, 0, 0, 0) := rfl
theorem fX3_rankOf_51 : fetch tX3_rankOf 51 = some (.if_icmp .ge 7, 3, 58, 0, 0, 0) := rfl
theorem fX3_rankOf_54 : fetch tX3_rankOf 54 = some (.iconst 1, 1, 0, 0, 1, 0) := rfl
theorem fX3_rankOf_55 : fetch tX3_rankOf 55 = some (.goto 4, 3, 59, 0, 0, 0) := rfl
theorem fX3_rankOf_58 : fetch tX3_rankOf 58 = some (.iconst 0, 1, 0, 0, 0, 0) := rfl
theorem fX3_rankOf_59 : fetch tX3_rankOf 59 = some (.istore 5, 2, 5, 0, 0, 0) := rfl
theorem fX3_rankOf_61 : fetch tX3_rankOf 61 = some (.iload 4, 2, 4, 0, 0, 0) := rfl
theorem fX3_rankOf_63 : fetch tX3_rankOf 63 = some (.ifCond .ne 8, 3, 71, 0, 0, 0) := rfl
theorem fX3_rankOf_66 : fetch tX3_rankOf 66 = some (.iload 5, 2, 5, 0, 0, 0) := rfl
theorem fX3_rankOf_68 : fetch tX3_rankOf 68 = some (.ifCond .eq 6, 3, 74, 0, 0, 0) := rfl
theorem fX3_rankOf_71 : fetch tX3_rankOf 71 = some (.iinc 2 1, 3, 2, 0, 1, 0) := rfl
theorem fX3_rankOf_74 : fetch tX3_rankOf 74 = some (.iinc 3 1, 3, 3, 0, 1, 0) := rfl
theorem fX3_rankOf_77 : fetch tX3_rankOf 77 = some (.goto (-73), 3, 4, 0, 0, 0) := rfl
theorem fX3_rankOf_80 : fetch tX3_rankOf 80 = some (.iload_n 2, 1, 2, 0, 0, 0) := rfl
theorem fX3_rankOf_81 : fetch tX3_rankOf 81 = some (.ireturn, 1, 0, 0, 0, 0) := rfl
def tX4_init : List (Nat × TE) := [(0, .aload_n 0, 1, 0, 0, 0, 0), (1, .invokespecial 1, 3, 0, 0, 0, 0), (4, .aload_n 0, 1, 0, 0, 0, 0), (5, .sipush 354, 3, 0, 0, 354, 0), (8, .newarray .int, 2, 0, 0, 0, 0), (10, .putfield 7, 3, 4, 0, 0, 0), (13, .aload_n 0, 1, 0, 0, 0, 0), (14, .bipush 8, 2, 0, 0, 8, 0), (16, .newarray .int, 2, 0, 0, 0, 0), (18, .putfield 13, 3, 4, 3, 0, 0), (21, .aload_n 0, 1, 0, 0, 0, 0), (22, .bipush 8, 2, 0, 0, 8, 0), (24, .newarray .long, 2, 0, 0, 0, 0), (26, .putfield 16, 3, 4, 4, 0, 0), (29, .aload_n 0, 1, 0, 0, 0, 0), (30, .bipush 32, 2, 0, 0, 32, 0), (32, .newarray .boolean, 2, 0, 0, 0, 0), (34, .putfield 20, 3, 4, 5, 0, 0), (37, .aload_n 0, 1, 0, 0, 0, 0), (38, .bipush 120, 2, 0, 0, 120, 0), (40, .newarray .int, 2, 0, 0, 0, 0), (42, .putfield 24, 3, 4, 6, 0, 0), (45, .aload_n 0, 1, 0, 0, 0, 0), (46, .bipush 64, 2, 0, 0, 64, 0), (48, .newarray .boolean, 2, 0, 0, 0, 0), (50, .putfield 27, 3, 4, 9, 0, 0), (53, .aload_n 0, 1, 0, 0, 0, 0), (54, .getfield 7, 3, 4, 0, 0, 0), (57, .iconst 1, 1, 0, 0, 1, 0), (58, .bipush 20, 2, 0, 0, 20, 0), (60, .iastore, 1, 0, 0, 0, 0), (61, .aload_n 0, 1, 0, 0, 0, 0), (62, .getfield 7, 3, 4, 0, 0, 0), (65, .iconst 2, 1, 0, 0, 2, 0), (66, .sipush 255, 3, 0, 0, 255, 0), (69, .iastore, 1, 0, 0, 0, 0), (70, .iconst 0, 1, 0, 0, 0, 0), (71, .istore_n 1, 1, 1, 0, 0, 0), (72, .iload_n 1, 1, 1, 0, 0, 0), (73, .bipush 8, 2, 0, 0, 8, 0), (75, .if_icmp .ge 20, 3, 95, 0, 0, 0), (78, .aload_n 0, 1, 0, 0, 0, 0), (79, .getfield 7, 3, 4, 0, 0, 0), (82, .bipush 51, 2, 0, 0, 51, 0), (84, .iload_n 1, 1, 1, 0, 0, 0), (85, .iadd, 1, 0, 0, 0, 0), (86, .bipush 100, 2, 0, 0, 100, 0), (88, .iastore, 1, 0, 0, 0, 0), (89, .iinc 1 1, 3, 1, 0, 1, 0), (92, .goto (-20), 3, 72, 0, 0, 0), (95, .return_, 1, 0, 0, 0, 0)]
theorem tkX4_init : tOk cX4_init "RumourSourceModel" 2 tX4_init = true := by decide +kernel
theorem fX4_init_0 : fetch tX4_init 0 = some (.aload_n 0, 1, 0, 0, 0, 0) := rfl
theorem fX4_init_1 : fetch tX4_init 1 = some (.invokespecial 1, 3, 0, 0, 0, 0) := rfl
theorem fX4_init_4 : fetch tX4_init 4 = some (.aload_n 0, 1, 0, 0, 0, 0) := rfl
theorem fX4_init_5 : fetch tX4_init 5 = some (.sipush 354, 3, 0, 0, 354, 0) := rfl
theorem fX4_init_8 : fetch tX4_init 8 = some (.newarray .int, 2, 0, 0, 0, 0) := rfl
theorem fX4_init_10 : fetch tX4_init 10 = some (.putfield 7, 3, 4, 0, 0, 0) := rfl
theorem fX4_init_13 : fetch tX4_init 13 = some (.aload_n 0, 1, 0, 0, 0, 0) := rfl
theorem fX4_init_14 : fetch tX4_init 14 = some (.bipush 8, 2, 0, 0, 8, 0) := rfl
theorem fX4_init_16 : fetch tX4_init 16 = some (.newarray .int, 2, 0, 0, 0, 0) := rfl
theorem fX4_init_18 : fetch tX4_init 18 = some (.putfield 13, 3, 4, 3, 0, 0) := rfl
theorem fX4_init_21 : fetch tX4_init 21 = some (.aload_n 0, 1, 0, 0, 0, 0) := rfl
theorem fX4_init_22 : fetch tX4_init 22 = some (.bipush 8, 2, 0, 0, 8, 0) := rfl
theorem fX4_init_24 : fetch tX4_init 24 = some (.newarray .long, 2, 0, 0, 0, 0) := rfl
theorem fX4_init_26 : fetch tX4_init 26 = some (.putfield 16, 3, 4, 4, 0, 0) := rfl
theorem fX4_init_29 : fetch tX4_init 29 = some (.aload_n 0, 1, 0, 0, 0, 0) := rfl
theorem fX4_init_30 : fetch tX4_init 30 = some (.bipush 32, 2, 0, 0, 32, 0) := rfl
theorem fX4_init_32 : fetch tX4_init 32 = some (.newarray .boolean, 2, 0, 0, 0, 0) := rfl
theorem fX4_init_34 : fetch tX4_init 34 = some (.putfield 20, 3, 4, 5, 0, 0) := rfl
theorem fX4_init_37 : fetch tX4_init 37 = some (.aload_n 0, 1, 0, 0, 0, 0) := rfl
theorem fX4_init_38 : fetch tX4_init 38 = some (.bipush 120, 2, 0, 0, 120, 0) := rfl
theorem fX4_init_40 : fetch tX4_init 40 = some (.newarray .int, 2, 0, 0, 0, 0) := rfl
theorem fX4_init_42 : fetch tX4_init 42 = some (.putfield 24, 3, 4, 6, 0, 0) := rfl
theorem fX4_init_45 : fetch tX4_init 45 = some (.aload_n 0, 1, 0, 0, 0, 0) := rfl
theorem fX4_init_46 : fetch tX4_init 46 = some (.bipush 64, 2, 0, 0, 64, 0) := rfl
theorem fX4_init_48 : fetch tX4_init 48 = some (.newarray .boolean, 2, 0, 0, 0, 0) := rfl
theorem fX4_init_50 : fetch tX4_init 50 = some (.putfield 27, 3, 4, 9, 0, 0) := rfl
theorem fX4_init_53 : fetch tX4_init 53 = some (.aload_n 0, 1, 0, 0, 0, 0) := rfl
theorem fX4_init_54 : fetch tX4_init 54 = some (.getfield 7, 3, 4, 0, 0, 0) := rfl
theorem fX4_init_57 : fetch tX4_init 57 = some (.iconst 1, 1, 0, 0, 1, 0) := rfl
theorem fX4_init_58 : fetch tX4_init 58 = some (.bipush 20, 2, 0, 0, 20, 0) := rfl
theorem fX4_init_60 : fetch tX4_init 60 = some (.iastore, 1, 0, 0, 0, 0) := rfl
theorem fX4_init_61 : fetch tX4_init 61 = some (.aload_n 0, 1, 0, 0, 0, 0) := rfl
theorem fX4_init_62 : fetch tX4_init 62 = some (.getfield 7, 3, 4, 0, 0, 0) := rfl
theorem fX4_init_65 : fetch tX4_init 65 = some (.iconst 2, 1, 0, 0, 2, 0) := rfl
theorem fX4_init_66 : fetch tX4_init 66 = some (.sipush 255, 3, 0, 0, 255, 0) := rfl
theorem fX4_init_69 : fetch tX4_init 69 = some (.iastore, 1, 0, 0, 0, 0) := rfl
theorem fX4_init_70 : fetch tX4_init 70 = some (.iconst 0, 1, 0, 0, 0, 0) := rfl
theorem fX4_init_71 : fetch tX4_init 71 = some (.istore_n 1, 1, 1, 0, 0, 0) := rfl
theorem fX4_init_72 : fetch tX4_init 72 = some (.iload_n 1, 1, 1, 0, 0, 0) := rfl
theorem fX4_init_73 : fetch tX4_init 73 = some (.bipush 8, 2, 0, 0, 8, 0) := rfl
theorem fX4_init_75 : fetch tX4_init 75 = some (.if_icmp .ge 20, 3, 95, 0, 0, 0) := rfl
theorem fX4_init_78 : fetch tX4_init 78 = some (.aload_n 0, 1, 0, 0, 0, 0) := rfl
theorem fX4_init_79 : fetch tX4_init 79 = some (.getfield 7, 3, 4, 0, 0, 0) := rfl
theorem fX4_init_82 : fetch tX4_init 82 = some (.bipush 51, 2, 0, 0, 51, 0) := rfl
theorem fX4_init_84 : fetch tX4_init 84 = some (.iload_n 1, 1, 1, 0, 0, 0) := rfl
theorem fX4_init_85 : fetch tX4_init 85 = some (.iadd, 1, 0, 0, 0, 0) := rfl
theorem fX4_init_86 : fetch tX4_init 86 = some (.bipush 100, 2, 0, 0, 100, 0) := rfl
theorem fX4_init_88 : fetch tX4_init 88 = some (.iastore, 1, 0, 0, 0, 0) := rfl
theorem fX4_init_89 : fetch tX4_init 89 = some (.iinc 1 1, 3, 1, 0, 1, 0) := rfl
theorem fX4_init_92 : fetch tX4_init 92 = some (.goto (-20), 3, 72, 0, 0, 0) := rfl
theorem fX4_init_95 : fetch tX4_init 95 = some (.return_, 1, 0, 0, 0, 0) := rfl
def tX4_in : List (Nat × TE) := [(0, .iload_n 0, 1, 0, 0, 0, 0), (1, .iload_n 1, 1, 1, 0, 0, 0), (2, .if_icmp .lt 12, 3, 14, 0, 0, 0), (5, .iload_n 0, 1, 0, 0, 0, 0), (6, .iload_n 2, 1, 2, 0, 0, 0), (7, .if_icmp .gt 7, 3, 14, 0, 0, 0), (10, .iconst 1, 1, 0, 0, 1, 0), (11, .goto 4, 3, 15, 0, 0, 0), (14, .iconst 0, 1, 0, 0, 0, 0), (15, .ireturn, 1, 0, 0, 0, 0)]
theorem tkX4_in : tOk cX4_in "RumourSourceModel" 3 tX4_in = true := by decide +kernel
theorem fX4_in_0 : fetch tX4_in 0 = some (.iload_n 0, 1, 0, 0, 0, 0) := rfl
theorem fX4_in_1 : fetch tX4_in 1 = some (.iload_n 1, 1, 1, 0, 0, 0) := rfl
theorem fX4_in_2 : fetch tX4_in 2 = some (.if_icmp .lt 12, 3, 14, 0, 0, 0) := rfl
theorem fX4_in_5 : fetch tX4_in 5 = some (.iload_n 0, 1, 0, 0, 0, 0) := rfl
theorem fX4_in_6 : fetch tX4_in 6 = some (.iload_n 2, 1, 2, 0, 0, 0) := rfl
theorem fX4_in_7 : fetch tX4_in 7 = some (.if_icmp .gt 7, 3, 14, 0, 0, 0) := rfl
theorem fX4_in_10 : fetch tX4_in 10 = some (.iconst 1, 1, 0, 0, 1, 0) := rfl
theorem fX4_in_11 : fetch tX4_in 11 = some (.goto 4, 3, 15, 0, 0, 0) := rfl
theorem fX4_in_14 : fetch tX4_in 14 = some (.iconst 0, 1, 0, 0, 0, 0) := rfl
theorem fX4_in_15 : fetch tX4_in 15 = some (.ireturn, 1, 0, 0, 0, 0) := rfl
def tX4_copies : List (Nat × TE) := [(0, .iconst 0, 1, 0, 0, 0, 0), (1, .istore_n 3, 1, 3, 0, 0, 0), (2, .iload_n 3, 1, 3, 0, 0, 0), (3, .bipush 59, 2, 0, 0, 59, 0), (5, .if_icmp .ge 31, 3, 36, 0, 0, 0), (8, .aload_n 0, 1, 0, 0, 0, 0), (9, .getfield 7, 3, 4, 0, 0, 0), (12, .bipush 59, 2, 0, 0, 59, 0), (14, .iload_n 2, 1, 2, 0, 0, 0), (15, .imul, 1, 0, 0, 0, 0), (16, .iload_n 3, 1, 3, 0, 0, 0), (17, .iadd, 1, 0, 0, 0, 0), (18, .aload_n 0, 1, 0, 0, 0, 0), (19, .getfield 7, 3, 4, 0, 0, 0), (22, .bipush 59, 2, 0, 0, 59, 0), (24, .iload_n 1, 1, 1, 0, 0, 0), (25, .imul, 1, 0, 0, 0, 0), (26, .iload_n 3, 1, 3, 0, 0, 0), (27, .iadd, 1, 0, 0, 0, 0), (28, .iaload, 1, 0, 0, 0, 0), (29, .iastore, 1, 0, 0, 0, 0), (30, .iinc 3 1, 3, 3, 0, 1, 0), (33, .goto (-31), 3, 2, 0, 0, 0), (36, .return_, 1, 0, 0, 0, 0)]
theorem tkX4_copies : tOk cX4_copies "RumourSourceModel" 4 tX4_copies = true := by decide +kernel
theorem fX4_copies_0 : fetch tX4_copies 0 = some (.iconst 0, 1, 0, 0, 0, 0) := rfl
theorem fX4_copies_1 : fetch tX4_copies 1 = some (.istore_n 3, 1, 3, 0, 0, 0) := rfl
theorem fX4_copies_2 : fetch tX4_copies 2 = some (.iload_n 3, 1, 3, 0, 0, 0) := rfl
theorem fX4_copies_3 : fetch tX4_copies 3 = some (.bipush 59, 2, 0, 0, 59, 0) := rfl
theorem fX4_copies_5 : fetch tX4_copies 5 = some (.if_icmp .ge 31, 3, 36, 0, 0, 0) := rfl
theorem fX4_copies_8 : fetch tX4_copies 8 = some (.aload_n 0, 1, 0, 0, 0, 0) := rfl
theorem fX4_copies_9 : fetch tX4_copies 9 = some (.getfield 7, 3, 4, 0, 0, 0) := rfl
theorem fX4_copies_12 : fetch tX4_copies 12 = some (.bipush 59, 2, 0, 0, 59, 0) := rfl
theorem fX4_copies_14 : fetch tX4_copies 14 = some (.iload_n 2, 1, 2, 0, 0, 0) := rfl
theorem fX4_copies_15 : fetch tX4_copies 15 = some (.imul, 1, 0, 0, 0, 0) := rfl
theorem fX4_copies_16 : fetch tX4_copies 16 = some (.iload_n 3, 1, 3, 0, 0, 0) := rfl
theorem fX4_copies_17 : fetch tX4_copies 17 = some (.iadd, 1, 0, 0, 0, 0) := rfl
theorem fX4_copies_18 : fetch tX4_copies 18 = some (.aload_n 0, 1, 0, 0, 0, 0) := rfl
theorem fX4_copies_19 : fetch tX4_copies 19 = some (.getfield 7, 3, 4, 0, 0, 0) := rfl
theorem fX4_copies_22 : fetch tX4_copies 22 = some (.bipush 59, 2, 0, 0, 59, 0) := rfl
theorem fX4_copies_24 : fetch tX4_copies 24 = some (.iload_n 1, 1, 1, 0, 0, 0) := rfl
theorem fX4_copies_25 : fetch tX4_copies 25 = some (.imul, 1, 0, 0, 0, 0) := rfl
theorem fX4_copies_26 : fetch tX4_copies 26 = some (.iload_n 3, 1, 3, 0, 0, 0) := rfl
theorem fX4_copies_27 : fetch tX4_copies 27 = some (.iadd, 1, 0, 0, 0, 0) := rfl
theorem fX4_copies_28 : fetch tX4_copies 28 = some (.iaload, 1, 0, 0, 0, 0) := rfl
theorem fX4_copies_29 : fetch tX4_copies 29 = some (.iastore, 1, 0, 0, 0, 0) := rfl
theorem fX4_copies_30 : fetch tX4_copies 30 = some (.iinc 3 1, 3, 3, 0, 1, 0) := rfl
theorem fX4_copies_33 : fetch tX4_copies 33 = some (.goto (-31), 3, 2, 0, 0, 0) := rfl
theorem fX4_copies_36 : fetch tX4_copies 36 = some (.return_, 1, 0, 0, 0, 0) := rfl
def tX4_saves : List (Nat × TE) := [(0, .iconst 1, 1, 0, 0, 1, 0), (1, .istore_n 1, 1, 1, 0, 0, 0), (2, .iload_n 1, 1, 1, 0, 0, 0), (3, .iconst 5, 1, 0, 0, 5, 0), (4, .if_icmp .ge 25, 3, 29, 0, 0, 0), (7, .aload_n 0, 1, 0, 0, 0, 0), (8, .getfield 30, 3, 4, 1, 0, 0), (11, .iconst 5, 1, 0, 0, 5, 0), (12, .if_icmp .ne 17, 3, 29, 0, 0, 0), (15, .aload_n 0, 1, 0, 0, 0, 0), (16, .iload_n 1, 1, 1, 0, 0, 0), (17, .iconst 1, 1, 0, 0, 1, 0), (18, .iadd, 1, 0, 0, 0, 0), (19, .iload_n 1, 1, 1, 0, 0, 0), (20, .invokevirtual 34, 3, 0, 4, 0, 0), (23, .iinc 1 1, 3, 1, 0, 1, 0), (26, .goto (-24), 3, 2, 0, 0, 0), (29, .aload_n 0, 1, 0, 0, 0, 0), (30, .dup, 1, 0, 0, 0, 0), (31, .getfield 30, 3, 4, 1, 0, 0), (34, .aload_n 0, 1, 0, 0, 0, 0), (35, .getfield 30, 3, 4, 1, 0, 0), (38, .iconst 5, 1, 0, 0, 5, 0), (39, .if_icmp .ne 7, 3, 46, 0, 0, 0), (42, .iconst 1, 1, 0, 0, 1, 0), (43, .goto 4, 3, 47, 0, 0, 0), (46, .iconst 0, 1, 0, 0, 0, 0), (47, .isub, 1, 0, 0, 0, 0), (48, .putfield 30, 3, 4, 1, 0, 0), (51, .aload_n 0, 1, 0, 0, 0, 0), (52, .dup, 1, 0, 0, 0, 0), (53, .getfield 30, 3, 4, 1, 0, 0), (56, .iconst 1, 1, 0, 0, 1, 0), (57, .iadd, 1, 0, 0, 0, 0), (58, .putfield 30, 3, 4, 1, 0, 0), (61, .aload_n 0, 1, 0, 0, 0, 0), (62, .iconst 0, 1, 0, 0, 0, 0), (63, .aload_n 0, 1, 0, 0, 0, 0), (64, .getfield 30, 3, 4, 1, 0, 0), (67, .invokevirtual 34, 3, 0, 4, 0, 0), (70, .aload_n 0, 1, 0, 0, 0, 0), (71, .iconst 0, 1, 0, 0, 0, 0), (72, .putfield 38, 3, 4, 2, 0, 0), (75, .return_, 1, 0, 0, 0, 0)]
theorem tkX4_saves : tOk cX4_saves "RumourSourceModel" 2 tX4_saves = true := by decide +kernel
theorem fX4_saves_0 : fetch tX4_saves 0 = some (.iconst 1, 1, 0, 0, 1, 0) := rfl
theorem fX4_saves_1 : fetch tX4_saves 1 = some (.istore_n 1, 1, 1, 0, 0, 0) := rfl
theorem fX4_saves_2 : fetch tX4_saves 2 = some (.iload_n 1, 1, 1, 0, 0, 0) := rfl
theorem fX4_saves_3 : fetch tX4_saves 3 = some (.iconst 5, 1, 0, 0, 5, 0) := rfl
theorem fX4_saves_4 : fetch tX4_saves 4 = some (.if_icmp .ge 25, 3, 29, 0, 0, 0) := rfl
theorem fX4_saves_7 : fetch tX4_saves 7 = some (.aload_n 0, 1, 0, 0, 0, 0) := rfl
theorem fX4_saves_8 : fetch tX4_saves 8 = some (.getfield 30, 3, 4, 1, 0, 0) := rfl
theorem fX4_saves_11 : fetch tX4_saves 11 = some (.iconst 5, 1, 0, 0, 5, 0) := rfl
theorem fX4_saves_12 : fetch tX4_saves 12 = some (.if_icmp .ne 17, 3, 29, 0, 0, 0) := rfl
theorem fX4_saves_15 : fetch tX4_saves 15 = some (.aload_n 0, 1, 0, 0, 0, 0) := rfl
theorem fX4_saves_16 : fetch tX4_saves 16 = some (.iload_n 1, 1, 1, 0, 0, 0) := rfl
theorem fX4_saves_17 : fetch tX4_saves 17 = some (.iconst 1, 1, 0, 0, 1, 0) := rfl
theorem fX4_saves_18 : fetch tX4_saves 18 = some (.iadd, 1, 0, 0, 0, 0) := rfl
theorem fX4_saves_19 : fetch tX4_saves 19 = some (.iload_n 1, 1, 1, 0, 0, 0) := rfl
theorem fX4_saves_20 : fetch tX4_saves 20 = some (.invokevirtual 34, 3, 0, 4, 0, 0) := rfl
theorem fX4_saves_23 : fetch tX4_saves 23 = some (.iinc 1 1, 3, 1, 0, 1, 0) := rfl
theorem fX4_saves_26 : fetch tX4_saves 26 = some (.goto (-24), 3, 2, 0, 0, 0) := rfl
theorem fX4_saves_29 : fetch tX4_saves 29 = some (.aload_n 0, 1, 0, 0, 0, 0) := rfl
theorem fX4_saves_30 : fetch tX4_saves 30 = some (.dup, 1, 0, 0, 0, 0) := rfl
theorem fX4_saves_31 : fetch tX4_saves 31 = some (.getfield 30, 3, 4, 1, 0, 0) := rfl
theorem fX4_saves_34 : fetch tX4_saves 34 = some (.aload_n 0, 1, 0, 0, 0, 0) := rfl
theorem fX4_saves_35 : fetch tX4_saves 35 = some (.getfield 30, 3, 4, 1, 0, 0) := rfl
theorem fX4_saves_38 : fetch tX4_saves 38 = some (.iconst 5, 1, 0, 0, 5, 0) := rfl
theorem fX4_saves_39 : fetch tX4_saves 39 = some (.if_icmp .ne 7, 3, 46, 0, 0, 0) := rfl
theorem fX4_saves_42 : fetch tX4_saves 42 = some (.iconst 1, 1, 0, 0, 1, 0) := rfl
theorem fX4_saves_43 : fetch tX4_saves 43 = some (.goto 4, 3, 47, 0, 0, 0) := rfl
theorem fX4_saves_46 : fetch tX4_saves 46 = some (.iconst 0, 1, 0, 0, 0, 0) := rfl
theorem fX4_saves_47 : fetch tX4_saves 47 = some (.isub, 1, 0, 0, 0, 0) := rfl
theorem fX4_saves_48 : fetch tX4_saves 48 = some (.putfield 30, 3, 4, 1, 0, 0) := rfl
theorem fX4_saves_51 : fetch tX4_saves 51 = some (.aload_n 0, 1, 0, 0, 0, 0) := rfl
theorem fX4_saves_52 : fetch tX4_saves 52 = some (.dup, 1, 0, 0, 0, 0) := rfl
theorem fX4_saves_53 : fetch tX4_saves 53 = some (.getfield 30, 3, 4, 1, 0, 0) := rfl
theorem fX4_saves_56 : fetch tX4_saves 56 = some (.iconst 1, 1, 0, 0, 1, 0) := rfl
theorem fX4_saves_57 : fetch tX4_saves 57 = some (.iadd, 1, 0, 0, 0, 0) := rfl
theorem fX4_saves_58 : fetch tX4_saves 58 = some (.putfield 30, 3, 4, 1, 0, 0) := rfl
theorem fX4_saves_61 : fetch tX4_saves 61 = some (.aload_n 0, 1, 0, 0, 0, 0) := rfl
theorem fX4_saves_62 : fetch tX4_saves 62 = some (.iconst 0, 1, 0, 0, 0, 0) := rfl
theorem fX4_saves_63 : fetch tX4_saves 63 = some (.aload_n 0, 1, 0, 0, 0, 0) := rfl
theorem fX4_saves_64 : fetch tX4_saves 64 = some (.getfield 30, 3, 4, 1, 0, 0) := rfl
theorem fX4_saves_67 : fetch tX4_saves 67 = some (.invokevirtual 34, 3, 0, 4, 0, 0) := rfl
theorem fX4_saves_70 : fetch tX4_saves 70 = some (.aload_n 0, 1, 0, 0, 0, 0) := rfl
theorem fX4_saves_71 : fetch tX4_saves 71 = some (.iconst 0, 1, 0, 0, 0, 0) := rfl
theorem fX4_saves_72 : fetch tX4_saves 72 = some (.putfield 38, 3, 4, 2, 0, 0) := rfl
theorem fX4_saves_75 : fetch tX4_saves 75 = some (.return_, 1, 0, 0, 0, 0) := rfl
def tX4_isNode : List (Nat × TE) := [(0, .iload_n 0, 1, 0, 0, 0, 0), (1, .iconst 0, 1, 0, 0, 0, 0), (2, .bipush 7, 2, 0, 0, 7, 0), (4, .invokestatic 42, 3, 0, 4, 0, 0), (7, .ireturn, 1, 0, 0, 0, 0)]
theorem tkX4_isNode : tOk cX4_isNode "RumourSourceModel" 1 tX4_isNode = true := by decide +kernel
theorem fX4_isNode_0 : fetch tX4_isNode 0 = some (.iload_n 0, 1, 0, 0, 0, 0) := rfl
theorem fX4_isNode_1 : fetch tX4_isNode 1 = some (.iconst 0, 1, 0, 0, 0, 0) := rfl
theorem fX4_isNode_2 : fetch tX4_isNode 2 = some (.bipush 7, 2, 0, 0, 7, 0) := rfl
theorem fX4_isNode_4 : fetch tX4_isNode 4 = some (.invokestatic 42, 3, 0, 4, 0, 0) := rfl
theorem fX4_isNode_7 : fetch tX4_isNode 7 = some (.ireturn, 1, 0, 0, 0, 0) := rfl
def tX4_isEdge : List (Nat × TE) := [(0, .iload_n 1, 1, 1, 0, 0, 0), (1, .iconst 0, 1, 0, 0, 0, 0), (2, .aload_n 0, 1, 0, 0, 0, 0), (3, .getfield 7, 3, 4, 0, 0, 0), (6, .iconst 0, 1, 0, 0, 0, 0), (7, .iaload, 1, 0, 0, 0, 0), (8, .iconst 1, 1, 0, 0, 1, 0), (9, .isub, 1, 0, 0, 0, 0), (10, .invokestatic 42, 3, 0, 4, 0, 0), (13, .ireturn, 1, 0, 0, 0, 0)]
theorem tkX4_isEdge : tOk cX4_isEdge "RumourSourceModel" 2 tX4_isEdge = true := by decide +kernel
theorem fX4_isEdge_0 : fetch tX4_isEdge 0 = some (.iload_n 1, 1, 1, 0, 0, 0) := rfl
theorem fX4_isEdge_1 : fetch tX4_isEdge 1 = some (.iconst 0, 1, 0, 0, 0, 0) := rfl
theorem fX4_isEdge_2 : fetch tX4_isEdge 2 = some (.aload_n 0, 1, 0, 0, 0, 0) := rfl
theorem fX4_isEdge_3 : fetch tX4_isEdge 3 = some (.getfield 7, 3, 4, 0, 0, 0) := rfl
theorem fX4_isEdge_6 : fetch tX4_isEdge 6 = some (.iconst 0, 1, 0, 0, 0, 0) := rfl
theorem fX4_isEdge_7 : fetch tX4_isEdge 7 = some (.iaload, 1, 0, 0, 0, 0) := rfl
theorem fX4_isEdge_8 : fetch tX4_isEdge 8 = some (.iconst 1, 1, 0, 0, 1, 0) := rfl
theorem fX4_isEdge_9 : fetch tX4_isEdge 9 = some (.isub, 1, 0, 0, 0, 0) := rfl
theorem fX4_isEdge_10 : fetch tX4_isEdge 10 = some (.invokestatic 42, 3, 0, 4, 0, 0) := rfl
theorem fX4_isEdge_13 : fetch tX4_isEdge 13 = some (.ireturn, 1, 0, 0, 0, 0) := rfl
def tX4_of : List (Nat × TE) := [(0, .aload_n 0, 1, 0, 0, 0, 0), (1, .getfield 7, 3, 4, 0, 0, 0), (4, .iconst 3, 1, 0, 0, 3, 0), (5, .iconst 4, 1, 0, 0, 4, 0), (6, .iload_n 1, 1, 1, 0, 0, 0), (7, .imul, 1, 0, 0, 0, 0), (8, .iadd, 1, 0, 0, 0, 0), (9, .iload_n 2, 1, 2, 0, 0, 0), (10, .iadd, 1, 0, 0, 0, 0), (11, .iaload, 1, 0, 0, 0, 0), (12, .ireturn, 1, 0, 0, 0, 0)]
theorem tkX4_of : tOk cX4_of "RumourSourceModel" 3 tX4_of = true := by decide +kernel
theorem fX4_of_0 : fetch tX4_of 0 = some (.aload_n 0, 1, 0, 0, 0, 0) := rfl
theorem fX4_of_1 : fetch tX4_of 1 = some (.getfield 7, 3, 4, 0, 0, 0) := rfl
theorem fX4_of_4 : fetch tX4_of 4 = some (.iconst 3, 1, 0, 0, 3, 0) := rfl
theorem fX4_of_5 : fetch tX4_of 5 = some (.iconst 4, 1, 0, 0, 4, 0) := rfl
theorem fX4_of_6 : fetch tX4_of 6 = some (.iload_n 1, 1, 1, 0, 0, 0) := rfl
theorem fX4_of_7 : fetch tX4_of 7 = some (.imul, 1, 0, 0, 0, 0) := rfl
theorem fX4_of_8 : fetch tX4_of 8 = some (.iadd, 1, 0, 0, 0, 0) := rfl
theorem fX4_of_9 : fetch tX4_of 9 = some (.iload_n 2, 1, 2, 0, 0, 0) := rfl
theorem fX4_of_10 : fetch tX4_of 10 = some (.iadd, 1, 0, 0, 0, 0) := rfl
theorem fX4_of_11 : fetch tX4_of 11 = some (.iaload, 1, 0, 0, 0, 0) := rfl
theorem fX4_of_12 : fetch tX4_of 12 = some (.ireturn, 1, 0, 0, 0, 0) := rfl
def tX4_between : List (Nat × TE) := [(0, .iconst (-1), 1, 0, 0, (-1), 0), (1, .istore_n 3, 1, 3, 0, 0, 0), (2, .iconst 0, 1, 0, 0, 0, 0), (3, .istore 4, 2, 4, 0, 0, 0), (5, .iload 4, 2, 4, 0, 0, 0), (7, .aload_n 0, 1, 0, 0, 0, 0), (8, .getfield 7, 3, 4, 0, 0, 0), (11, .iconst 0, 1, 0, 0, 0, 0), (12, .iaload, 1, 0, 0, 0, 0), (13, .if_icmp .ge 38, 3, 51, 0, 0, 0), (16, .aload_n 0, 1, 0, 0, 0, 0), (17, .iload 4, 2, 4, 0, 0, 0), (19, .iconst 0, 1, 0, 0, 0, 0), (20, .invokevirtual 46, 3, 0, 4, 0, 0), (23, .iload_n 1, 1, 1, 0, 0, 0), (24, .if_icmp .ne 19, 3, 43, 0, 0, 0), (27, .aload_n 0, 1, 0, 0, 0, 0), (28, .iload 4, 2, 4, 0, 0, 0), (30, .iconst 1, 1, 0, 0, 1, 0), (31, .invokevirtual 46, 3, 0, 4, 0, 0), (34, .iload_n 2, 1, 2, 0, 0, 0), (35, .if_icmp .ne 8, 3, 43, 0, 0, 0), (38, .iload 4, 2, 4, 0, 0, 0), (40, .goto 4, 3, 44, 0, 0, 0), (43, .iload_n 3, 1, 3, 0, 0, 0), (44, .istore_n 3, 1, 3, 0, 0, 0), (45, .iinc 4 1, 3, 4, 0, 1, 0), (48, .goto (-43), 3, 5, 0, 0, 0), (51, .iload_n 3, 1, 3, 0, 0, 0), (52, .ireturn, 1, 0, 0, 0, 0)]
theorem tkX4_between : tOk cX4_between "RumourSourceModel" 5 tX4_between = true := by decide +kernel
theorem fX4_between_0 : fetch tX4_between 0 = some (.iconst (-1), 1, 0, 0, (-1), 0) := rfl
theorem fX4_between_1 : fetch tX4_between 1 = some (.istore_n 3, 1, 3, 0, 0, 0) := rfl
theorem fX4_between_2 : fetch tX4_between 2 = some (.iconst 0, 1, 0, 0, 0, 0) := rfl
theorem fX4_between_3 : fetch tX4_between 3 = some (.istore 4, 2, 4, 0, 0, 0) := rfl
theorem fX4_between_5 : fetch tX4_between 5 = some (.iload 4, 2, 4, 0, 0, 0) := rfl
theorem fX4_between_7 : fetch tX4_between 7 = some (.aload_n 0, 1, 0, 0, 0, 0) := rfl
theorem fX4_between_8 : fetch tX4_between 8 = some (.getfield 7, 3, 4, 0, 0, 0) := rfl
theorem fX4_between_11 : fetch tX4_between 11 = some (.iconst 0, 1, 0, 0, 0, 0) := rfl
theorem fX4_between_12 : fetch tX4_between 12 = some (.iaload, 1, 0, 0, 0, 0) := rfl
theorem fX4_between_13 : fetch tX4_between 13 = some (.if_icmp .ge 38, 3, 51, 0, 0, 0) := rfl
theorem fX4_between_16 : fetch tX4_between 16 = some (.aload_n 0, 1, 0, 0, 0, 0) := rfl
theorem fX4_between_17 : fetch tX4_between 17 = some (.iload 4, 2, 4, 0, 0, 0) := rfl
theorem fX4_between_19 : fetch tX4_between 19 = some (.iconst 0, 1, 0, 0, 0, 0) := rfl
theorem fX4_between_20 : fetch tX4_between 20 = some (.invokevirtual 46, 3, 0, 4, 0, 0) := rfl
theorem fX4_between_23 : fetch tX4_between 23 = some (.iload_n 1, 1, 1, 0, 0, 0) := rfl
theorem fX4_between_24 : fetch tX4_between 24 = some (.if_icmp .ne 19, 3, 43, 0, 0, 0) := rfl
theorem fX4_between_27 : fetch tX4_between 27 = some (.aload_n 0, 1, 0, 0, 0, 0) := rfl
theorem fX4_between_28 : fetch tX4_between 28 = some (.iload 4, 2, 4, 0, 0, 0) := rfl
theorem fX4_between_30 : fetch tX4_between 30 = some (.iconst 1, 1, 0, 0, 1, 0) := rfl
theorem fX4_between_31 : fetch tX4_between 31 = some (.invokevirtual 46, 3, 0, 4, 0, 0) := rfl
theorem fX4_between_34 : fetch tX4_between 34 = some (.iload_n 2, 1, 2, 0, 0, 0) := rfl
theorem fX4_between_35 : fetch tX4_between 35 = some (.if_icmp .ne 8, 3, 43, 0, 0, 0) := rfl
theorem fX4_between_38 : fetch tX4_between 38 = some (.iload 4, 2, 4, 0, 0, 0) := rfl
theorem fX4_between_40 : fetch tX4_between 40 = some (.goto 4, 3, 44, 0, 0, 0) := rfl
theorem fX4_between_43 : fetch tX4_between 43 = some (.iload_n 3, 1, 3, 0, 0, 0) := rfl
theorem fX4_between_44 : fetch tX4_between 44 = some (.istore_n 3, 1, 3, 0, 0, 0) := rfl
theorem fX4_between_45 : fetch tX4_between 45 = some (.iinc 4 1, 3, 4, 0, 1, 0) := rfl
theorem fX4_between_48 : fetch tX4_between 48 = some (.goto (-43), 3, 5, 0, 0, 0) := rfl
theorem fX4_between_51 : fetch tX4_between 51 = some (.iload_n 3, 1, 3, 0, 0, 0) := rfl
theorem fX4_between_52 : fetch tX4_between 52 = some (.ireturn, 1, 0, 0, 0, 0) := rfl
def tX4_lays : List (Nat × TE) := [(0, .aload_n 0, 1, 0, 0, 0, 0), (1, .getfield 7, 3, 4, 0, 0, 0), (4, .iconst 3, 1, 0, 0, 3, 0), (5, .iconst 4, 1, 0, 0, 4, 0), (6, .iload_n 1, 1, 1, 0, 0, 0), (7, .imul, 1, 0, 0, 0, 0), (8, .iadd, 1, 0, 0, 0, 0), (9, .iload_n 2, 1, 2, 0, 0, 0), (10, .iastore, 1, 0, 0, 0, 0), (11, .aload_n 0, 1, 0, 0, 0, 0), (12, .getfield 7, 3, 4, 0, 0, 0), (15, .iconst 3, 1, 0, 0, 3, 0), (16, .iconst 4, 1, 0, 0, 4, 0), (17, .iload_n 1, 1, 1, 0, 0, 0), (18, .imul, 1, 0, 0, 0, 0), (19, .iadd, 1, 0, 0, 0, 0), (20, .iconst 1, 1, 0, 0, 1, 0), (21, .iadd, 1, 0, 0, 0, 0), (22, .iload_n 3, 1, 3, 0, 0, 0), (23, .iastore, 1, 0, 0, 0, 0), (24, .aload_n 0, 1, 0, 0, 0, 0), (25, .getfield 7, 3, 4, 0, 0, 0), (28, .iconst 3, 1, 0, 0, 3, 0), (29, .iconst 4, 1, 0, 0, 4, 0), (30, .iload_n 1, 1, 1, 0, 0, 0), (31, .imul, 1, 0, 0, 0, 0), (32, .iadd, 1, 0, 0, 0, 0), (33, .iconst 2, 1, 0, 0, 2, 0), (34, .iadd, 1, 0, 0, 0, 0), (35, .iload 4, 2, 4, 0, 0, 0), (37, .iastore, 1, 0, 0, 0, 0), (38, .aload_n 0, 1, 0, 0, 0, 0), (39, .getfield 7, 3, 4, 0, 0, 0), (42, .iconst 3, 1, 0, 0, 3, 0), (43, .iconst 4, 1, 0, 0, 4, 0), (44, .iload_n 1, 1, 1, 0, 0, 0), (45, .imul, 1, 0, 0, 0, 0), (46, .iadd, 1, 0, 0, 0, 0), (47, .iconst 3, 1, 0, 0, 3, 0), (48, .iadd, 1, 0, 0, 0, 0), (49, .iload 5, 2, 5, 0, 0, 0), (51, .iastore, 1, 0, 0, 0, 0), (52, .return_, 1, 0, 0, 0, 0)]
theorem tkX4_lays : tOk cX4_lays "RumourSourceModel" 6 tX4_lays = true := by decide +kernel
theorem fX4_lays_0 : fetch tX4_lays 0 = some (.aload_n 0, 1, 0, 0, 0, 0) := rfl
theorem fX4_lays_1 : fetch tX4_lays 1 = some (.getfield 7, 3, 4, 0, 0, 0) := rfl
theorem fX4_lays_4 : fetch tX4_lays 4 = some (.iconst 3, 1, 0, 0, 3, 0) := rfl
theorem fX4_lays_5 : fetch tX4_lays 5 = some (.iconst 4, 1, 0, 0, 4, 0) := rfl
theorem fX4_lays_6 : fetch tX4_lays 6 = some (.iload_n 1, 1, 1, 0, 0, 0) := rfl
theorem fX4_lays_7 : fetch tX4_lays 7 = some (.imul, 1, 0, 0, 0, 0) := rfl
theorem fX4_lays_8 : fetch tX4_lays 8 = some (.iadd, 1, 0, 0, 0, 0) := rfl
theorem fX4_lays_9 : fetch tX4_lays 9 = some (.iload_n 2, 1, 2, 0, 0, 0) := rfl
theorem fX4_lays_10 : fetch tX4_lays 10 = some (.iastore, 1, 0, 0, 0, 0) := rfl
theorem fX4_lays_11 : fetch tX4_lays 11 = some (.aload_n 0, 1, 0, 0, 0, 0) := rfl
theorem fX4_lays_12 : fetch tX4_lays 12 = some (.getfield 7, 3, 4, 0, 0, 0) := rfl
theorem fX4_lays_15 : fetch tX4_lays 15 = some (.iconst 3, 1, 0, 0, 3, 0) := rfl
theorem fX4_lays_16 : fetch tX4_lays 16 = some (.iconst 4, 1, 0, 0, 4, 0) := rfl
theorem fX4_lays_17 : fetch tX4_lays 17 = some (.iload_n 1, 1, 1, 0, 0, 0) := rfl
theorem fX4_lays_18 : fetch tX4_lays 18 = some (.imul, 1, 0, 0, 0, 0) := rfl
theorem fX4_lays_19 : fetch tX4_lays 19 = some (.iadd, 1, 0, 0, 0, 0) := rfl
theorem fX4_lays_20 : fetch tX4_lays 20 = some (.iconst 1, 1, 0, 0, 1, 0) := rfl
theorem fX4_lays_21 : fetch tX4_lays 21 = some (.iadd, 1, 0, 0, 0, 0) := rfl
theorem fX4_lays_22 : fetch tX4_lays 22 = some (.iload_n 3, 1, 3, 0, 0, 0) := rfl
theorem fX4_lays_23 : fetch tX4_lays 23 = some (.iastore, 1, 0, 0, 0, 0) := rfl
theorem fX4_lays_24 : fetch tX4_lays 24 = some (.aload_n 0, 1, 0, 0, 0, 0) := rfl
theorem fX4_lays_25 : fetch tX4_lays 25 = some (.getfield 7, 3, 4, 0, 0, 0) := rfl
theorem fX4_lays_28 : fetch tX4_lays 28 = some (.iconst 3, 1, 0, 0, 3, 0) := rfl
theorem fX4_lays_29 : fetch tX4_lays 29 = some (.iconst 4, 1, 0, 0, 4, 0) := rfl
theorem fX4_lays_30 : fetch tX4_lays 30 = some (.iload_n 1, 1, 1, 0, 0, 0) := rfl
theorem fX4_lays_31 : fetch tX4_lays 31 = some (.imul, 1, 0, 0, 0, 0) := rfl
theorem fX4_lays_32 : fetch tX4_lays 32 = some (.iadd, 1, 0, 0, 0, 0) := rfl
theorem fX4_lays_33 : fetch tX4_lays 33 = some (.iconst 2, 1, 0, 0, 2, 0) := rfl
theorem fX4_lays_34 : fetch tX4_lays 34 = some (.iadd, 1, 0, 0, 0, 0) := rfl
theorem fX4_lays_35 : fetch tX4_lays 35 = some (.iload 4, 2, 4, 0, 0, 0) := rfl
theorem fX4_lays_37 : fetch tX4_lays 37 = some (.iastore, 1, 0, 0, 0, 0) := rfl
theorem fX4_lays_38 : fetch tX4_lays 38 = some (.aload_n 0, 1, 0, 0, 0, 0) := rfl
theorem fX4_lays_39 : fetch tX4_lays 39 = some (.getfield 7, 3, 4, 0, 0, 0) := rfl
theorem fX4_lays_42 : fetch tX4_lays 42 = some (.iconst 3, 1, 0, 0, 3, 0) := rfl
theorem fX4_lays_43 : fetch tX4_lays 43 = some (.iconst 4, 1, 0, 0, 4, 0) := rfl
theorem fX4_lays_44 : fetch tX4_lays 44 = some (.iload_n 1, 1, 1, 0, 0, 0) := rfl
theorem fX4_lays_45 : fetch tX4_lays 45 = some (.imul, 1, 0, 0, 0, 0) := rfl
theorem fX4_lays_46 : fetch tX4_lays 46 = some (.iadd, 1, 0, 0, 0, 0) := rfl
theorem fX4_lays_47 : fetch tX4_lays 47 = some (.iconst 3, 1, 0, 0, 3, 0) := rfl
theorem fX4_lays_48 : fetch tX4_lays 48 = some (.iadd, 1, 0, 0, 0, 0) := rfl
theorem fX4_lays_49 : fetch tX4_lays 49 = some (.iload 5, 2, 5, 0, 0, 0) := rfl
theorem fX4_lays_51 : fetch tX4_lays 51 = some (.iastore, 1, 0, 0, 0, 0) := rfl
theorem fX4_lays_52 : fetch tX4_lays 52 = some (.return_, 1, 0, 0, 0, 0) := rfl
def tX4_addEdge : List (Nat × TE) := [(0, .iload_n 1, 1, 1, 0, 0, 0), (1, .invokestatic 50, 3, 0, 4, 0, 0), (4, .ifCond .eq 10, 3, 14, 0, 0, 0), (7, .iload_n 2, 1, 2, 0, 0, 0), (8, .invokestatic 50, 3, 0, 4, 0, 0), (11, .ifCond .ne 6, 3, 17, 0, 0, 0), (14, .bipush (-2), 2, 0, 0, (-2), 0), (16, .ireturn, 1, 0, 0, 0, 0), (17, .iload_n 3, 1, 3, 0, 0, 0), (18, .iconst 0, 1, 0, 0, 0, 0), (19, .bipush 10, 2, 0, 0, 10, 0), (21, .invokestatic 42, 3, 1, 4, 0, 0), (24, .ifCond .eq 18, 3, 42, 0, 0, 0), (27, .iload 4, 2, 4, 0, 0, 0), (29, .iconst 1, 1, 0, 0, 1, 0), (30, .iconst 5, 1, 0, 0, 5, 0), (31, .invokestatic 42, 3, 1, 4, 0, 0), (34, .ifCond .eq 8, 3, 42, 0, 0, 0), (37, .iload_n 1, 1, 1, 0, 0, 0), (38, .iload_n 2, 1, 2, 0, 0, 0), (39, .if_icmp .ne 6, 3, 45, 0, 0, 0), (42, .bipush (-3), 2, 0, 0, (-3), 0), (44, .ireturn, 1, 0, 0, 0, 0), (45, .aload_n 0, 1, 0, 0, 0, 0), (46, .iload_n 1, 1, 1, 0, 0, 0), (47, .iload_n 2, 1, 2, 0, 0, 0), (48, .invokevirtual 54, 3, 2, 4, 0, 0), (51, .iconst (-1), 1, 0, 0, (-1), 0), (52, .if_icmp .eq 6, 3, 58, 0, 0, 0), (55, .bipush (-4), 2, 0, 0, (-4), 0), (57, .ireturn, 1, 0, 0, 0, 0), (58, .aload_n 0, 1, 0, 0, 0, 0), (59, .getfield 7, 3, 4, 0, 0, 0), (62, .iconst 0, 1, 0, 0, 0, 0), (63, .iaload, 1, 0, 0, 0, 0), (64, .bipush 12, 2, 0, 0, 12, 0), (66, .if_icmp .ne 6, 3, 72, 0, 0, 0), (69, .bipush (-5), 2, 0, 0, (-5), 0), (71, .ireturn, 1, 0, 0, 0, 0), (72, .aload_n 0, 1, 0, 0, 0, 0), (73, .invokevirtual 57, 3, 3, 4, 0, 0), (76, .aload_n 0, 1, 0, 0, 0, 0), (77, .getfield 7, 3, 4, 0, 0, 0), (80, .iconst 0, 1, 0, 0, 0, 0), (81, .iaload, 1, 0, 0, 0, 0), (82, .istore 5, 2, 5, 0, 0, 0), (84, .aload_n 0, 1, 0, 0, 0, 0), (85, .iload 5, 2, 5, 0, 0, 0), (87, .iload_n 1, 1, 1, 0, 0, 0), (88, .iload_n 2, 1, 2, 0, 0, 0), (89, .iload_n 3, 1, 3, 0, 0, 0), (90, .iload 4, 2, 4, 0, 0, 0), (92, .invokevirtual 60, 3, 4, 4, 0, 0), (95, .aload_n 0, 1, 0, 0, 0, 0), (96, .getfield 7, 3, 4, 0, 0, 0), (99, .iconst 0, 1, 0, 0, 0, 0), (100, .dup2, 1, 0, 0, 0, 0), (101, .iaload, 1, 0, 0, 0, 0), (102, .iconst 1, 1, 0, 0, 1, 0), (103, .iadd, 1, 0, 0, 0, 0), (104, .iastore, 1, 0, 0, 0, 0), (105, .iload 5, 2, 5, 0, 0, 0), (107, .ireturn, 1, 0, 0, 0, 0)]
theorem tkX4_addEdge : tOk cX4_addEdge "RumourSourceModel" 6 tX4_addEdge = true := by decide +kernel
theorem fX4_addEdge_0 : fetch tX4_addEdge 0 = some (.iload_n 1, 1, 1, 0, 0, 0) := rfl
theorem fX4_addEdge_1 : fetch tX4_addEdge 1 = some (.invokestatic 50, 3, 0, 4, 0, 0) := rfl
theorem fX4_addEdge_4 : fetch tX4_addEdge 4 = some (.ifCond .eq 10, 3, 14, 0, 0, 0) := rfl
theorem fX4_addEdge_7 : fetch tX4_addEdge 7 = some (.iload_n 2, 1, 2, 0, 0, 0) := rfl
theorem fX4_addEdge_8 : fetch tX4_addEdge 8 = some (.invokestatic 50, 3, 0, 4, 0, 0) := rfl
theorem fX4_addEdge_11 : fetch tX4_addEdge 11 = some (.ifCond .ne 6, 3, 17, 0, 0, 0) := rfl
theorem fX4_addEdge_14 : fetch tX4_addEdge 14 = some (.bipush (-2), 2, 0, 0, (-2), 0) := rfl
theorem fX4_addEdge_16 : fetch tX4_addEdge 16 = some (.ireturn, 1, 0, 0, 0, 0) := rfl
theorem fX4_addEdge_17 : fetch tX4_addEdge 17 = some (.iload_n 3, 1, 3, 0, 0, 0) := rfl
theorem fX4_addEdge_18 : fetch tX4_addEdge 18 = some (.iconst 0, 1, 0, 0, 0, 0) := rfl
theorem fX4_addEdge_19 : fetch tX4_addEdge 19 = some (.bipush 10, 2, 0, 0, 10, 0) := rfl
theorem fX4_addEdge_21 : fetch tX4_addEdge 21 = some (.invokestatic 42, 3, 1, 4, 0, 0) := rfl
theorem fX4_addEdge_24 : fetch tX4_addEdge 24 = some (.ifCond .eq 18, 3, 42, 0, 0, 0) := rfl
theorem fX4_addEdge_27 : fetch tX4_addEdge 27 = some (.iload 4, 2, 4, 0, 0, 0) := rfl
theorem fX4_addEdge_29 : fetch tX4_addEdge 29 = some (.iconst 1, 1, 0, 0, 1, 0) := rfl
theorem fX4_addEdge_30 : fetch tX4_addEdge 30 = some (.iconst 5, 1, 0, 0, 5, 0) := rfl
theorem fX4_addEdge_31 : fetch tX4_addEdge 31 = some (.invokestatic 42, 3, 1, 4, 0, 0) := rfl
theorem fX4_addEdge_34 : fetch tX4_addEdge 34 = some (.ifCond .eq 8, 3, 42, 0, 0, 0) := rfl
theorem fX4_addEdge_37 : fetch tX4_addEdge 37 = some (.iload_n 1, 1, 1, 0, 0, 0) := rfl
theorem fX4_addEdge_38 : fetch tX4_addEdge 38 = some (.iload_n 2, 1, 2, 0, 0, 0) := rfl
theorem fX4_addEdge_39 : fetch tX4_addEdge 39 = some (.if_icmp .ne 6, 3, 45, 0, 0, 0) := rfl
theorem fX4_addEdge_42 : fetch tX4_addEdge 42 = some (.bipush (-3), 2, 0, 0, (-3), 0) := rfl
theorem fX4_addEdge_44 : fetch tX4_addEdge 44 = some (.ireturn, 1, 0, 0, 0, 0) := rfl
theorem fX4_addEdge_45 : fetch tX4_addEdge 45 = some (.aload_n 0, 1, 0, 0, 0, 0) := rfl
theorem fX4_addEdge_46 : fetch tX4_addEdge 46 = some (.iload_n 1, 1, 1, 0, 0, 0) := rfl
theorem fX4_addEdge_47 : fetch tX4_addEdge 47 = some (.iload_n 2, 1, 2, 0, 0, 0) := rfl
theorem fX4_addEdge_48 : fetch tX4_addEdge 48 = some (.invokevirtual 54, 3, 2, 4, 0, 0) := rfl
theorem fX4_addEdge_51 : fetch tX4_addEdge 51 = some (.iconst (-1), 1, 0, 0, (-1), 0) := rfl
theorem fX4_addEdge_52 : fetch tX4_addEdge 52 = some (.if_icmp .eq 6, 3, 58, 0, 0, 0) := rfl
theorem fX4_addEdge_55 : fetch tX4_addEdge 55 = some (.bipush (-4), 2, 0, 0, (-4), 0) := rfl
theorem fX4_addEdge_57 : fetch tX4_addEdge 57 = some (.ireturn, 1, 0, 0, 0, 0) := rfl
theorem fX4_addEdge_58 : fetch tX4_addEdge 58 = some (.aload_n 0, 1, 0, 0, 0, 0) := rfl
theorem fX4_addEdge_59 : fetch tX4_addEdge 59 = some (.getfield 7, 3, 4, 0, 0, 0) := rfl
theorem fX4_addEdge_62 : fetch tX4_addEdge 62 = some (.iconst 0, 1, 0, 0, 0, 0) := rfl
theorem fX4_addEdge_63 : fetch tX4_addEdge 63 = some (.iaload, 1, 0, 0, 0, 0) := rfl
theorem fX4_addEdge_64 : fetch tX4_addEdge 64 = some (.bipush 12, 2, 0, 0, 12, 0) := rfl
theorem fX4_addEdge_66 : fetch tX4_addEdge 66 = some (.if_icmp .ne 6, 3, 72, 0, 0, 0) := rfl
theorem fX4_addEdge_69 : fetch tX4_addEdge 69 = some (.bipush (-5), 2, 0, 0, (-5), 0) := rfl
theorem fX4_addEdge_71 : fetch tX4_addEdge 71 = some (.ireturn, 1, 0, 0, 0, 0) := rfl
theorem fX4_addEdge_72 : fetch tX4_addEdge 72 = some (.aload_n 0, 1, 0, 0, 0, 0) := rfl
theorem fX4_addEdge_73 : fetch tX4_addEdge 73 = some (.invokevirtual 57, 3, 3, 4, 0, 0) := rfl
theorem fX4_addEdge_76 : fetch tX4_addEdge 76 = some (.aload_n 0, 1, 0, 0, 0, 0) := rfl
theorem fX4_addEdge_77 : fetch tX4_addEdge 77 = some (.getfield 7, 3, 4, 0, 0, 0) := rfl
theorem fX4_addEdge_80 : fetch tX4_addEdge 80 = some (.iconst 0, 1, 0, 0, 0, 0) := rfl
theorem fX4_addEdge_81 : fetch tX4_addEdge 81 = some (.iaload, 1, 0, 0, 0, 0) := rfl
theorem fX4_addEdge_82 : fetch tX4_addEdge 82 = some (.istore 5, 2, 5, 0, 0, 0) := rfl
theorem fX4_addEdge_84 : fetch tX4_addEdge 84 = some (.aload_n 0, 1, 0, 0, 0, 0) := rfl
theorem fX4_addEdge_85 : fetch tX4_addEdge 85 = some (.iload 5, 2, 5, 0, 0, 0) := rfl
theorem fX4_addEdge_87 : fetch tX4_addEdge 87 = some (.iload_n 1, 1, 1, 0, 0, 0) := rfl
theorem fX4_addEdge_88 : fetch tX4_addEdge 88 = some (.iload_n 2, 1, 2, 0, 0, 0) := rfl
theorem fX4_addEdge_89 : fetch tX4_addEdge 89 = some (.iload_n 3, 1, 3, 0, 0, 0) := rfl
theorem fX4_addEdge_90 : fetch tX4_addEdge 90 = some (.iload 4, 2, 4, 0, 0, 0) := rfl
theorem fX4_addEdge_92 : fetch tX4_addEdge 92 = some (.invokevirtual 60, 3, 4, 4, 0, 0) := rfl
theorem fX4_addEdge_95 : fetch tX4_addEdge 95 = some (.aload_n 0, 1, 0, 0, 0, 0) := rfl
theorem fX4_addEdge_96 : fetch tX4_addEdge 96 = some (.getfield 7, 3, 4, 0, 0, 0) := rfl
theorem fX4_addEdge_99 : fetch tX4_addEdge 99 = some (.iconst 0, 1, 0, 0, 0, 0) := rfl
theorem fX4_addEdge_100 : fetch tX4_addEdge 100 = some (.dup2, 1, 0, 0, 0, 0) := rfl
theorem fX4_addEdge_101 : fetch tX4_addEdge 101 = some (.iaload, 1, 0, 0, 0, 0) := rfl
theorem fX4_addEdge_102 : fetch tX4_addEdge 102 = some (.iconst 1, 1, 0, 0, 1, 0) := rfl
theorem fX4_addEdge_103 : fetch tX4_addEdge 103 = some (.iadd, 1, 0, 0, 0, 0) := rfl
theorem fX4_addEdge_104 : fetch tX4_addEdge 104 = some (.iastore, 1, 0, 0, 0, 0) := rfl
theorem fX4_addEdge_105 : fetch tX4_addEdge 105 = some (.iload 5, 2, 5, 0, 0, 0) := rfl
theorem fX4_addEdge_107 : fetch tX4_addEdge 107 = some (.ireturn, 1, 0, 0, 0, 0) := rfl
def tX4_setEdge : List (Nat × TE) := [(0, .aload_n 0, 1, 0, 0, 0, 0), (1, .iload_n 1, 1, 1, 0, 0, 0), (2, .invokevirtual 64, 3, 0, 4, 0, 0), (5, .ifCond .ne 6, 3, 11, 0, 0, 0), (8, .bipush (-2), 2, 0, 0, (-2), 0), (10, .ireturn, 1, 0, 0, 0, 0), (11, .iload_n 2, 1, 2, 0, 0, 0), (12, .iconst 0, 1, 0, 0, 0, 0), (13, .bipush 10, 2, 0, 0, 10, 0), (15, .invokestatic 42, 3, 1, 4, 0, 0), (18, .ifCond .eq 12, 3, 30, 0, 0, 0), (21, .iload_n 3, 1, 3, 0, 0, 0), (22, .iconst 1, 1, 0, 0, 1, 0), (23, .iconst 5, 1, 0, 0, 5, 0), (24, .invokestatic 42, 3, 1, 4, 0, 0), (27, .ifCond .ne 6, 3, 33, 0, 0, 0), (30, .bipush (-3), 2, 0, 0, (-3), 0), (32, .ireturn, 1, 0, 0, 0, 0), (33, .aload_n 0, 1, 0, 0, 0, 0), (34, .invokevirtual 57, 3, 2, 4, 0, 0), (37, .aload_n 0, 1, 0, 0, 0, 0), (38, .iload_n 1, 1, 1, 0, 0, 0), (39, .iconst 2, 1, 0, 0, 2, 0), (40, .invokevirtual 46, 3, 3, 4, 0, 0), (43, .istore 4, 2, 4, 0, 0, 0), (45, .aload_n 0, 1, 0, 0, 0, 0), (46, .iload_n 1, 1, 1, 0, 0, 0), (47, .aload_n 0, 1, 0, 0, 0, 0), (48, .iload_n 1, 1, 1, 0, 0, 0), (49, .iconst 0, 1, 0, 0, 0, 0), (50, .invokevirtual 46, 3, 3, 4, 0, 0), (53, .aload_n 0, 1, 0, 0, 0, 0), (54, .iload_n 1, 1, 1, 0, 0, 0), (55, .iconst 1, 1, 0, 0, 1, 0), (56, .invokevirtual 46, 3, 3, 4, 0, 0), (59, .iload_n 2, 1, 2, 0, 0, 0), (60, .iload_n 3, 1, 3, 0, 0, 0), (61, .invokevirtual 60, 3, 4, 4, 0, 0), (64, .iload 4, 2, 4, 0, 0, 0), (66, .ireturn, 1, 0, 0, 0, 0)]
theorem tkX4_setEdge : tOk cX4_setEdge "RumourSourceModel" 5 tX4_setEdge = true := by decide +kernel
theorem fX4_setEdge_0 : fetch tX4_setEdge 0 = some (.aload_n 0, 1, 0, 0, 0, 0) := rfl
theorem fX4_setEdge_1 : fetch tX4_setEdge 1 = some (.iload_n 1, 1, 1, 0, 0, 0) := rfl
theorem fX4_setEdge_2 : fetch tX4_setEdge 2 = some (.invokevirtual 64, 3, 0, 4, 0, 0) := rfl
theorem fX4_setEdge_5 : fetch tX4_setEdge 5 = some (.ifCond .ne 6, 3, 11, 0, 0, 0) := rfl
theorem fX4_setEdge_8 : fetch tX4_setEdge 8 = some (.bipush (-2), 2, 0, 0, (-2), 0) := rfl
theorem fX4_setEdge_10 : fetch tX4_setEdge 10 = some (.ireturn, 1, 0, 0, 0, 0) := rfl
theorem fX4_setEdge_11 : fetch tX4_setEdge 11 = some (.iload_n 2, 1, 2, 0, 0, 0) := rfl
theorem fX4_setEdge_12 : fetch tX4_setEdge 12 = some (.iconst 0, 1, 0, 0, 0, 0) := rfl
theorem fX4_setEdge_13 : fetch tX4_setEdge 13 = some (.bipush 10, 2, 0, 0, 10, 0) := rfl
theorem fX4_setEdge_15 : fetch tX4_setEdge 15 = some (.invokestatic 42, 3, 1, 4, 0, 0) := rfl
theorem fX4_setEdge_18 : fetch tX4_setEdge 18 = some (.ifCond .eq 12, 3, 30, 0, 0, 0) := rfl
theorem fX4_setEdge_21 : fetch tX4_setEdge 21 = some (.iload_n 3, 1, 3, 0, 0, 0) := rfl
theorem fX4_setEdge_22 : fetch tX4_setEdge 22 = some (.iconst 1, 1, 0, 0, 1, 0) := rfl
theorem fX4_setEdge_23 : fetch tX4_setEdge 23 = some (.iconst 5, 1, 0, 0, 5, 0) := rfl
theorem fX4_setEdge_24 : fetch tX4_setEdge 24 = some (.invokestatic 42, 3, 1, 4, 0, 0) := rfl
theorem fX4_setEdge_27 : fetch tX4_setEdge 27 = some (.ifCond .ne 6, 3, 33, 0, 0, 0) := rfl
theorem fX4_setEdge_30 : fetch tX4_setEdge 30 = some (.bipush (-3), 2, 0, 0, (-3), 0) := rfl
theorem fX4_setEdge_32 : fetch tX4_setEdge 32 = some (.ireturn, 1, 0, 0, 0, 0) := rfl
theorem fX4_setEdge_33 : fetch tX4_setEdge 33 = some (.aload_n 0, 1, 0, 0, 0, 0) := rfl
theorem fX4_setEdge_34 : fetch tX4_setEdge 34 = some (.invokevirtual 57, 3, 2, 4, 0, 0) := rfl
theorem fX4_setEdge_37 : fetch tX4_setEdge 37 = some (.aload_n 0, 1, 0, 0, 0, 0) := rfl
theorem fX4_setEdge_38 : fetch tX4_setEdge 38 = some (.iload_n 1, 1, 1, 0, 0, 0) := rfl
theorem fX4_setEdge_39 : fetch tX4_setEdge 39 = some (.iconst 2, 1, 0, 0, 2, 0) := rfl
theorem fX4_setEdge_40 : fetch tX4_setEdge 40 = some (.invokevirtual 46, 3, 3, 4, 0, 0) := rfl
theorem fX4_setEdge_43 : fetch tX4_setEdge 43 = some (.istore 4, 2, 4, 0, 0, 0) := rfl
theorem fX4_setEdge_45 : fetch tX4_setEdge 45 = some (.aload_n 0, 1, 0, 0, 0, 0) := rfl
theorem fX4_setEdge_46 : fetch tX4_setEdge 46 = some (.iload_n 1, 1, 1, 0, 0, 0) := rfl
theorem fX4_setEdge_47 : fetch tX4_setEdge 47 = some (.aload_n 0, 1, 0, 0, 0, 0) := rfl
theorem fX4_setEdge_48 : fetch tX4_setEdge 48 = some (.iload_n 1, 1, 1, 0, 0, 0) := rfl
theorem fX4_setEdge_49 : fetch tX4_setEdge 49 = some (.iconst 0, 1, 0, 0, 0, 0) := rfl
theorem fX4_setEdge_50 : fetch tX4_setEdge 50 = some (.invokevirtual 46, 3, 3, 4, 0, 0) := rfl
theorem fX4_setEdge_53 : fetch tX4_setEdge 53 = some (.aload_n 0, 1, 0, 0, 0, 0) := rfl
theorem fX4_setEdge_54 : fetch tX4_setEdge 54 = some (.iload_n 1, 1, 1, 0, 0, 0) := rfl
theorem fX4_setEdge_55 : fetch tX4_setEdge 55 = some (.iconst 1, 1, 0, 0, 1, 0) := rfl
theorem fX4_setEdge_56 : fetch tX4_setEdge 56 = some (.invokevirtual 46, 3, 3, 4, 0, 0) := rfl
theorem fX4_setEdge_59 : fetch tX4_setEdge 59 = some (.iload_n 2, 1, 2, 0, 0, 0) := rfl
theorem fX4_setEdge_60 : fetch tX4_setEdge 60 = some (.iload_n 3, 1, 3, 0, 0, 0) := rfl
theorem fX4_setEdge_61 : fetch tX4_setEdge 61 = some (.invokevirtual 60, 3, 4, 4, 0, 0) := rfl
theorem fX4_setEdge_64 : fetch tX4_setEdge 64 = some (.iload 4, 2, 4, 0, 0, 0) := rfl
theorem fX4_setEdge_66 : fetch tX4_setEdge 66 = some (.ireturn, 1, 0, 0, 0, 0) := rfl
def tX4_removeEdge : List (Nat × TE) := [(0, .aload_n 0, 1, 0, 0, 0, 0), (1, .iload_n 1, 1, 1, 0, 0, 0), (2, .invokevirtual 64, 3, 0, 4, 0, 0), (5, .ifCond .ne 6, 3, 11, 0, 0, 0), (8, .bipush (-2), 2, 0, 0, (-2), 0), (10, .ireturn, 1, 0, 0, 0, 0), (11, .aload_n 0, 1, 0, 0, 0, 0), (12, .invokevirtual 57, 3, 1, 4, 0, 0), (15, .iload_n 1, 1, 1, 0, 0, 0), (16, .istore_n 2, 1, 2, 0, 0, 0), (17, .iload_n 2, 1, 2, 0, 0, 0), (18, .iconst 1, 1, 0, 0, 1, 0), (19, .iadd, 1, 0, 0, 0, 0), (20, .aload_n 0, 1, 0, 0, 0, 0), (21, .getfield 7, 3, 4, 0, 0, 0), (24, .iconst 0, 1, 0, 0, 0, 0), (25, .iaload, 1, 0, 0, 0, 0), (26, .if_icmp .ge 46, 3, 72, 0, 0, 0), (29, .aload_n 0, 1, 0, 0, 0, 0), (30, .iload_n 2, 1, 2, 0, 0, 0), (31, .aload_n 0, 1, 0, 0, 0, 0), (32, .iload_n 2, 1, 2, 0, 0, 0), (33, .iconst 1, 1, 0, 0, 1, 0), (34, .iadd, 1, 0, 0, 0, 0), (35, .iconst 0, 1, 0, 0, 0, 0), (36, .invokevirtual 46, 3, 2, 4, 0, 0), (39, .aload_n 0, 1, 0, 0, 0, 0), (40, .iload_n 2, 1, 2, 0, 0, 0), (41, .iconst 1, 1, 0, 0, 1, 0), (42, .iadd, 1, 0, 0, 0, 0), (43, .iconst 1, 1, 0, 0, 1, 0), (44, .invokevirtual 46, 3, 2, 4, 0, 0), (47, .aload_n 0, 1, 0, 0, 0, 0), (48, .iload_n 2, 1, 2, 0, 0, 0), (49, .iconst 1, 1, 0, 0, 1, 0), (50, .iadd, 1, 0, 0, 0, 0), (51, .iconst 2, 1, 0, 0, 2, 0), (52, .invokevirtual 46, 3, 2, 4, 0, 0), (55, .aload_n 0, 1, 0, 0, 0, 0), (56, .iload_n 2, 1, 2, 0, 0, 0), (57, .iconst 1, 1, 0, 0, 1, 0), (58, .iadd, 1, 0, 0, 0, 0), (59, .iconst 3, 1, 0, 0, 3, 0), (60, .invokevirtual 46, 3, 2, 4, 0, 0), (63, .invokevirtual 60, 3, 3, 4, 0, 0), (66, .iinc 2 1, 3, 2, 0, 1, 0), (69, .goto (-52), 3, 17, 0, 0, 0), (72, .aload_n 0, 1, 0, 0, 0, 0), (73, .getfield 7, 3, 4, 0, 0, 0), (76, .iconst 0, 1, 0, 0, 0, 0), (77, .dup2, 1, 0, 0, 0, 0), (78, .iaload, 1, 0, 0, 0, 0), (79, .iconst 1, 1, 0, 0, 1, 0), (80, .isub, 1, 0, 0, 0, 0), (81, .iastore, 1, 0, 0, 0, 0), (82, .aload_n 0, 1, 0, 0, 0, 0), (83, .getfield 7, 3, 4, 0, 0, 0), (86, .iconst 0, 1, 0, 0, 0, 0), (87, .iaload, 1, 0, 0, 0, 0), (88, .ireturn, 1, 0, 0, 0, 0)]
theorem tkX4_removeEdge : tOk cX4_removeEdge "RumourSourceModel" 3 tX4_removeEdge = true := by decide +kernel
theorem fX4_removeEdge_0 : fetch tX4_removeEdge 0 = some (.aload_n 0, 1, 0, 0, 0, 0) := rfl
theorem fX4_removeEdge_1 : fetch tX4_removeEdge 1 = some (.iload_n 1, 1, 1, 0, 0, 0) := rfl
theorem fX4_removeEdge_2 : fetch tX4_removeEdge 2 = some (.invokevirtual 64, 3, 0, 4, 0, 0) := rfl
theorem fX4_removeEdge_5 : fetch tX4_removeEdge 5 = some (.ifCond .ne 6, 3, 11, 0, 0, 0) := rfl
theorem fX4_removeEdge_8 : fetch tX4_removeEdge 8 = some (.bipush (-2), 2, 0, 0, (-2), 0) := rfl
theorem fX4_removeEdge_10 : fetch tX4_removeEdge 10 = some (.ireturn, 1, 0, 0, 0, 0) := rfl
theorem fX4_removeEdge_11 : fetch tX4_removeEdge 11 = some (.aload_n 0, 1, 0, 0, 0, 0) := rfl
theorem fX4_removeEdge_12 : fetch tX4_removeEdge 12 = some (.invokevirtual 57, 3, 1, 4, 0, 0) := rfl
theorem fX4_removeEdge_15 : fetch tX4_removeEdge 15 = some (.iload_n 1, 1, 1, 0, 0, 0) := rfl
theorem fX4_removeEdge_16 : fetch tX4_removeEdge 16 = some (.istore_n 2, 1, 2, 0, 0, 0) := rfl
theorem fX4_removeEdge_17 : fetch tX4_removeEdge 17 = some (.iload_n 2, 1, 2, 0, 0, 0) := rfl
theorem fX4_removeEdge_18 : fetch tX4_removeEdge 18 = some (.iconst 1, 1, 0, 0, 1, 0) := rfl
theorem fX4_removeEdge_19 : fetch tX4_removeEdge 19 = some (.iadd, 1, 0, 0, 0, 0) := rfl
theorem fX4_removeEdge_20 : fetch tX4_removeEdge 20 = some (.aload_n 0, 1, 0, 0, 0, 0) := rfl
theorem fX4_removeEdge_21 : fetch tX4_removeEdge 21 = some (.getfield 7, 3, 4, 0, 0, 0) := rfl
theorem fX4_removeEdge_24 : fetch tX4_removeEdge 24 = some (.iconst 0, 1, 0, 0, 0, 0) := rfl
theorem fX4_removeEdge_25 : fetch tX4_removeEdge 25 = some (.iaload, 1, 0, 0, 0, 0) := rfl
theorem fX4_removeEdge_26 : fetch tX4_removeEdge 26 = some (.if_icmp .ge 46, 3, 72, 0, 0, 0) := rfl
theorem fX4_removeEdge_29 : fetch tX4_removeEdge 29 = some (.aload_n 0, 1, 0, 0, 0, 0) := rfl
theorem fX4_removeEdge_30 : fetch tX4_removeEdge 30 = some (.iload_n 2, 1, 2, 0, 0, 0) := rfl
theorem fX4_removeEdge_31 : fetch tX4_removeEdge 31 = some (.aload_n 0, 1, 0, 0, 0, 0) := rfl
theorem fX4_removeEdge_32 : fetch tX4_removeEdge 32 = some (.iload_n 2, 1, 2, 0, 0, 0) := rfl
theorem fX4_removeEdge_33 : fetch tX4_removeEdge 33 = some (.iconst 1, 1, 0, 0, 1, 0) := rfl
theorem fX4_removeEdge_34 : fetch tX4_removeEdge 34 = some (.iadd, 1, 0, 0, 0, 0) := rfl
theorem fX4_removeEdge_35 : fetch tX4_removeEdge 35 = some (.iconst 0, 1, 0, 0, 0, 0) := rfl
theorem fX4_removeEdge_36 : fetch tX4_removeEdge 36 = some (.invokevirtual 46, 3, 2, 4, 0, 0) := rfl
theorem fX4_removeEdge_39 : fetch tX4_removeEdge 39 = some (.aload_n 0, 1, 0, 0, 0, 0) := rfl
theorem fX4_removeEdge_40 : fetch tX4_removeEdge 40 = some (.iload_n 2, 1, 2, 0, 0, 0) := rfl
theorem fX4_removeEdge_41 : fetch tX4_removeEdge 41 = some (.iconst 1, 1, 0, 0, 1, 0) := rfl
theorem fX4_removeEdge_42 : fetch tX4_removeEdge 42 = some (.iadd, 1, 0, 0, 0, 0) := rfl
theorem fX4_removeEdge_43 : fetch tX4_removeEdge 43 = some (.iconst 1, 1, 0, 0, 1, 0) := rfl
theorem fX4_removeEdge_44 : fetch tX4_removeEdge 44 = some (.invokevirtual 46, 3, 2, 4, 0, 0) := rfl
theorem fX4_removeEdge_47 : fetch tX4_removeEdge 47 = some (.aload_n 0, 1, 0, 0, 0, 0) := rfl
theorem fX4_removeEdge_48 : fetch tX4_removeEdge 48 = some (.iload_n 2, 1, 2, 0, 0, 0) := rfl
theorem fX4_removeEdge_49 : fetch tX4_removeEdge 49 = some (.iconst 1, 1, 0, 0, 1, 0) := rfl
theorem fX4_removeEdge_50 : fetch tX4_removeEdge 50 = some (.iadd, 1, 0, 0, 0, 0) := rfl
theorem fX4_removeEdge_51 : fetch tX4_removeEdge 51 = some (.iconst 2, 1, 0, 0, 2, 0) := rfl
theorem fX4_removeEdge_52 : fetch tX4_removeEdge 52 = some (.invokevirtual 46, 3, 2, 4, 0, 0) := rfl
theorem fX4_removeEdge_55 : fetch tX4_removeEdge 55 = some (.aload_n 0, 1, 0, 0, 0, 0) := rfl
theorem fX4_removeEdge_56 : fetch tX4_removeEdge 56 = some (.iload_n 2, 1, 2, 0, 0, 0) := rfl
theorem fX4_removeEdge_57 : fetch tX4_removeEdge 57 = some (.iconst 1, 1, 0, 0, 1, 0) := rfl
theorem fX4_removeEdge_58 : fetch tX4_removeEdge 58 = some (.iadd, 1, 0, 0, 0, 0) := rfl
theorem fX4_removeEdge_59 : fetch tX4_removeEdge 59 = some (.iconst 3, 1, 0, 0, 3, 0) := rfl
theorem fX4_removeEdge_60 : fetch tX4_removeEdge 60 = some (.invokevirtual 46, 3, 2, 4, 0, 0) := rfl
theorem fX4_removeEdge_63 : fetch tX4_removeEdge 63 = some (.invokevirtual 60, 3, 3, 4, 0, 0) := rfl
theorem fX4_removeEdge_66 : fetch tX4_removeEdge 66 = some (.iinc 2 1, 3, 2, 0, 1, 0) := rfl
theorem fX4_removeEdge_69 : fetch tX4_removeEdge 69 = some (.goto (-52), 3, 17, 0, 0, 0) := rfl
theorem fX4_removeEdge_72 : fetch tX4_removeEdge 72 = some (.aload_n 0, 1, 0, 0, 0, 0) := rfl
theorem fX4_removeEdge_73 : fetch tX4_removeEdge 73 = some (.getfield 7, 3, 4, 0, 0, 0) := rfl
theorem fX4_removeEdge_76 : fetch tX4_removeEdge 76 = some (.iconst 0, 1, 0, 0, 0, 0) := rfl
theorem fX4_removeEdge_77 : fetch tX4_removeEdge 77 = some (.dup2, 1, 0, 0, 0, 0) := rfl
theorem fX4_removeEdge_78 : fetch tX4_removeEdge 78 = some (.iaload, 1, 0, 0, 0, 0) := rfl
theorem fX4_removeEdge_79 : fetch tX4_removeEdge 79 = some (.iconst 1, 1, 0, 0, 1, 0) := rfl
theorem fX4_removeEdge_80 : fetch tX4_removeEdge 80 = some (.isub, 1, 0, 0, 0, 0) := rfl
theorem fX4_removeEdge_81 : fetch tX4_removeEdge 81 = some (.iastore, 1, 0, 0, 0, 0) := rfl
theorem fX4_removeEdge_82 : fetch tX4_removeEdge 82 = some (.aload_n 0, 1, 0, 0, 0, 0) := rfl
theorem fX4_removeEdge_83 : fetch tX4_removeEdge 83 = some (.getfield 7, 3, 4, 0, 0, 0) := rfl
theorem fX4_removeEdge_86 : fetch tX4_removeEdge 86 = some (.iconst 0, 1, 0, 0, 0, 0) := rfl
theorem fX4_removeEdge_87 : fetch tX4_removeEdge 87 = some (.iaload, 1, 0, 0, 0, 0) := rfl
theorem fX4_removeEdge_88 : fetch tX4_removeEdge 88 = some (.ireturn, 1, 0, 0, 0, 0) := rfl
def tX4_edges : List (Nat × TE) := [(0, .aload_n 0, 1, 0, 0, 0, 0), (1, .getfield 7, 3, 4, 0, 0, 0), (4, .iconst 0, 1, 0, 0, 0, 0), (5, .iaload, 1, 0, 0, 0, 0), (6, .ireturn, 1, 0, 0, 0, 0)]
theorem tkX4_edges : tOk cX4_edges "RumourSourceModel" 1 tX4_edges = true := by decide +kernel
theorem fX4_edges_0 : fetch tX4_edges 0 = some (.aload_n 0, 1, 0, 0, 0, 0) := rfl
theorem fX4_edges_1 : fetch tX4_edges 1 = some (.getfield 7, 3, 4, 0, 0, 0) := rfl
theorem fX4_edges_4 : fetch tX4_edges 4 = some (.iconst 0, 1, 0, 0, 0, 0) := rfl
theorem fX4_edges_5 : fetch tX4_edges 5 = some (.iaload, 1, 0, 0, 0, 0) := rfl
theorem fX4_edges_6 : fetch tX4_edges 6 = some (.ireturn, 1, 0, 0, 0, 0) := rfl
def tX4_edge : List (Nat × TE) := [(0, .aload_n 0, 1, 0, 0, 0, 0), (1, .iload_n 1, 1, 1, 0, 0, 0), (2, .invokevirtual 64, 3, 0, 4, 0, 0), (5, .ifCond .ne 6, 3, 11, 0, 0, 0), (8, .bipush (-2), 2, 0, 0, (-2), 0), (10, .ireturn, 1, 0, 0, 0, 0), (11, .iload_n 2, 1, 2, 0, 0, 0), (12, .iconst 0, 1, 0, 0, 0, 0), (13, .iconst 3, 1, 0, 0, 3, 0), (14, .invokestatic 42, 3, 1, 4, 0, 0), (17, .ifCond .eq 12, 3, 29, 0, 0, 0), (20, .aload_n 0, 1, 0, 0, 0, 0), (21, .iload_n 1, 1, 1, 0, 0, 0), (22, .iload_n 2, 1, 2, 0, 0, 0), (23, .invokevirtual 46, 3, 2, 4, 0, 0), (26, .goto 5, 3, 31, 0, 0, 0), (29, .bipush (-3), 2, 0, 0, (-3), 0), (31, .ireturn, 1, 0, 0, 0, 0)]
theorem tkX4_edge : tOk cX4_edge "RumourSourceModel" 3 tX4_edge = true := by decide +kernel
theorem fX4_edge_0 : fetch tX4_edge 0 = some (.aload_n 0, 1, 0, 0, 0, 0) := rfl
theorem fX4_edge_1 : fetch tX4_edge 1 = some (.iload_n 1, 1, 1, 0, 0, 0) := rfl
theorem fX4_edge_2 : fetch tX4_edge 2 = some (.invokevirtual 64, 3, 0, 4, 0, 0) := rfl
theorem fX4_edge_5 : fetch tX4_edge 5 = some (.ifCond .ne 6, 3, 11, 0, 0, 0) := rfl
theorem fX4_edge_8 : fetch tX4_edge 8 = some (.bipush (-2), 2, 0, 0, (-2), 0) := rfl
theorem fX4_edge_10 : fetch tX4_edge 10 = some (.ireturn, 1, 0, 0, 0, 0) := rfl
theorem fX4_edge_11 : fetch tX4_edge 11 = some (.iload_n 2, 1, 2, 0, 0, 0) := rfl
theorem fX4_edge_12 : fetch tX4_edge 12 = some (.iconst 0, 1, 0, 0, 0, 0) := rfl
theorem fX4_edge_13 : fetch tX4_edge 13 = some (.iconst 3, 1, 0, 0, 3, 0) := rfl
theorem fX4_edge_14 : fetch tX4_edge 14 = some (.invokestatic 42, 3, 1, 4, 0, 0) := rfl
theorem fX4_edge_17 : fetch tX4_edge 17 = some (.ifCond .eq 12, 3, 29, 0, 0, 0) := rfl
theorem fX4_edge_20 : fetch tX4_edge 20 = some (.aload_n 0, 1, 0, 0, 0, 0) := rfl
theorem fX4_edge_21 : fetch tX4_edge 21 = some (.iload_n 1, 1, 1, 0, 0, 0) := rfl
theorem fX4_edge_22 : fetch tX4_edge 22 = some (.iload_n 2, 1, 2, 0, 0, 0) := rfl
theorem fX4_edge_23 : fetch tX4_edge 23 = some (.invokevirtual 46, 3, 2, 4, 0, 0) := rfl
theorem fX4_edge_26 : fetch tX4_edge 26 = some (.goto 5, 3, 31, 0, 0, 0) := rfl
theorem fX4_edge_29 : fetch tX4_edge 29 = some (.bipush (-3), 2, 0, 0, (-3), 0) := rfl
theorem fX4_edge_31 : fetch tX4_edge 31 = some (.ireturn, 1, 0, 0, 0, 0) := rfl
def tX4_edgeBetween : List (Nat × TE) := [(0, .iload_n 1, 1, 1, 0, 0, 0), (1, .invokestatic 50, 3, 0, 4, 0, 0), (4, .ifCond .eq 19, 3, 23, 0, 0, 0), (7, .iload_n 2, 1, 2, 0, 0, 0), (8, .invokestatic 50, 3, 0, 4, 0, 0), (11, .ifCond .eq 12, 3, 23, 0, 0, 0), (14, .aload_n 0, 1, 0, 0, 0, 0), (15, .iload_n 1, 1, 1, 0, 0, 0), (16, .iload_n 2, 1, 2, 0, 0, 0), (17, .invokevirtual 54, 3, 1, 4, 0, 0), (20, .goto 5, 3, 25, 0, 0, 0), (23, .bipush (-2), 2, 0, 0, (-2), 0), (25, .ireturn, 1, 0, 0, 0, 0)]
theorem tkX4_edgeBetween : tOk cX4_edgeBetween "RumourSourceModel" 3 tX4_edgeBetween = true := by decide +kernel
theorem fX4_edgeBetween_0 : fetch tX4_edgeBetween 0 = some (.iload_n 1, 1, 1, 0, 0, 0) := rfl
theorem fX4_edgeBetween_1 : fetch tX4_edgeBetween 1 = some (.invokestatic 50, 3, 0, 4, 0, 0) := rfl
theorem fX4_edgeBetween_4 : fetch tX4_edgeBetween 4 = some (.ifCond .eq 19, 3, 23, 0, 0, 0) := rfl
theorem fX4_edgeBetween_7 : fetch tX4_edgeBetween 7 = some (.iload_n 2, 1, 2, 0, 0, 0) := rfl
theorem fX4_edgeBetween_8 : fetch tX4_edgeBetween 8 = some (.invokestatic 50, 3, 0, 4, 0, 0) := rfl
theorem fX4_edgeBetween_11 : fetch tX4_edgeBetween 11 = some (.ifCond .eq 12, 3, 23, 0, 0, 0) := rfl
theorem fX4_edgeBetween_14 : fetch tX4_edgeBetween 14 = some (.aload_n 0, 1, 0, 0, 0, 0) := rfl
theorem fX4_edgeBetween_15 : fetch tX4_edgeBetween 15 = some (.iload_n 1, 1, 1, 0, 0, 0) := rfl
theorem fX4_edgeBetween_16 : fetch tX4_edgeBetween 16 = some (.iload_n 2, 1, 2, 0, 0, 0) := rfl
theorem fX4_edgeBetween_17 : fetch tX4_edgeBetween 17 = some (.invokevirtual 54, 3, 1, 4, 0, 0) := rfl
theorem fX4_edgeBetween_20 : fetch tX4_edgeBetween 20 = some (.goto 5, 3, 25, 0, 0, 0) := rfl
theorem fX4_edgeBetween_23 : fetch tX4_edgeBetween 23 = some (.bipush (-2), 2, 0, 0, (-2), 0) := rfl
theorem fX4_edgeBetween_25 : fetch tX4_edgeBetween 25 = some (.ireturn, 1, 0, 0, 0, 0) := rfl
def tX4_setHorizon : List (Nat × TE) := [(0, .iload_n 1, 1, 1, 0, 0, 0), (1, .iconst 0, 1, 0, 0, 0, 0), (2, .bipush 30, 2, 0, 0, 30, 0), (4, .invokestatic 42, 3, 0, 4, 0, 0), (7, .ifCond .ne 6, 3, 13, 0, 0, 0), (10, .bipush (-3), 2, 0, 0, (-3), 0), (12, .ireturn, 1, 0, 0, 0, 0), (13, .aload_n 0, 1, 0, 0, 0, 0), (14, .invokevirtual 57, 3, 1, 4, 0, 0), (17, .aload_n 0, 1, 0, 0, 0, 0), (18, .getfield 7, 3, 4, 0, 0, 0), (21, .iconst 1, 1, 0, 0, 1, 0), (22, .iaload, 1, 0, 0, 0, 0), (23, .istore_n 2, 1, 2, 0, 0, 0), (24, .aload_n 0, 1, 0, 0, 0, 0), (25, .getfield 7, 3, 4, 0, 0, 0), (28, .iconst 1, 1, 0, 0, 1, 0), (29, .iload_n 1, 1, 1, 0, 0, 0), (30, .iastore, 1, 0, 0, 0, 0), (31, .iload_n 2, 1, 2, 0, 0, 0), (32, .ireturn, 1, 0, 0, 0, 0)]
theorem tkX4_setHorizon : tOk cX4_setHorizon "RumourSourceModel" 3 tX4_setHorizon = true := by decide +kernel
theorem fX4_setHorizon_0 : fetch tX4_setHorizon 0 = some (.iload_n 1, 1, 1, 0, 0, 0) := rfl
theorem fX4_setHorizon_1 : fetch tX4_setHorizon 1 = some (.iconst 0, 1, 0, 0, 0, 0) := rfl
theorem fX4_setHorizon_2 : fetch tX4_setHorizon 2 = some (.bipush 30, 2, 0, 0, 30, 0) := rfl
theorem fX4_setHorizon_4 : fetch tX4_setHorizon 4 = some (.invokestatic 42, 3, 0, 4, 0, 0) := rfl
theorem fX4_setHorizon_7 : fetch tX4_setHorizon 7 = some (.ifCond .ne 6, 3, 13, 0, 0, 0) := rfl
theorem fX4_setHorizon_10 : fetch tX4_setHorizon 10 = some (.bipush (-3), 2, 0, 0, (-3), 0) := rfl
theorem fX4_setHorizon_12 : fetch tX4_setHorizon 12 = some (.ireturn, 1, 0, 0, 0, 0) := rfl
theorem fX4_setHorizon_13 : fetch tX4_setHorizon 13 = some (.aload_n 0, 1, 0, 0, 0, 0) := rfl
theorem fX4_setHorizon_14 : fetch tX4_setHorizon 14 = some (.invokevirtual 57, 3, 1, 4, 0, 0) := rfl
theorem fX4_setHorizon_17 : fetch tX4_setHorizon 17 = some (.aload_n 0, 1, 0, 0, 0, 0) := rfl
theorem fX4_setHorizon_18 : fetch tX4_setHorizon 18 = some (.getfield 7, 3, 4, 0, 0, 0) := rfl
theorem fX4_setHorizon_21 : fetch tX4_setHorizon 21 = some (.iconst 1, 1, 0, 0, 1, 0) := rfl
theorem fX4_setHorizon_22 : fetch tX4_setHorizon 22 = some (.iaload, 1, 0, 0, 0, 0) := rfl
theorem fX4_setHorizon_23 : fetch tX4_setHorizon 23 = some (.istore_n 2, 1, 2, 0, 0, 0) := rfl
theorem fX4_setHorizon_24 : fetch tX4_setHorizon 24 = some (.aload_n 0, 1, 0, 0, 0, 0) := rfl
theorem fX4_setHorizon_25 : fetch tX4_setHorizon 25 = some (.getfield 7, 3, 4, 0, 0, 0) := rfl
theorem fX4_setHorizon_28 : fetch tX4_setHorizon 28 = some (.iconst 1, 1, 0, 0, 1, 0) := rfl
theorem fX4_setHorizon_29 : fetch tX4_setHorizon 29 = some (.iload_n 1, 1, 1, 0, 0, 0) := rfl
theorem fX4_setHorizon_30 : fetch tX4_setHorizon 30 = some (.iastore, 1, 0, 0, 0, 0) := rfl
theorem fX4_setHorizon_31 : fetch tX4_setHorizon 31 = some (.iload_n 2, 1, 2, 0, 0, 0) := rfl
theorem fX4_setHorizon_32 : fetch tX4_setHorizon 32 = some (.ireturn, 1, 0, 0, 0, 0) := rfl
def tX4_hears : List (Nat × TE) := [(0, .iconst 0, 1, 0, 0, 0, 0), (1, .istore_n 3, 1, 3, 0, 0, 0), (2, .iload_n 3, 1, 3, 0, 0, 0), (3, .bipush 8, 2, 0, 0, 8, 0), (5, .if_icmp .ge 31, 3, 36, 0, 0, 0), (8, .aload_n 0, 1, 0, 0, 0, 0), (9, .getfield 13, 3, 4, 3, 0, 0), (12, .iload_n 3, 1, 3, 0, 0, 0), (13, .iload_n 1, 1, 1, 0, 0, 0), (14, .iload_n 3, 1, 3, 0, 0, 0), (15, .ishr, 1, 0, 0, 0, 0), (16, .iconst 1, 1, 0, 0, 1, 0), (17, .iand, 1, 0, 0, 0, 0), (18, .iconst 1, 1, 0, 0, 1, 0), (19, .if_icmp .ne 7, 3, 26, 0, 0, 0), (22, .iconst 0, 1, 0, 0, 0, 0), (23, .goto 6, 3, 29, 0, 0, 0), (26, .sipush 1000, 3, 0, 0, 1000, 0), (29, .iastore, 1, 0, 0, 0, 0), (30, .iinc 3 1, 3, 3, 0, 1, 0), (33, .goto (-31), 3, 2, 0, 0, 0), (36, .iconst 1, 1, 0, 0, 1, 0), (37, .istore_n 3, 1, 3, 0, 0, 0), (38, .iload_n 3, 1, 3, 0, 0, 0), (39, .ifCond .eq 93, 3, 132, 0, 0, 0), (42, .iconst 0, 1, 0, 0, 0, 0), (43, .istore_n 3, 1, 3, 0, 0, 0), (44, .iconst 0, 1, 0, 0, 0, 0), (45, .istore 4, 2, 4, 0, 0, 0), (47, .iload 4, 2, 4, 0, 0, 0), (49, .aload_n 0, 1, 0, 0, 0, 0), (50, .getfield 7, 3, 4, 0, 0, 0), (53, .iconst 0, 1, 0, 0, 0, 0), (54, .iaload, 1, 0, 0, 0, 0), (55, .if_icmp .ge 74, 3, 129, 0, 0, 0), (58, .aload_n 0, 1, 0, 0, 0, 0), (59, .getfield 13, 3, 4, 3, 0, 0), (62, .aload_n 0, 1, 0, 0, 0, 0), (63, .iload 4, 2, 4, 0, 0, 0), (65, .iconst 0, 1, 0, 0, 0, 0), (66, .invokevirtual 46, 3, 0, 4, 0, 0), (69, .iaload, 1, 0, 0, 0, 0), (70, .aload_n 0, 1, 0, 0, 0, 0), (71, .iload 4, 2, 4, 0, 0, 0), (73, .iconst 3, 1, 0, 0, 3, 0), (74, .invokevirtual 46, 3, 0, 4, 0, 0), (77, .iadd, 1, 0, 0, 0, 0), (78, .istore 5, 2, 5, 0, 0, 0), (80, .iload_n 2, 1, 2, 0, 0, 0), (81, .iload 4, 2, 4, 0, 0, 0), (83, .ishr, 1, 0, 0, 0, 0), (84, .iconst 1, 1, 0, 0, 1, 0), (85, .iand, 1, 0, 0, 0, 0), (86, .iconst 1, 1, 0, 0, 1, 0), (87, .if_icmp .ne 36, 3, 123, 0, 0, 0), (90, .iload 5, 2, 5, 0, 0, 0), (92, .aload_n 0, 1, 0, 0, 0, 0), (93, .getfield 13, 3, 4, 3, 0, 0), (96, .aload_n 0, 1, 0, 0, 0, 0), (97, .iload 4, 2, 4, 0, 0, 0), (99, .iconst 1, 1, 0, 0, 1, 0), (100, .invokevirtual 46, 3, 0, 4, 0, 0), (103, .iaload, 1, 0, 0, 0, 0), (104, .if_icmp .ge 19, 3, 123, 0, 0, 0), (107, .aload_n 0, 1, 0, 0, 0, 0), (108, .getfield 13, 3, 4, 3, 0, 0), (111, .aload_n 0, 1, 0, 0, 0, 0), (112, .iload 4, 2, 4, 0, 0, 0), (114, .iconst 1, 1, 0, 0, 1, 0), (115, .invokevirtual 46, 3, 0, 4, 0, 0), (118, .iload 5, 2, 5, 0, 0, 0), (120, .iastore, 1, 0, 0, 0, 0), (121, .iconst 1, 1, 0, 0, 1, 0), (122, .istore_n 3, 1, 3, 0, 0, 0), (123, .iinc 4 1, 3, 4, 0, 1, 0), (126, .goto (-79), 3, 47, 0, 0, 0), (129, .goto (-91), 3, 38, 0, 0, 0), (132, .iconst 0, 1, 0, 0, 0, 0), (133, .istore 4, 2, 4, 0, 0, 0), (135, .iload 4, 2, 4, 0, 0, 0), (137, .bipush 8, 2, 0, 0, 8, 0), (139, .if_icmp .ge 45, 3, 184, 0, 0, 0), (142, .aload_n 0, 1, 0, 0, 0, 0), (143, .getfield 13, 3, 4, 3, 0, 0), (146, .iload 4, 2, 4, 0, 0, 0), (148, .aload_n 0, 1, 0, 0, 0, 0), (149, .getfield 13, 3, 4, 3, 0, 0), (152, .iload 4, 2, 4, 0, 0, 0), (154, .iaload, 1, 0, 0, 0, 0), (155, .aload_n 0, 1, 0, 0, 0, 0), (156, .getfield 7, 3, 4, 0, 0, 0), (159, .iconst 1, 1, 0, 0, 1, 0), (160, .iaload, 1, 0, 0, 0, 0), (161, .if_icmp .le 9, 3, 170, 0, 0, 0), (164, .sipush 1000, 3, 0, 0, 1000, 0), (167, .goto 10, 3, 177, 0, 0, 0), (170, .aload_n 0, 1, 0, 0, 0, 0), (171, .getfield 13, 3, 4, 3, 0, 0), (174, .iload 4, 2, 4, 0, 0, 0), (176, .iaload, 1, 0, 0, 0, 0), (177, .iastore, 1, 0, 0, 0, 0), (178, .iinc 4 1, 3, 4, 0, 1, 0), (181, .goto (-46), 3, 135, 0, 0, 0), (184, .return_, 1, 0, 0, 0, 0)]
theorem tkX4_hears : tOk cX4_hears "RumourSourceModel" 6 tX4_hears = true := by decide +kernel
theorem fX4_hears_0 : fetch tX4_hears 0 = some (.iconst 0, 1, 0, 0, 0, 0) := rfl
theorem fX4_hears_1 : fetch tX4_hears 1 = some (.istore_n 3, 1, 3, 0, 0, 0) := rfl
theorem fX4_hears_2 : fetch tX4_hears 2 = some (.iload_n 3, 1, 3, 0, 0, 0) := rfl
theorem fX4_hears_3 : fetch tX4_hears 3 = some (.bipush 8, 2, 0, 0, 8, 0) := rfl
theorem fX4_hears_5 : fetch tX4_hears 5 = some (.if_icmp .ge 31, 3, 36, 0, 0, 0) := rfl
theorem fX4_hears_8 : fetch tX4_hears 8 = some (.aload_n 0, 1, 0, 0, 0, 0) := rfl
theorem fX4_hears_9 : fetch tX4_hears 9 = some (.getfield 13, 3, 4, 3, 0, 0) := rfl
theorem fX4_hears_12 : fetch tX4_hears 12 = some (.iload_n 3, 1, 3, 0, 0, 0) := rfl
theorem fX4_hears_13 : fetch tX4_hears 13 = some (.iload_n 1, 1, 1, 0, 0, 0) := rfl
theorem fX4_hears_14 : fetch tX4_hears 14 = some (.iload_n 3, 1, 3, 0, 0, 0) := rfl
theorem fX4_hears_15 : fetch tX4_hears 15 = some (.ishr, 1, 0, 0, 0, 0) := rfl
theorem fX4_hears_16 : fetch tX4_hears 16 = some (.iconst 1, 1, 0, 0, 1, 0) := rfl
theorem fX4_hears_17 : fetch tX4_hears 17 = some (.iand, 1, 0, 0, 0, 0) := rfl
theorem fX4_hears_18 : fetch tX4_hears 18 = some (.iconst 1, 1, 0, 0, 1, 0) := rfl
theorem fX4_hears_19 : fetch tX4_hears 19 = some (.if_icmp .ne 7, 3, 26, 0, 0, 0) := rfl
theorem fX4_hears_22 : fetch tX4_hears 22 = some (.iconst 0, 1, 0, 0, 0, 0) := rfl
theorem fX4_hears_23 : fetch tX4_hears 23 = some (.goto 6, 3, 29, 0, 0, 0) := rfl
theorem fX4_hears_26 : fetch tX4_hears 26 = some (.sipush 1000, 3, 0, 0, 1000, 0) := rfl
theorem fX4_hears_29 : fetch tX4_hears 29 = some (.iastore, 1, 0, 0, 0, 0) := rfl
theorem fX4_hears_30 : fetch tX4_hears 30 = some (.iinc 3 1, 3, 3, 0, 1, 0) := rfl
theorem fX4_hears_33 : fetch tX4_hears 33 = some (.goto (-31), 3, 2, 0, 0, 0) := rfl
theorem fX4_hears_36 : fetch tX4_hears 36 = some (.iconst 1, 1, 0, 0, 1, 0) := rfl
theorem fX4_hears_37 : fetch tX4_hears 37 = some (.istore_n 3, 1, 3, 0, 0, 0) := rfl
theorem fX4_hears_38 : fetch tX4_hears 38 = some (.iload_n 3, 1, 3, 0, 0, 0) := rfl
theorem fX4_hears_39 : fetch tX4_hears 39 = some (.ifCond .eq 93, 3, 132, 0, 0, 0) := rfl
theorem fX4_hears_42 : fetch tX4_hears 42 = some (.iconst 0, 1, 0, 0, 0, 0) := rfl
theorem fX4_hears_43 : fetch tX4_hears 43 = some (.istore_n 3, 1, 3, 0, 0, 0) := rfl
theorem fX4_hears_44 : fetch tX4_hears 44 = some (.iconst 0, 1, 0, 0, 0, 0) := rfl
theorem fX4_hears_45 : fetch tX4_hears 45 = some (.istore 4, 2, 4, 0, 0, 0) := rfl
theorem fX4_hears_47 : fetch tX4_hears 47 = some (.iload 4, 2, 4, 0, 0, 0) := rfl
theorem fX4_hears_49 : fetch tX4_hears 49 = some (.aload_n 0, 1, 0, 0, 0, 0) := rfl
theorem fX4_hears_50 : fetch tX4_hears 50 = some (.getfield 7, 3, 4, 0, 0, 0) := rfl
theorem fX4_hears_53 : fetch tX4_hears 53 = some (.iconst 0, 1, 0, 0, 0, 0) := rfl
theorem fX4_hears_54 : fetch tX4_hears 54 = some (.iaload, 1, 0, 0, 0, 0) := rfl
theorem fX4_hears_55 : fetch tX4_hears 55 = some (.if_icmp .ge 74, 3, 129, 0, 0, 0) := rfl
theorem fX4_hears_58 : fetch tX4_hears 58 = some (.aload_n 0, 1, 0, 0, 0, 0) := rfl
theorem fX4_hears_59 : fetch tX4_hears 59 = some (.getfield 13, 3, 4, 3, 0, 0) := rfl
theorem fX4_hears_62 : fetch tX4_hears 62 = some (.aload_n 0, 1, 0, 0, 0, 0) := rfl
theorem fX4_hears_63 : fetch tX4_hears 63 = some (.iload 4, 2, 4, 0, 0, 0) := rfl
theorem fX4_hears_65 : fetch tX4_hears 65 = some (.iconst 0, 1, 0, 0, 0, 0) := rfl
theorem fX4_hears_66 : fetch tX4_hears 66 = some (.invokevirtual 46, 3, 0, 4, 0, 0) := rfl
theorem fX4_hears_69 : fetch tX4_hears 69 = some (.iaload, 1, 0, 0, 0, 0) := rfl
theorem fX4_hears_70 : fetch tX4_hears 70 = some (.aload_n 0, 1, 0, 0, 0, 0) := rfl
theorem fX4_hears_71 : fetch tX4_hears 71 = some (.iload 4, 2, 4, 0, 0, 0) := rfl
theorem fX4_hears_73 : fetch tX4_hears 73 = some (.iconst 3, 1, 0, 0, 3, 0) := rfl
theorem fX4_hears_74 : fetch tX4_hears 74 = some (.invokevirtual 46, 3, 0, 4, 0, 0) := rfl
theorem fX4_hears_77 : fetch tX4_hears 77 = some (.iadd, 1, 0, 0, 0, 0) := rfl
theorem fX4_hears_78 : fetch tX4_hears 78 = some (.istore 5, 2, 5, 0, 0, 0) := rfl
theorem fX4_hears_80 : fetch tX4_hears 80 = some (.iload_n 2, 1, 2, 0, 0, 0) := rfl
theorem fX4_hears_81 : fetch tX4_hears 81 = some (.iload 4, 2, 4, 0, 0, 0) := rfl
theorem fX4_hears_83 : fetch tX4_hears 83 = some (.ishr, 1, 0, 0, 0, 0) := rfl
theorem fX4_hears_84 : fetch tX4_hears 84 = some (.iconst 1, 1, 0, 0, 1, 0) := rfl
theorem fX4_hears_85 : fetch tX4_hears 85 = some (.iand, 1, 0, 0, 0, 0) := rfl
theorem fX4_hears_86 : fetch tX4_hears 86 = some (.iconst 1, 1, 0, 0, 1, 0) := rfl
theorem fX4_hears_87 : fetch tX4_hears 87 = some (.if_icmp .ne 36, 3, 123, 0, 0, 0) := rfl
theorem fX4_hears_90 : fetch tX4_hears 90 = some (.iload 5, 2, 5, 0, 0, 0) := rfl
theorem fX4_hears_92 : fetch tX4_hears 92 = some (.aload_n 0, 1, 0, 0, 0, 0) := rfl
theorem fX4_hears_93 : fetch tX4_hears 93 = some (.getfield 13, 3, 4, 3, 0, 0) := rfl
theorem fX4_hears_96 : fetch tX4_hears 96 = some (.aload_n 0, 1, 0, 0, 0, 0) := rfl
theorem fX4_hears_97 : fetch tX4_hears 97 = some (.iload 4, 2, 4, 0, 0, 0) := rfl
theorem fX4_hears_99 : fetch tX4_hears 99 = some (.iconst 1, 1, 0, 0, 1, 0) := rfl
theorem fX4_hears_100 : fetch tX4_hears 100 = some (.invokevirtual 46, 3, 0, 4, 0, 0) := rfl
theorem fX4_hears_103 : fetch tX4_hears 103 = some (.iaload, 1, 0, 0, 0, 0) := rfl
theorem fX4_hears_104 : fetch tX4_hears 104 = some (.if_icmp .ge 19, 3, 123, 0, 0, 0) := rfl
theorem fX4_hears_107 : fetch tX4_hears 107 = some (.aload_n 0, 1, 0, 0, 0, 0) := rfl
theorem fX4_hears_108 : fetch tX4_hears 108 = some (.getfield 13, 3, 4, 3, 0, 0) := rfl
theorem fX4_hears_111 : fetch tX4_hears 111 = some (.aload_n 0, 1, 0, 0, 0, 0) := rfl
theorem fX4_hears_112 : fetch tX4_hears 112 = some (.iload 4, 2, 4, 0, 0, 0) := rfl
theorem fX4_hears_114 : fetch tX4_hears 114 = some (.iconst 1, 1, 0, 0, 1, 0) := rfl
theorem fX4_hears_115 : fetch tX4_hears 115 = some (.invokevirtual 46, 3, 0, 4, 0, 0) := rfl
theorem fX4_hears_118 : fetch tX4_hears 118 = some (.iload 5, 2, 5, 0, 0, 0) := rfl
theorem fX4_hears_120 : fetch tX4_hears 120 = some (.iastore, 1, 0, 0, 0, 0) := rfl
theorem fX4_hears_121 : fetch tX4_hears 121 = some (.iconst 1, 1, 0, 0, 1, 0) := rfl
theorem fX4_hears_122 : fetch tX4_hears 122 = some (.istore_n 3, 1, 3, 0, 0, 0) := rfl
theorem fX4_hears_123 : fetch tX4_hears 123 = some (.iinc 4 1, 3, 4, 0, 1, 0) := rfl
theorem fX4_hears_126 : fetch tX4_hears 126 = some (.goto (-79), 3, 47, 0, 0, 0) := rfl
theorem fX4_hears_129 : fetch tX4_hears 129 = some (.goto (-91), 3, 38, 0, 0, 0) := rfl
theorem fX4_hears_132 : fetch tX4_hears 132 = some (.iconst 0, 1, 0, 0, 0, 0) := rfl
theorem fX4_hears_133 : fetch tX4_hears 133 = some (.istore 4, 2, 4, 0, 0, 0) := rfl
theorem fX4_hears_135 : fetch tX4_hears 135 = some (.iload 4, 2, 4, 0, 0, 0) := rfl
theorem fX4_hears_137 : fetch tX4_hears 137 = some (.bipush 8, 2, 0, 0, 8, 0) := rfl
theorem fX4_hears_139 : fetch tX4_hears 139 = some (.if_icmp .ge 45, 3, 184, 0, 0, 0) := rfl
theorem fX4_hears_142 : fetch tX4_hears 142 = some (.aload_n 0, 1, 0, 0, 0, 0) := rfl
theorem fX4_hears_143 : fetch tX4_hears 143 = some (.getfield 13, 3, 4, 3, 0, 0) := rfl
theorem fX4_hears_146 : fetch tX4_hears 146 = some (.iload 4, 2, 4, 0, 0, 0) := rfl
theorem fX4_hears_148 : fetch tX4_hears 148 = some (.aload_n 0, 1, 0, 0, 0, 0) := rfl
theorem fX4_hears_149 : fetch tX4_hears 149 = some (.getfield 13, 3, 4, 3, 0, 0) := rfl
theorem fX4_hears_152 : fetch tX4_hears 152 = some (.iload 4, 2, 4, 0, 0, 0) := rfl
theorem fX4_hears_154 : fetch tX4_hears 154 = some (.iaload, 1, 0, 0, 0, 0) := rfl
theorem fX4_hears_155 : fetch tX4_hears 155 = some (.aload_n 0, 1, 0, 0, 0, 0) := rfl
theorem fX4_hears_156 : fetch tX4_hears 156 = some (.getfield 7, 3, 4, 0, 0, 0) := rfl
theorem fX4_hears_159 : fetch tX4_hears 159 = some (.iconst 1, 1, 0, 0, 1, 0) := rfl
theorem fX4_hears_160 : fetch tX4_hears 160 = some (.iaload, 1, 0, 0, 0, 0) := rfl
theorem fX4_hears_161 : fetch tX4_hears 161 = some (.if_icmp .le 9, 3, 170, 0, 0, 0) := rfl
theorem fX4_hears_164 : fetch tX4_hears 164 = some (.sipush 1000, 3, 0, 0, 1000, 0) := rfl
theorem fX4_hears_167 : fetch tX4_hears 167 = some (.goto 10, 3, 177, 0, 0, 0) := rfl
theorem fX4_hears_170 : fetch tX4_hears 170 = some (.aload_n 0, 1, 0, 0, 0, 0) := rfl
theorem fX4_hears_171 : fetch tX4_hears 171 = some (.getfield 13, 3, 4, 3, 0, 0) := rfl
theorem fX4_hears_174 : fetch tX4_hears 174 = some (.iload 4, 2, 4, 0, 0, 0) := rfl
theorem fX4_hears_176 : fetch tX4_hears 176 = some (.iaload, 1, 0, 0, 0, 0) := rfl
theorem fX4_hears_177 : fetch tX4_hears 177 = some (.iastore, 1, 0, 0, 0, 0) := rfl
theorem fX4_hears_178 : fetch tX4_hears 178 = some (.iinc 4 1, 3, 4, 0, 1, 0) := rfl
theorem fX4_hears_181 : fetch tX4_hears 181 = some (.goto (-46), 3, 135, 0, 0, 0) := rfl
theorem fX4_hears_184 : fetch tX4_hears 184 = some (.return_, 1, 0, 0, 0, 0) := rfl
def tX4_told : List (Nat × TE) := [(0, .iload_n 0, 1, 0, 0, 0, 0), (1, .sipush 1000, 3, 0, 0, 1000, 0), (4, .if_icmp .ne 7, 3, 11, 0, 0, 0), (7, .iconst (-1), 1, 0, 0, (-1), 0), (8, .goto 4, 3, 12, 0, 0, 0), (11, .iload_n 0, 1, 0, 0, 0, 0), (12, .ireturn, 1, 0, 0, 0, 0)]
theorem tkX4_told : tOk cX4_told "RumourSourceModel" 1 tX4_told = true := by decide +kernel
theorem fX4_told_0 : fetch tX4_told 0 = some (.iload_n 0, 1, 0, 0, 0, 0) := rfl
theorem fX4_told_1 : fetch tX4_told 1 = some (.sipush 1000, 3, 0, 0, 1000, 0) := rfl
theorem fX4_told_4 : fetch tX4_told 4 = some (.if_icmp .ne 7, 3, 11, 0, 0, 0) := rfl
theorem fX4_told_7 : fetch tX4_told 7 = some (.iconst (-1), 1, 0, 0, (-1), 0) := rfl
theorem fX4_told_8 : fetch tX4_told 8 = some (.goto 4, 3, 12, 0, 0, 0) := rfl
theorem fX4_told_11 : fetch tX4_told 11 = some (.iload_n 0, 1, 0, 0, 0, 0) := rfl
theorem fX4_told_12 : fetch tX4_told 12 = some (.ireturn, 1, 0, 0, 0, 0) := rfl
def tX4_isFit : List (Nat × TE) := [(0, .iconst 1, 1, 0, 0, 1, 0), (1, .istore_n 1, 1, 1, 0, 0, 0), (2, .iconst 0, 1, 0, 0, 0, 0), (3, .istore_n 2, 1, 2, 0, 0, 0), (4, .iload_n 2, 1, 2, 0, 0, 0), (5, .bipush 8, 2, 0, 0, 8, 0), (7, .if_icmp .ge 54, 3, 61, 0, 0, 0), (10, .iload_n 1, 1, 1, 0, 0, 0), (11, .ifCond .eq 42, 3, 53, 0, 0, 0), (14, .aload_n 0, 1, 0, 0, 0, 0), (15, .getfield 7, 3, 4, 0, 0, 0), (18, .bipush 51, 2, 0, 0, 51, 0), (20, .iload_n 2, 1, 2, 0, 0, 0), (21, .iadd, 1, 0, 0, 0, 0), (22, .iaload, 1, 0, 0, 0, 0), (23, .bipush 100, 2, 0, 0, 100, 0), (25, .if_icmp .eq 24, 3, 49, 0, 0, 0), (28, .aload_n 0, 1, 0, 0, 0, 0), (29, .getfield 7, 3, 4, 0, 0, 0), (32, .bipush 51, 2, 0, 0, 51, 0), (34, .iload_n 2, 1, 2, 0, 0, 0), (35, .iadd, 1, 0, 0, 0, 0), (36, .iaload, 1, 0, 0, 0, 0), (37, .aload_n 0, 1, 0, 0, 0, 0), (38, .getfield 13, 3, 4, 3, 0, 0), (41, .iload_n 2, 1, 2, 0, 0, 0), (42, .iaload, 1, 0, 0, 0, 0), (43, .invokestatic 67, 3, 0, 4, 0, 0), (46, .if_icmp .ne 7, 3, 53, 0, 0, 0), (49, .iconst 1, 1, 0, 0, 1, 0), (50, .goto 4, 3, 54, 0, 0, 0), (53, .iconst 0, 1, 0, 0, 0, 0), (54, .istore_n 1, 1, 1, 0, 0, 0), (55, .iinc 2 1, 3, 2, 0, 1, 0), (58, .goto (-54), 3, 4, 0, 0, 0), (61, .iload_n 1, 1, 1, 0, 0, 0), (62, .ireturn, 1, 0, 0, 0, 0)]
theorem tkX4_isFit : tOk cX4_isFit "RumourSourceModel" 3 tX4_isFit = true := by decide +kernel
theorem fX4_isFit_0 : fetch tX4_isFit 0 = some (.iconst 1, 1, 0, 0, 1, 0) := rfl
theorem fX4_isFit_1 : fetch tX4_isFit 1 = some (.istore_n 1, 1, 1, 0, 0, 0) := rfl
theorem fX4_isFit_2 : fetch tX4_isFit 2 = some (.iconst 0, 1, 0, 0, 0, 0) := rfl
theorem fX4_isFit_3 : fetch tX4_isFit 3 = some (.istore_n 2, 1, 2, 0, 0, 0) := rfl
theorem fX4_isFit_4 : fetch tX4_isFit 4 = some (.iload_n 2, 1, 2, 0, 0, 0) := rfl
theorem fX4_isFit_5 : fetch tX4_isFit 5 = some (.bipush 8, 2, 0, 0, 8, 0) := rfl
theorem fX4_isFit_7 : fetch tX4_isFit 7 = some (.if_icmp .ge 54, 3, 61, 0, 0, 0) := rfl
theorem fX4_isFit_10 : fetch tX4_isFit 10 = some (.iload_n 1, 1, 1, 0, 0, 0) := rfl
theorem fX4_isFit_11 : fetch tX4_isFit 11 = some (.ifCond .eq 42, 3, 53, 0, 0, 0) := rfl
theorem fX4_isFit_14 : fetch tX4_isFit 14 = some (.aload_n 0, 1, 0, 0, 0, 0) := rfl
theorem fX4_isFit_15 : fetch tX4_isFit 15 = some (.getfield 7, 3, 4, 0, 0, 0) := rfl
theorem fX4_isFit_18 : fetch tX4_isFit 18 = some (.bipush 51, 2, 0, 0, 51, 0) := rfl
theorem fX4_isFit_20 : fetch tX4_isFit 20 = some (.iload_n 2, 1, 2, 0, 0, 0) := rfl
theorem fX4_isFit_21 : fetch tX4_isFit 21 = some (.iadd, 1, 0, 0, 0, 0) := rfl
theorem fX4_isFit_22 : fetch tX4_isFit 22 = some (.iaload, 1, 0, 0, 0, 0) := rfl
theorem fX4_isFit_23 : fetch tX4_isFit 23 = some (.bipush 100, 2, 0, 0, 100, 0) := rfl
theorem fX4_isFit_25 : fetch tX4_isFit 25 = some (.if_icmp .eq 24, 3, 49, 0, 0, 0) := rfl
theorem fX4_isFit_28 : fetch tX4_isFit 28 = some (.aload_n 0, 1, 0, 0, 0, 0) := rfl
theorem fX4_isFit_29 : fetch tX4_isFit 29 = some (.getfield 7, 3, 4, 0, 0, 0) := rfl
theorem fX4_isFit_32 : fetch tX4_isFit 32 = some (.bipush 51, 2, 0, 0, 51, 0) := rfl
theorem fX4_isFit_34 : fetch tX4_isFit 34 = some (.iload_n 2, 1, 2, 0, 0, 0) := rfl
theorem fX4_isFit_35 : fetch tX4_isFit 35 = some (.iadd, 1, 0, 0, 0, 0) := rfl
theorem fX4_isFit_36 : fetch tX4_isFit 36 = some (.iaload, 1, 0, 0, 0, 0) := rfl
theorem fX4_isFit_37 : fetch tX4_isFit 37 = some (.aload_n 0, 1, 0, 0, 0, 0) := rfl
theorem fX4_isFit_38 : fetch tX4_isFit 38 = some (.getfield 13, 3, 4, 3, 0, 0) := rfl
theorem fX4_isFit_41 : fetch tX4_isFit 41 = some (.iload_n 2, 1, 2, 0, 0, 0) := rfl
theorem fX4_isFit_42 : fetch tX4_isFit 42 = some (.iaload, 1, 0, 0, 0, 0) := rfl
theorem fX4_isFit_43 : fetch tX4_isFit 43 = some (.invokestatic 67, 3, 0, 4, 0, 0) := rfl
theorem fX4_isFit_46 : fetch tX4_isFit 46 = some (.if_icmp .ne 7, 3, 53, 0, 0, 0) := rfl
theorem fX4_isFit_49 : fetch tX4_isFit 49 = some (.iconst 1, 1, 0, 0, 1, 0) := rfl
theorem fX4_isFit_50 : fetch tX4_isFit 50 = some (.goto 4, 3, 54, 0, 0, 0) := rfl
theorem fX4_isFit_53 : fetch tX4_isFit 53 = some (.iconst 0, 1, 0, 0, 0, 0) := rfl
theorem fX4_isFit_54 : fetch tX4_isFit 54 = some (.istore_n 1, 1, 1, 0, 0, 0) := rfl
theorem fX4_isFit_55 : fetch tX4_isFit 55 = some (.iinc 2 1, 3, 2, 0, 1, 0) := rfl
theorem fX4_isFit_58 : fetch tX4_isFit 58 = some (.goto (-54), 3, 4, 0, 0, 0) := rfl
theorem fX4_isFit_61 : fetch tX4_isFit 61 = some (.iload_n 1, 1, 1, 0, 0, 0) := rfl
theorem fX4_isFit_62 : fetch tX4_isFit 62 = some (.ireturn, 1, 0, 0, 0, 0) := rfl
def tX4_weightOf : List (Nat × TE) := [(0, .lconst 1, 1, 0, 0, 0, 1), (1, .lstore_n 2, 1, 2, 0, 0, 0), (2, .iconst 0, 1, 0, 0, 0, 0), (3, .istore 4, 2, 4, 0, 0, 0), (5, .iload 4, 2, 4, 0, 0, 0), (7, .aload_n 0, 1, 0, 0, 0, 0), (8, .getfield 7, 3, 4, 0, 0, 0), (11, .iconst 0, 1, 0, 0, 0, 0), (12, .iaload, 1, 0, 0, 0, 0), (13, .if_icmp .ge 44, 3, 57, 0, 0, 0), (16, .lload_n 2, 1, 2, 0, 0, 0), (17, .iload_n 1, 1, 1, 0, 0, 0), (18, .iload 4, 2, 4, 0, 0, 0), (20, .ishr, 1, 0, 0, 0, 0), (21, .iconst 1, 1, 0, 0, 1, 0), (22, .iand, 1, 0, 0, 0, 0), (23, .iconst 1, 1, 0, 0, 1, 0), (24, .if_icmp .ne 14, 3, 38, 0, 0, 0), (27, .aload_n 0, 1, 0, 0, 0, 0), (28, .iload 4, 2, 4, 0, 0, 0), (30, .iconst 2, 1, 0, 0, 2, 0), (31, .invokevirtual 46, 3, 0, 4, 0, 0), (34, .i2l, 1, 0, 0, 0, 0), (35, .goto 14, 3, 49, 0, 0, 0), (38, .bipush 10, 2, 0, 0, 10, 0), (40, .aload_n 0, 1, 0, 0, 0, 0), (41, .iload 4, 2, 4, 0, 0, 0), (43, .iconst 2, 1, 0, 0, 2, 0), (44, .invokevirtual 46, 3, 0, 4, 0, 0), (47, .isub, 1, 0, 0, 0, 0), (48, .i2l, 1, 0, 0, 0, 0), (49, .lmul, 1, 0, 0, 0, 0), (50, .lstore_n 2, 1, 2, 0, 0, 0), (51, .iinc 4 1, 3, 4, 0, 1, 0), (54, .goto (-49), 3, 5, 0, 0, 0), (57, .lload_n 2, 1, 2, 0, 0, 0), (58, .lreturn, 1, 0, 0, 0, 0)]
theorem tkX4_weightOf : tOk cX4_weightOf "RumourSourceModel" 5 tX4_weightOf = true := by decide +kernel
theorem fX4_weightOf_0 : fetch tX4_weightOf 0 = some (.lconst 1, 1, 0, 0, 0, 1) := rfl
theorem fX4_weightOf_1 : fetch tX4_weightOf 1 = some (.lstore_n 2, 1, 2, 0, 0, 0) := rfl
theorem fX4_weightOf_2 : fetch tX4_weightOf 2 = some (.iconst 0, 1, 0, 0, 0, 0) := rfl
theorem fX4_weightOf_3 : fetch tX4_weightOf 3 = some (.istore 4, 2, 4, 0, 0, 0) := rfl
theorem fX4_weightOf_5 : fetch tX4_weightOf 5 = some (.iload 4, 2, 4, 0, 0, 0) := rfl
theorem fX4_weightOf_7 : fetch tX4_weightOf 7 = some (.aload_n 0, 1, 0, 0, 0, 0) := rfl
theorem fX4_weightOf_8 : fetch tX4_weightOf 8 = some (.getfield 7, 3, 4, 0, 0, 0) := rfl
theorem fX4_weightOf_11 : fetch tX4_weightOf 11 = some (.iconst 0, 1, 0, 0, 0, 0) := rfl
theorem fX4_weightOf_12 : fetch tX4_weightOf 12 = some (.iaload, 1, 0, 0, 0, 0) := rfl
theorem fX4_weightOf_13 : fetch tX4_weightOf 13 = some (.if_icmp .ge 44, 3, 57, 0, 0, 0) := rfl
theorem fX4_weightOf_16 : fetch tX4_weightOf 16 = some (.lload_n 2, 1, 2, 0, 0, 0) := rfl
theorem fX4_weightOf_17 : fetch tX4_weightOf 17 = some (.iload_n 1, 1, 1, 0, 0, 0) := rfl
theorem fX4_weightOf_18 : fetch tX4_weightOf 18 = some (.iload 4, 2, 4, 0, 0, 0) := rfl
theorem fX4_weightOf_20 : fetch tX4_weightOf 20 = some (.ishr, 1, 0, 0, 0, 0) := rfl
theorem fX4_weightOf_21 : fetch tX4_weightOf 21 = some (.iconst 1, 1, 0, 0, 1, 0) := rfl
theorem fX4_weightOf_22 : fetch tX4_weightOf 22 = some (.iand, 1, 0, 0, 0, 0) := rfl
theorem fX4_weightOf_23 : fetch tX4_weightOf 23 = some (.iconst 1, 1, 0, 0, 1, 0) := rfl
theorem fX4_weightOf_24 : fetch tX4_weightOf 24 = some (.if_icmp .ne 14, 3, 38, 0, 0, 0) := rfl
theorem fX4_weightOf_27 : fetch tX4_weightOf 27 = some (.aload_n 0, 1, 0, 0, 0, 0) := rfl
theorem fX4_weightOf_28 : fetch tX4_weightOf 28 = some (.iload 4, 2, 4, 0, 0, 0) := rfl
theorem fX4_weightOf_30 : fetch tX4_weightOf 30 = some (.iconst 2, 1, 0, 0, 2, 0) := rfl
theorem fX4_weightOf_31 : fetch tX4_weightOf 31 = some (.invokevirtual 46, 3, 0, 4, 0, 0) := rfl
theorem fX4_weightOf_34 : fetch tX4_weightOf 34 = some (.i2l, 1, 0, 0, 0, 0) := rfl
theorem fX4_weightOf_35 : fetch tX4_weightOf 35 = some (.goto 14, 3, 49, 0, 0, 0) := rfl
theorem fX4_weightOf_38 : fetch tX4_weightOf 38 = some (.bipush 10, 2, 0, 0, 10, 0) := rfl
theorem fX4_weightOf_40 : fetch tX4_weightOf 40 = some (.aload_n 0, 1, 0, 0, 0, 0) := rfl
theorem fX4_weightOf_41 : fetch tX4_weightOf 41 = some (.iload 4, 2, 4, 0, 0, 0) := rfl
theorem fX4_weightOf_43 : fetch tX4_weightOf 43 = some (.iconst 2, 1, 0, 0, 2, 0) := rfl
theorem fX4_weightOf_44 : fetch tX4_weightOf 44 = some (.invokevirtual 46, 3, 0, 4, 0, 0) := rfl
theorem fX4_weightOf_47 : fetch tX4_weightOf 47 = some (.isub, 1, 0, 0, 0, 0) := rfl
theorem fX4_weightOf_48 : fetch tX4_weightOf 48 = some (.i2l, 1, 0, 0, 0, 0) := rfl
theorem fX4_weightOf_49 : fetch tX4_weightOf 49 = some (.lmul, 1, 0, 0, 0, 0) := rfl
theorem fX4_weightOf_50 : fetch tX4_weightOf 50 = some (.lstore_n 2, 1, 2, 0, 0, 0) := rfl
theorem fX4_weightOf_51 : fetch tX4_weightOf 51 = some (.iinc 4 1, 3, 4, 0, 1, 0) := rfl
theorem fX4_weightOf_54 : fetch tX4_weightOf 54 = some (.goto (-49), 3, 5, 0, 0, 0) := rfl
theorem fX4_weightOf_57 : fetch tX4_weightOf 57 = some (.lload_n 2, 1, 2, 0, 0, 0) := rfl
theorem fX4_weightOf_58 : fetch tX4_weightOf 58 = some (.lreturn, 1, 0, 0, 0, 0) := rfl
def tX4_isOutcome : List (Nat × TE) := [(0, .iload_n 1, 1, 1, 0, 0, 0), (1, .iconst 0, 1, 0, 0, 0, 0), (2, .iconst 1, 1, 0, 0, 1, 0), (3, .aload_n 0, 1, 0, 0, 0, 0), (4, .getfield 7, 3, 4, 0, 0, 0), (7, .iconst 0, 1, 0, 0, 0, 0), (8, .iaload, 1, 0, 0, 0, 0), (9, .ishl, 1, 0, 0, 0, 0), (10, .iconst 1, 1, 0, 0, 1, 0), (11, .isub, 1, 0, 0, 0, 0), (12, .invokestatic 42, 3, 0, 4, 0, 0), (15, .ireturn, 1, 0, 0, 0, 0)]
theorem tkX4_isOutcome : tOk cX4_isOutcome "RumourSourceModel" 2 tX4_isOutcome = true := by decide +kernel
theorem fX4_isOutcome_0 : fetch tX4_isOutcome 0 = some (.iload_n 1, 1, 1, 0, 0, 0) := rfl
theorem fX4_isOutcome_1 : fetch tX4_isOutcome 1 = some (.iconst 0, 1, 0, 0, 0, 0) := rfl
theorem fX4_isOutcome_2 : fetch tX4_isOutcome 2 = some (.iconst 1, 1, 0, 0, 1, 0) := rfl
theorem fX4_isOutcome_3 : fetch tX4_isOutcome 3 = some (.aload_n 0, 1, 0, 0, 0, 0) := rfl
theorem fX4_isOutcome_4 : fetch tX4_isOutcome 4 = some (.getfield 7, 3, 4, 0, 0, 0) := rfl
theorem fX4_isOutcome_7 : fetch tX4_isOutcome 7 = some (.iconst 0, 1, 0, 0, 0, 0) := rfl
theorem fX4_isOutcome_8 : fetch tX4_isOutcome 8 = some (.iaload, 1, 0, 0, 0, 0) := rfl
theorem fX4_isOutcome_9 : fetch tX4_isOutcome 9 = some (.ishl, 1, 0, 0, 0, 0) := rfl
theorem fX4_isOutcome_10 : fetch tX4_isOutcome 10 = some (.iconst 1, 1, 0, 0, 1, 0) := rfl
theorem fX4_isOutcome_11 : fetch tX4_isOutcome 11 = some (.isub, 1, 0, 0, 0, 0) := rfl
theorem fX4_isOutcome_12 : fetch tX4_isOutcome 12 = some (.invokestatic 42, 3, 0, 4, 0, 0) := rfl
theorem fX4_isOutcome_15 : fetch tX4_isOutcome 15 = some (.ireturn, 1, 0, 0, 0, 0) := rfl
def tX4_isStart : List (Nat × TE) := [(0, .iload_n 0, 1, 0, 0, 0, 0), (1, .iconst 1, 1, 0, 0, 1, 0), (2, .sipush 255, 3, 0, 0, 255, 0), (5, .invokestatic 42, 3, 0, 4, 0, 0), (8, .ireturn, 1, 0, 0, 0, 0)]
theorem tkX4_isStart : tOk cX4_isStart "RumourSourceModel" 1 tX4_isStart = true := by decide +kernel
theorem fX4_isStart_0 : fetch tX4_isStart 0 = some (.iload_n 0, 1, 0, 0, 0, 0) := rfl
theorem fX4_isStart_1 : fetch tX4_isStart 1 = some (.iconst 1, 1, 0, 0, 1, 0) := rfl
theorem fX4_isStart_2 : fetch tX4_isStart 2 = some (.sipush 255, 3, 0, 0, 255, 0) := rfl
theorem fX4_isStart_5 : fetch tX4_isStart 5 = some (.invokestatic 42, 3, 0, 4, 0, 0) := rfl
theorem fX4_isStart_8 : fetch tX4_isStart 8 = some (.ireturn, 1, 0, 0, 0, 0) := rfl
def tX4_becomes : List (Nat × TE) := [(0, .aload_n 0, 1, 0, 0, 0, 0), (1, .invokevirtual 57, 3, 0, 4, 0, 0), (4, .aload_n 0, 1, 0, 0, 0, 0), (5, .getfield 7, 3, 4, 0, 0, 0), (8, .bipush 51, 2, 0, 0, 51, 0), (10, .iload_n 1, 1, 1, 0, 0, 0), (11, .iadd, 1, 0, 0, 0, 0), (12, .iaload, 1, 0, 0, 0, 0), (13, .istore_n 3, 1, 3, 0, 0, 0), (14, .aload_n 0, 1, 0, 0, 0, 0), (15, .getfield 7, 3, 4, 0, 0, 0), (18, .bipush 51, 2, 0, 0, 51, 0), (20, .iload_n 1, 1, 1, 0, 0, 0), (21, .iadd, 1, 0, 0, 0, 0), (22, .iload_n 2, 1, 2, 0, 0, 0), (23, .iastore, 1, 0, 0, 0, 0), (24, .iload_n 3, 1, 3, 0, 0, 0), (25, .ireturn, 1, 0, 0, 0, 0)]
theorem tkX4_becomes : tOk cX4_becomes "RumourSourceModel" 4 tX4_becomes = true := by decide +kernel
theorem fX4_becomes_0 : fetch tX4_becomes 0 = some (.aload_n 0, 1, 0, 0, 0, 0) := rfl
theorem fX4_becomes_1 : fetch tX4_becomes 1 = some (.invokevirtual 57, 3, 0, 4, 0, 0) := rfl
theorem fX4_becomes_4 : fetch tX4_becomes 4 = some (.aload_n 0, 1, 0, 0, 0, 0) := rfl
theorem fX4_becomes_5 : fetch tX4_becomes 5 = some (.getfield 7, 3, 4, 0, 0, 0) := rfl
theorem fX4_becomes_8 : fetch tX4_becomes 8 = some (.bipush 51, 2, 0, 0, 51, 0) := rfl
theorem fX4_becomes_10 : fetch tX4_becomes 10 = some (.iload_n 1, 1, 1, 0, 0, 0) := rfl
theorem fX4_becomes_11 : fetch tX4_becomes 11 = some (.iadd, 1, 0, 0, 0, 0) := rfl
theorem fX4_becomes_12 : fetch tX4_becomes 12 = some (.iaload, 1, 0, 0, 0, 0) := rfl
theorem fX4_becomes_13 : fetch tX4_becomes 13 = some (.istore_n 3, 1, 3, 0, 0, 0) := rfl
theorem fX4_becomes_14 : fetch tX4_becomes 14 = some (.aload_n 0, 1, 0, 0, 0, 0) := rfl
theorem fX4_becomes_15 : fetch tX4_becomes 15 = some (.getfield 7, 3, 4, 0, 0, 0) := rfl
theorem fX4_becomes_18 : fetch tX4_becomes 18 = some (.bipush 51, 2, 0, 0, 51, 0) := rfl
theorem fX4_becomes_20 : fetch tX4_becomes 20 = some (.iload_n 1, 1, 1, 0, 0, 0) := rfl
theorem fX4_becomes_21 : fetch tX4_becomes 21 = some (.iadd, 1, 0, 0, 0, 0) := rfl
theorem fX4_becomes_22 : fetch tX4_becomes 22 = some (.iload_n 2, 1, 2, 0, 0, 0) := rfl
theorem fX4_becomes_23 : fetch tX4_becomes 23 = some (.iastore, 1, 0, 0, 0, 0) := rfl
theorem fX4_becomes_24 : fetch tX4_becomes 24 = some (.iload_n 3, 1, 3, 0, 0, 0) := rfl
theorem fX4_becomes_25 : fetch tX4_becomes 25 = some (.ireturn, 1, 0, 0, 0, 0) := rfl
def tX4_observe : List (Nat × TE) := [(0, .iload_n 1, 1, 1, 0, 0, 0), (1, .invokestatic 50, 3, 0, 4, 0, 0), (4, .ifCond .ne 6, 3, 10, 0, 0, 0), (7, .bipush (-2), 2, 0, 0, (-2), 0), (9, .ireturn, 1, 0, 0, 0, 0), (10, .iload_n 2, 1, 2, 0, 0, 0), (11, .iconst (-1), 1, 0, 0, (-1), 0), (12, .bipush 30, 2, 0, 0, 30, 0), (14, .invokestatic 42, 3, 1, 4, 0, 0), (17, .ifCond .eq 12, 3, 29, 0, 0, 0), (20, .aload_n 0, 1, 0, 0, 0, 0), (21, .iload_n 1, 1, 1, 0, 0, 0), (22, .iload_n 2, 1, 2, 0, 0, 0), (23, .invokevirtual 71, 3, 2, 4, 0, 0), (26, .goto 5, 3, 31, 0, 0, 0), (29, .bipush (-3), 2, 0, 0, (-3), 0), (31, .ireturn, 1, 0, 0, 0, 0)]
theorem tkX4_observe : tOk cX4_observe "RumourSourceModel" 3 tX4_observe = true := by decide +kernel
theorem fX4_observe_0 : fetch tX4_observe 0 = some (.iload_n 1, 1, 1, 0, 0, 0) := rfl
theorem fX4_observe_1 : fetch tX4_observe 1 = some (.invokestatic 50, 3, 0, 4, 0, 0) := rfl
theorem fX4_observe_4 : fetch tX4_observe 4 = some (.ifCond .ne 6, 3, 10, 0, 0, 0) := rfl
theorem fX4_observe_7 : fetch tX4_observe 7 = some (.bipush (-2), 2, 0, 0, (-2), 0) := rfl
theorem fX4_observe_9 : fetch tX4_observe 9 = some (.ireturn, 1, 0, 0, 0, 0) := rfl
theorem fX4_observe_10 : fetch tX4_observe 10 = some (.iload_n 2, 1, 2, 0, 0, 0) := rfl
theorem fX4_observe_11 : fetch tX4_observe 11 = some (.iconst (-1), 1, 0, 0, (-1), 0) := rfl
theorem fX4_observe_12 : fetch tX4_observe 12 = some (.bipush 30, 2, 0, 0, 30, 0) := rfl
theorem fX4_observe_14 : fetch tX4_observe 14 = some (.invokestatic 42, 3, 1, 4, 0, 0) := rfl
theorem fX4_observe_17 : fetch tX4_observe 17 = some (.ifCond .eq 12, 3, 29, 0, 0, 0) := rfl
theorem fX4_observe_20 : fetch tX4_observe 20 = some (.aload_n 0, 1, 0, 0, 0, 0) := rfl
theorem fX4_observe_21 : fetch tX4_observe 21 = some (.iload_n 1, 1, 1, 0, 0, 0) := rfl
theorem fX4_observe_22 : fetch tX4_observe 22 = some (.iload_n 2, 1, 2, 0, 0, 0) := rfl
theorem fX4_observe_23 : fetch tX4_observe 23 = some (.invokevirtual 71, 3, 2, 4, 0, 0) := rfl
theorem fX4_observe_26 : fetch tX4_observe 26 = some (.goto 5, 3, 31, 0, 0, 0) := rfl
theorem fX4_observe_29 : fetch tX4_observe 29 = some (.bipush (-3), 2, 0, 0, (-3), 0) := rfl
theorem fX4_observe_31 : fetch tX4_observe 31 = some (.ireturn, 1, 0, 0, 0, 0) := rfl
def tX4_forget : List (Nat × TE) := [(0, .iload_n 1, 1, 1, 0, 0, 0), (1, .invokestatic 50, 3, 0, 4, 0, 0), (4, .ifCond .eq 13, 3, 17, 0, 0, 0), (7, .aload_n 0, 1, 0, 0, 0, 0), (8, .iload_n 1, 1, 1, 0, 0, 0), (9, .bipush 100, 2, 0, 0, 100, 0), (11, .invokevirtual 71, 3, 1, 4, 0, 0), (14, .goto 5, 3, 19, 0, 0, 0), (17, .bipush (-2), 2, 0, 0, (-2), 0), (19, .ireturn, 1, 0, 0, 0, 0)]
theorem tkX4_forget : tOk cX4_forget "RumourSourceModel" 2 tX4_forget = true := by decide +kernel
theorem fX4_forget_0 : fetch tX4_forget 0 = some (.iload_n 1, 1, 1, 0, 0, 0) := rfl
theorem fX4_forget_1 : fetch tX4_forget 1 = some (.invokestatic 50, 3, 0, 4, 0, 0) := rfl
theorem fX4_forget_4 : fetch tX4_forget 4 = some (.ifCond .eq 13, 3, 17, 0, 0, 0) := rfl
theorem fX4_forget_7 : fetch tX4_forget 7 = some (.aload_n 0, 1, 0, 0, 0, 0) := rfl
theorem fX4_forget_8 : fetch tX4_forget 8 = some (.iload_n 1, 1, 1, 0, 0, 0) := rfl
theorem fX4_forget_9 : fetch tX4_forget 9 = some (.bipush 100, 2, 0, 0, 100, 0) := rfl
theorem fX4_forget_11 : fetch tX4_forget 11 = some (.invokevirtual 71, 3, 1, 4, 0, 0) := rfl
theorem fX4_forget_14 : fetch tX4_forget 14 = some (.goto 5, 3, 19, 0, 0, 0) := rfl
theorem fX4_forget_17 : fetch tX4_forget 17 = some (.bipush (-2), 2, 0, 0, (-2), 0) := rfl
theorem fX4_forget_19 : fetch tX4_forget 19 = some (.ireturn, 1, 0, 0, 0, 0) := rfl
def tX4_observed : List (Nat × TE) := [(0, .iload_n 1, 1, 1, 0, 0, 0), (1, .invokestatic 50, 3, 0, 4, 0, 0), (4, .ifCond .eq 15, 3, 19, 0, 0, 0), (7, .aload_n 0, 1, 0, 0, 0, 0), (8, .getfield 7, 3, 4, 0, 0, 0), (11, .bipush 51, 2, 0, 0, 51, 0), (13, .iload_n 1, 1, 1, 0, 0, 0), (14, .iadd, 1, 0, 0, 0, 0), (15, .iaload, 1, 0, 0, 0, 0), (16, .goto 5, 3, 21, 0, 0, 0), (19, .bipush (-2), 2, 0, 0, (-2), 0), (21, .ireturn, 1, 0, 0, 0, 0)]
theorem tkX4_observed : tOk cX4_observed "RumourSourceModel" 2 tX4_observed = true := by decide +kernel
theorem fX4_observed_0 : fetch tX4_observed 0 = some (.iload_n 1, 1, 1, 0, 0, 0) := rfl
theorem fX4_observed_1 : fetch tX4_observed 1 = some (.invokestatic 50, 3, 0, 4, 0, 0) := rfl
theorem fX4_observed_4 : fetch tX4_observed 4 = some (.ifCond .eq 15, 3, 19, 0, 0, 0) := rfl
theorem fX4_observed_7 : fetch tX4_observed 7 = some (.aload_n 0, 1, 0, 0, 0, 0) := rfl
theorem fX4_observed_8 : fetch tX4_observed 8 = some (.getfield 7, 3, 4, 0, 0, 0) := rfl
theorem fX4_observed_11 : fetch tX4_observed 11 = some (.bipush 51, 2, 0, 0, 51, 0) := rfl
theorem fX4_observed_13 : fetch tX4_observed 13 = some (.iload_n 1, 1, 1, 0, 0, 0) := rfl
theorem fX4_observed_14 : fetch tX4_observed 14 = some (.iadd, 1, 0, 0, 0, 0) := rfl
theorem fX4_observed_15 : fetch tX4_observed 15 = some (.iaload, 1, 0, 0, 0, 0) := rfl
theorem fX4_observed_16 : fetch tX4_observed 16 = some (.goto 5, 3, 21, 0, 0, 0) := rfl
theorem fX4_observed_19 : fetch tX4_observed 19 = some (.bipush (-2), 2, 0, 0, (-2), 0) := rfl
theorem fX4_observed_21 : fetch tX4_observed 21 = some (.ireturn, 1, 0, 0, 0, 0) := rfl
def tX4_setSensors : List (Nat × TE) := [(0, .iload_n 1, 1, 1, 0, 0, 0), (1, .iconst 0, 1, 0, 0, 0, 0), (2, .sipush 255, 3, 0, 0, 255, 0), (5, .invokestatic 42, 3, 0, 4, 0, 0), (8, .ifCond .ne 6, 3, 14, 0, 0, 0), (11, .bipush (-3), 2, 0, 0, (-3), 0), (13, .ireturn, 1, 0, 0, 0, 0), (14, .aload_n 0, 1, 0, 0, 0, 0), (15, .invokevirtual 57, 3, 1, 4, 0, 0), (18, .aload_n 0, 1, 0, 0, 0, 0), (19, .getfield 7, 3, 4, 0, 0, 0), (22, .iconst 2, 1, 0, 0, 2, 0), (23, .iaload, 1, 0, 0, 0, 0), (24, .istore_n 2, 1, 2, 0, 0, 0), (25, .aload_n 0, 1, 0, 0, 0, 0), (26, .getfield 7, 3, 4, 0, 0, 0), (29, .iconst 2, 1, 0, 0, 2, 0), (30, .iload_n 1, 1, 1, 0, 0, 0), (31, .iastore, 1, 0, 0, 0, 0), (32, .iload_n 2, 1, 2, 0, 0, 0), (33, .ireturn, 1, 0, 0, 0, 0)]
theorem tkX4_setSensors : tOk cX4_setSensors "RumourSourceModel" 3 tX4_setSensors = true := by decide +kernel
theorem fX4_setSensors_0 : fetch tX4_setSensors 0 = some (.iload_n 1, 1, 1, 0, 0, 0) := rfl
theorem fX4_setSensors_1 : fetch tX4_setSensors 1 = some (.iconst 0, 1, 0, 0, 0, 0) := rfl
theorem fX4_setSensors_2 : fetch tX4_setSensors 2 = some (.sipush 255, 3, 0, 0, 255, 0) := rfl
theorem fX4_setSensors_5 : fetch tX4_setSensors 5 = some (.invokestatic 42, 3, 0, 4, 0, 0) := rfl
theorem fX4_setSensors_8 : fetch tX4_setSensors 8 = some (.ifCond .ne 6, 3, 14, 0, 0, 0) := rfl
theorem fX4_setSensors_11 : fetch tX4_setSensors 11 = some (.bipush (-3), 2, 0, 0, (-3), 0) := rfl
theorem fX4_setSensors_13 : fetch tX4_setSensors 13 = some (.ireturn, 1, 0, 0, 0, 0) := rfl
theorem fX4_setSensors_14 : fetch tX4_setSensors 14 = some (.aload_n 0, 1, 0, 0, 0, 0) := rfl
theorem fX4_setSensors_15 : fetch tX4_setSensors 15 = some (.invokevirtual 57, 3, 1, 4, 0, 0) := rfl
theorem fX4_setSensors_18 : fetch tX4_setSensors 18 = some (.aload_n 0, 1, 0, 0, 0, 0) := rfl
theorem fX4_setSensors_19 : fetch tX4_setSensors 19 = some (.getfield 7, 3, 4, 0, 0, 0) := rfl
theorem fX4_setSensors_22 : fetch tX4_setSensors 22 = some (.iconst 2, 1, 0, 0, 2, 0) := rfl
theorem fX4_setSensors_23 : fetch tX4_setSensors 23 = some (.iaload, 1, 0, 0, 0, 0) := rfl
theorem fX4_setSensors_24 : fetch tX4_setSensors 24 = some (.istore_n 2, 1, 2, 0, 0, 0) := rfl
theorem fX4_setSensors_25 : fetch tX4_setSensors 25 = some (.aload_n 0, 1, 0, 0, 0, 0) := rfl
theorem fX4_setSensors_26 : fetch tX4_setSensors 26 = some (.getfield 7, 3, 4, 0, 0, 0) := rfl
theorem fX4_setSensors_29 : fetch tX4_setSensors 29 = some (.iconst 2, 1, 0, 0, 2, 0) := rfl
theorem fX4_setSensors_30 : fetch tX4_setSensors 30 = some (.iload_n 1, 1, 1, 0, 0, 0) := rfl
theorem fX4_setSensors_31 : fetch tX4_setSensors 31 = some (.iastore, 1, 0, 0, 0, 0) := rfl
theorem fX4_setSensors_32 : fetch tX4_setSensors 32 = some (.iload_n 2, 1, 2, 0, 0, 0) := rfl
theorem fX4_setSensors_33 : fetch tX4_setSensors 33 = some (.ireturn, 1, 0, 0, 0, 0) := rfl
def tX4_simulate : List (Nat × TE) := [(0, .iload_n 1, 1, 1, 0, 0, 0), (1, .invokestatic 74, 3, 0, 4, 0, 0), (4, .ifCond .ne 6, 3, 10, 0, 0, 0), (7, .bipush (-3), 2, 0, 0, (-3), 0), (9, .ireturn, 1, 0, 0, 0, 0), (10, .aload_n 0, 1, 0, 0, 0, 0), (11, .invokevirtual 57, 3, 1, 4, 0, 0), (14, .iload_n 2, 1, 2, 0, 0, 0), (15, .istore_n 3, 1, 3, 0, 0, 0), (16, .iconst 0, 1, 0, 0, 0, 0), (17, .istore 4, 2, 4, 0, 0, 0), (19, .iconst 0, 1, 0, 0, 0, 0), (20, .istore 5, 2, 5, 0, 0, 0), (22, .iload 5, 2, 5, 0, 0, 0), (24, .aload_n 0, 1, 0, 0, 0, 0), (25, .getfield 7, 3, 4, 0, 0, 0), (28, .iconst 0, 1, 0, 0, 0, 0), (29, .iaload, 1, 0, 0, 0, 0), (30, .if_icmp .ge 48, 3, 78, 0, 0, 0), (33, .iload_n 3, 1, 3, 0, 0, 0), (34, .ldc 77, 2, 0, 0, 1103515245, 0), (36, .imul, 1, 0, 0, 0, 0), (37, .sipush 12345, 3, 0, 0, 12345, 0), (40, .iadd, 1, 0, 0, 0, 0), (41, .istore_n 3, 1, 3, 0, 0, 0), (42, .iload 4, 2, 4, 0, 0, 0), (44, .iload_n 3, 1, 3, 0, 0, 0), (45, .bipush 8, 2, 0, 0, 8, 0), (47, .iushr, 1, 0, 0, 0, 0), (48, .bipush 10, 2, 0, 0, 10, 0), (50, .irem, 1, 0, 0, 0, 0), (51, .aload_n 0, 1, 0, 0, 0, 0), (52, .iload 5, 2, 5, 0, 0, 0), (54, .iconst 2, 1, 0, 0, 2, 0), (55, .invokevirtual 46, 3, 2, 4, 0, 0), (58, .if_icmp .ge 10, 3, 68, 0, 0, 0), (61, .iconst 1, 1, 0, 0, 1, 0), (62, .iload 5, 2, 5, 0, 0, 0), (64, .ishl, 1, 0, 0, 0, 0), (65, .goto 4, 3, 69, 0, 0, 0), (68, .iconst 0, 1, 0, 0, 0, 0), (69, .ior, 1, 0, 0, 0, 0), (70, .istore 4, 2, 4, 0, 0, 0), (72, .iinc 5 1, 3, 5, 0, 1, 0), (75, .goto (-53), 3, 22, 0, 0, 0), (78, .aload_n 0, 1, 0, 0, 0, 0), (79, .iload_n 1, 1, 1, 0, 0, 0), (80, .iload 4, 2, 4, 0, 0, 0), (82, .invokevirtual 78, 3, 3, 4, 0, 0), (85, .iconst 0, 1, 0, 0, 0, 0), (86, .istore 5, 2, 5, 0, 0, 0), (88, .iconst 0, 1, 0, 0, 0, 0), (89, .istore 6, 2, 6, 0, 0, 0), (91, .iload 6, 2, 6, 0, 0, 0), (93, .bipush 8, 2, 0, 0, 8, 0), (95, .if_icmp .ge 72, 3, 167, 0, 0, 0), (98, .aload_n 0, 1, 0, 0, 0, 0), (99, .getfield 7, 3, 4, 0, 0, 0), (102, .bipush 51, 2, 0, 0, 51, 0), (104, .iload 6, 2, 6, 0, 0, 0), (106, .iadd, 1, 0, 0, 0, 0), (107, .aload_n 0, 1, 0, 0, 0, 0), (108, .getfield 7, 3, 4, 0, 0, 0), (111, .iconst 2, 1, 0, 0, 2, 0), (112, .iaload, 1, 0, 0, 0, 0), (113, .iload 6, 2, 6, 0, 0, 0), (115, .ishr, 1, 0, 0, 0, 0), (116, .iconst 1, 1, 0, 0, 1, 0), (117, .iand, 1, 0, 0, 0, 0), (118, .iconst 1, 1, 0, 0, 1, 0), (119, .if_icmp .ne 16, 3, 135, 0, 0, 0), (122, .aload_n 0, 1, 0, 0, 0, 0), (123, .getfield 13, 3, 4, 3, 0, 0), (126, .iload 6, 2, 6, 0, 0, 0), (128, .iaload, 1, 0, 0, 0, 0), (129, .invokestatic 67, 3, 4, 4, 0, 0), (132, .goto 5, 3, 137, 0, 0, 0), (135, .bipush 100, 2, 0, 0, 100, 0), (137, .iastore, 1, 0, 0, 0, 0), (138, .iload 5, 2, 5, 0, 0, 0), (140, .aload_n 0, 1, 0, 0, 0, 0), (141, .getfield 13, 3, 4, 3, 0, 0), (144, .iload 6, 2, 6, 0, 0, 0), (146, .iaload, 1, 0, 0, 0, 0), (147, .sipush 1000, 3, 0, 0, 1000, 0), (150, .if_icmp .ne 7, 3, 157, 0, 0, 0), (153, .iconst 0, 1, 0, 0, 0, 0), (154, .goto 4, 3, 158, 0, 0, 0), (157, .iconst 1, 1, 0, 0, 1, 0), (158, .iadd, 1, 0, 0, 0, 0), (159, .istore 5, 2, 5, 0, 0, 0), (161, .iinc 6 1, 3, 6, 0, 1, 0), (164, .goto (-73), 3, 91, 0, 0, 0), (167, .iload 5, 2, 5, 0, 0, 0), (169, .ireturn, 1, 0, 0, 0, 0)]
theorem tkX4_simulate : tOk cX4_simulate "RumourSourceModel" 7 tX4_simulate = true := by decide +kernel
theorem fX4_simulate_0 : fetch tX4_simulate 0 = some (.iload_n 1, 1, 1, 0, 0, 0) := rfl
theorem fX4_simulate_1 : fetch tX4_simulate 1 = some (.invokestatic 74, 3, 0, 4, 0, 0) := rfl
theorem fX4_simulate_4 : fetch tX4_simulate 4 = some (.ifCond .ne 6, 3, 10, 0, 0, 0) := rfl
theorem fX4_simulate_7 : fetch tX4_simulate 7 = some (.bipush (-3), 2, 0, 0, (-3), 0) := rfl
theorem fX4_simulate_9 : fetch tX4_simulate 9 = some (.ireturn, 1, 0, 0, 0, 0) := rfl
theorem fX4_simulate_10 : fetch tX4_simulate 10 = some (.aload_n 0, 1, 0, 0, 0, 0) := rfl
theorem fX4_simulate_11 : fetch tX4_simulate 11 = some (.invokevirtual 57, 3, 1, 4, 0, 0) := rfl
theorem fX4_simulate_14 : fetch tX4_simulate 14 = some (.iload_n 2, 1, 2, 0, 0, 0) := rfl
theorem fX4_simulate_15 : fetch tX4_simulate 15 = some (.istore_n 3, 1, 3, 0, 0, 0) := rfl
theorem fX4_simulate_16 : fetch tX4_simulate 16 = some (.iconst 0, 1, 0, 0, 0, 0) := rfl
theorem fX4_simulate_17 : fetch tX4_simulate 17 = some (.istore 4, 2, 4, 0, 0, 0) := rfl
theorem fX4_simulate_19 : fetch tX4_simulate 19 = some (.iconst 0, 1, 0, 0, 0, 0) := rfl
theorem fX4_simulate_20 : fetch tX4_simulate 20 = some (.istore 5, 2, 5, 0, 0, 0) := rfl
theorem fX4_simulate_22 : fetch tX4_simulate 22 = some (.iload 5, 2, 5, 0, 0, 0) := rfl
theorem fX4_simulate_24 : fetch tX4_simulate 24 = some (.aload_n 0, 1, 0, 0, 0, 0) := rfl
theorem fX4_simulate_25 : fetch tX4_simulate 25 = some (.getfield 7, 3, 4, 0, 0, 0) := rfl
theorem fX4_simulate_28 : fetch tX4_simulate 28 = some (.iconst 0, 1, 0, 0, 0, 0) := rfl
theorem fX4_simulate_29 : fetch tX4_simulate 29 = some (.iaload, 1, 0, 0, 0, 0) := rfl
theorem fX4_simulate_30 : fetch tX4_simulate 30 = some (.if_icmp .ge 48, 3, 78, 0, 0, 0) := rfl
theorem fX4_simulate_33 : fetch tX4_simulate 33 = some (.iload_n 3, 1, 3, 0, 0, 0) := rfl
theorem fX4_simulate_34 : fetch tX4_simulate 34 = some (.ldc 77, 2, 0, 0, 1103515245, 0) := rfl
theorem fX4_simulate_36 : fetch tX4_simulate 36 = some (.imul, 1, 0, 0, 0, 0) := rfl
theorem fX4_simulate_37 : fetch tX4_simulate 37 = some (.sipush 12345, 3, 0, 0, 12345, 0) := rfl
theorem fX4_simulate_40 : fetch tX4_simulate 40 = some (.iadd, 1, 0, 0, 0, 0) := rfl
theorem fX4_simulate_41 : fetch tX4_simulate 41 = some (.istore_n 3, 1, 3, 0, 0, 0) := rfl
theorem fX4_simulate_42 : fetch tX4_simulate 42 = some (.iload 4, 2, 4, 0, 0, 0) := rfl
theorem fX4_simulate_44 : fetch tX4_simulate 44 = some (.iload_n 3, 1, 3, 0, 0, 0) := rfl
theorem fX4_simulate_45 : fetch tX4_simulate 45 = some (.bipush 8, 2, 0, 0, 8, 0) := rfl
theorem fX4_simulate_47 : fetch tX4_simulate 47 = some (.iushr, 1, 0, 0, 0, 0) := rfl
theorem fX4_simulate_48 : fetch tX4_simulate 48 = some (.bipush 10, 2, 0, 0, 10, 0) := rfl
theorem fX4_simulate_50 : fetch tX4_simulate 50 = some (.irem, 1, 0, 0, 0, 0) := rfl
theorem fX4_simulate_51 : fetch tX4_simulate 51 = some (.aload_n 0, 1, 0, 0, 0, 0) := rfl
theorem fX4_simulate_52 : fetch tX4_simulate 52 = some (.iload 5, 2, 5, 0, 0, 0) := rfl
theorem fX4_simulate_54 : fetch tX4_simulate 54 = some (.iconst 2, 1, 0, 0, 2, 0) := rfl
theorem fX4_simulate_55 : fetch tX4_simulate 55 = some (.invokevirtual 46, 3, 2, 4, 0, 0) := rfl
theorem fX4_simulate_58 : fetch tX4_simulate 58 = some (.if_icmp .ge 10, 3, 68, 0, 0, 0) := rfl
theorem fX4_simulate_61 : fetch tX4_simulate 61 = some (.iconst 1, 1, 0, 0, 1, 0) := rfl
theorem fX4_simulate_62 : fetch tX4_simulate 62 = some (.iload 5, 2, 5, 0, 0, 0) := rfl
theorem fX4_simulate_64 : fetch tX4_simulate 64 = some (.ishl, 1, 0, 0, 0, 0) := rfl
theorem fX4_simulate_65 : fetch tX4_simulate 65 = some (.goto 4, 3, 69, 0, 0, 0) := rfl
theorem fX4_simulate_68 : fetch tX4_simulate 68 = some (.iconst 0, 1, 0, 0, 0, 0) := rfl
theorem fX4_simulate_69 : fetch tX4_simulate 69 = some (.ior, 1, 0, 0, 0, 0) := rfl
theorem fX4_simulate_70 : fetch tX4_simulate 70 = some (.istore 4, 2, 4, 0, 0, 0) := rfl
theorem fX4_simulate_72 : fetch tX4_simulate 72 = some (.iinc 5 1, 3, 5, 0, 1, 0) := rfl
theorem fX4_simulate_75 : fetch tX4_simulate 75 = some (.goto (-53), 3, 22, 0, 0, 0) := rfl
theorem fX4_simulate_78 : fetch tX4_simulate 78 = some (.aload_n 0, 1, 0, 0, 0, 0) := rfl
theorem fX4_simulate_79 : fetch tX4_simulate 79 = some (.iload_n 1, 1, 1, 0, 0, 0) := rfl
theorem fX4_simulate_80 : fetch tX4_simulate 80 = some (.iload 4, 2, 4, 0, 0, 0) := rfl
theorem fX4_simulate_82 : fetch tX4_simulate 82 = some (.invokevirtual 78, 3, 3, 4, 0, 0) := rfl
theorem fX4_simulate_85 : fetch tX4_simulate 85 = some (.iconst 0, 1, 0, 0, 0, 0) := rfl
theorem fX4_simulate_86 : fetch tX4_simulate 86 = some (.istore 5, 2, 5, 0, 0, 0) := rfl
theorem fX4_simulate_88 : fetch tX4_simulate 88 = some (.iconst 0, 1, 0, 0, 0, 0) := rfl
theorem fX4_simulate_89 : fetch tX4_simulate 89 = some (.istore 6, 2, 6, 0, 0, 0) := rfl
theorem fX4_simulate_91 : fetch tX4_simulate 91 = some (.iload 6, 2, 6, 0, 0, 0) := rfl
theorem fX4_simulate_93 : fetch tX4_simulate 93 = some (.bipush 8, 2, 0, 0, 8, 0) := rfl
theorem fX4_simulate_95 : fetch tX4_simulate 95 = some (.if_icmp .ge 72, 3, 167, 0, 0, 0) := rfl
theorem fX4_simulate_98 : fetch tX4_simulate 98 = some (.aload_n 0, 1, 0, 0, 0, 0) := rfl
theorem fX4_simulate_99 : fetch tX4_simulate 99 = some (.getfield 7, 3, 4, 0, 0, 0) := rfl
theorem fX4_simulate_102 : fetch tX4_simulate 102 = some (.bipush 51, 2, 0, 0, 51, 0) := rfl
theorem fX4_simulate_104 : fetch tX4_simulate 104 = some (.iload 6, 2, 6, 0, 0, 0) := rfl
theorem fX4_simulate_106 : fetch tX4_simulate 106 = some (.iadd, 1, 0, 0, 0, 0) := rfl
theorem fX4_simulate_107 : fetch tX4_simulate 107 = some (.aload_n 0, 1, 0, 0, 0, 0) := rfl
theorem fX4_simulate_108 : fetch tX4_simulate 108 = some (.getfield 7, 3, 4, 0, 0, 0) := rfl
theorem fX4_simulate_111 : fetch tX4_simulate 111 = some (.iconst 2, 1, 0, 0, 2, 0) := rfl
theorem fX4_simulate_112 : fetch tX4_simulate 112 = some (.iaload, 1, 0, 0, 0, 0) := rfl
theorem fX4_simulate_113 : fetch tX4_simulate 113 = some (.iload 6, 2, 6, 0, 0, 0) := rfl
theorem fX4_simulate_115 : fetch tX4_simulate 115 = some (.ishr, 1, 0, 0, 0, 0) := rfl
theorem fX4_simulate_116 : fetch tX4_simulate 116 = some (.iconst 1, 1, 0, 0, 1, 0) := rfl
theorem fX4_simulate_117 : fetch tX4_simulate 117 = some (.iand, 1, 0, 0, 0, 0) := rfl
theorem fX4_simulate_118 : fetch tX4_simulate 118 = some (.iconst 1, 1, 0, 0, 1, 0) := rfl
theorem fX4_simulate_119 : fetch tX4_simulate 119 = some (.if_icmp .ne 16, 3, 135, 0, 0, 0) := rfl
theorem fX4_simulate_122 : fetch tX4_simulate 122 = some (.aload_n 0, 1, 0, 0, 0, 0) := rfl
theorem fX4_simulate_123 : fetch tX4_simulate 123 = some (.getfield 13, 3, 4, 3, 0, 0) := rfl
theorem fX4_simulate_126 : fetch tX4_simulate 126 = some (.iload 6, 2, 6, 0, 0, 0) := rfl
theorem fX4_simulate_128 : fetch tX4_simulate 128 = some (.iaload, 1, 0, 0, 0, 0) := rfl
theorem fX4_simulate_129 : fetch tX4_simulate 129 = some (.invokestatic 67, 3, 4, 4, 0, 0) := rfl
theorem fX4_simulate_132 : fetch tX4_simulate 132 = some (.goto 5, 3, 137, 0, 0, 0) := rfl
theorem fX4_simulate_135 : fetch tX4_simulate 135 = some (.bipush 100, 2, 0, 0, 100, 0) := rfl
theorem fX4_simulate_137 : fetch tX4_simulate 137 = some (.iastore, 1, 0, 0, 0, 0) := rfl
theorem fX4_simulate_138 : fetch tX4_simulate 138 = some (.iload 5, 2, 5, 0, 0, 0) := rfl
theorem fX4_simulate_140 : fetch tX4_simulate 140 = some (.aload_n 0, 1, 0, 0, 0, 0) := rfl
theorem fX4_simulate_141 : fetch tX4_simulate 141 = some (.getfield 13, 3, 4, 3, 0, 0) := rfl
theorem fX4_simulate_144 : fetch tX4_simulate 144 = some (.iload 6, 2, 6, 0, 0, 0) := rfl
theorem fX4_simulate_146 : fetch tX4_simulate 146 = some (.iaload, 1, 0, 0, 0, 0) := rfl
theorem fX4_simulate_147 : fetch tX4_simulate 147 = some (.sipush 1000, 3, 0, 0, 1000, 0) := rfl
theorem fX4_simulate_150 : fetch tX4_simulate 150 = some (.if_icmp .ne 7, 3, 157, 0, 0, 0) := rfl
theorem fX4_simulate_153 : fetch tX4_simulate 153 = some (.iconst 0, 1, 0, 0, 0, 0) := rfl
theorem fX4_simulate_154 : fetch tX4_simulate 154 = some (.goto 4, 3, 158, 0, 0, 0) := rfl
theorem fX4_simulate_157 : fetch tX4_simulate 157 = some (.iconst 1, 1, 0, 0, 1, 0) := rfl
theorem fX4_simulate_158 : fetch tX4_simulate 158 = some (.iadd, 1, 0, 0, 0, 0) := rfl
theorem fX4_simulate_159 : fetch tX4_simulate 159 = some (.istore 5, 2, 5, 0, 0, 0) := rfl
theorem fX4_simulate_161 : fetch tX4_simulate 161 = some (.iinc 6 1, 3, 6, 0, 1, 0) := rfl
theorem fX4_simulate_164 : fetch tX4_simulate 164 = some (.goto (-73), 3, 91, 0, 0, 0) := rfl
theorem fX4_simulate_167 : fetch tX4_simulate 167 = some (.iload 5, 2, 5, 0, 0, 0) := rfl
theorem fX4_simulate_169 : fetch tX4_simulate 169 = some (.ireturn, 1, 0, 0, 0, 0) := rfl
def tX4_timeBy : List (Nat × TE) := [(0, .iload_n 3, 1, 3, 0, 0, 0), (1, .invokestatic 50, 3, 0, 4, 0, 0), (4, .ifCond .ne 6, 3, 10, 0, 0, 0), (7, .bipush (-2), 2, 0, 0, (-2), 0), (9, .ireturn, 1, 0, 0, 0, 0), (10, .iload_n 1, 1, 1, 0, 0, 0), (11, .invokestatic 74, 3, 1, 4, 0, 0), (14, .ifCond .eq 11, 3, 25, 0, 0, 0), (17, .aload_n 0, 1, 0, 0, 0, 0), (18, .iload_n 2, 1, 2, 0, 0, 0), (19, .invokevirtual 81, 3, 2, 4, 0, 0), (22, .ifCond .ne 6, 3, 28, 0, 0, 0), (25, .bipush (-3), 2, 0, 0, (-3), 0), (27, .ireturn, 1, 0, 0, 0, 0), (28, .aload_n 0, 1, 0, 0, 0, 0), (29, .iload_n 1, 1, 1, 0, 0, 0), (30, .iload_n 2, 1, 2, 0, 0, 0), (31, .invokevirtual 78, 3, 3, 4, 0, 0), (34, .aload_n 0, 1, 0, 0, 0, 0), (35, .getfield 13, 3, 4, 3, 0, 0), (38, .iload_n 3, 1, 3, 0, 0, 0), (39, .iaload, 1, 0, 0, 0, 0), (40, .invokestatic 67, 3, 4, 4, 0, 0), (43, .ireturn, 1, 0, 0, 0, 0)]
theorem tkX4_timeBy : tOk cX4_timeBy "RumourSourceModel" 4 tX4_timeBy = true := by decide +kernel
theorem fX4_timeBy_0 : fetch tX4_timeBy 0 = some (.iload_n 3, 1, 3, 0, 0, 0) := rfl
theorem fX4_timeBy_1 : fetch tX4_timeBy 1 = some (.invokestatic 50, 3, 0, 4, 0, 0) := rfl
theorem fX4_timeBy_4 : fetch tX4_timeBy 4 = some (.ifCond .ne 6, 3, 10, 0, 0, 0) := rfl
theorem fX4_timeBy_7 : fetch tX4_timeBy 7 = some (.bipush (-2), 2, 0, 0, (-2), 0) := rfl
theorem fX4_timeBy_9 : fetch tX4_timeBy 9 = some (.ireturn, 1, 0, 0, 0, 0) := rfl
theorem fX4_timeBy_10 : fetch tX4_timeBy 10 = some (.iload_n 1, 1, 1, 0, 0, 0) := rfl
theorem fX4_timeBy_11 : fetch tX4_timeBy 11 = some (.invokestatic 74, 3, 1, 4, 0, 0) := rfl
theorem fX4_timeBy_14 : fetch tX4_timeBy 14 = some (.ifCond .eq 11, 3, 25, 0, 0, 0) := rfl
theorem fX4_timeBy_17 : fetch tX4_timeBy 17 = some (.aload_n 0, 1, 0, 0, 0, 0) := rfl
theorem fX4_timeBy_18 : fetch tX4_timeBy 18 = some (.iload_n 2, 1, 2, 0, 0, 0) := rfl
theorem fX4_timeBy_19 : fetch tX4_timeBy 19 = some (.invokevirtual 81, 3, 2, 4, 0, 0) := rfl
theorem fX4_timeBy_22 : fetch tX4_timeBy 22 = some (.ifCond .ne 6, 3, 28, 0, 0, 0) := rfl
theorem fX4_timeBy_25 : fetch tX4_timeBy 25 = some (.bipush (-3), 2, 0, 0, (-3), 0) := rfl
theorem fX4_timeBy_27 : fetch tX4_timeBy 27 = some (.ireturn, 1, 0, 0, 0, 0) := rfl
theorem fX4_timeBy_28 : fetch tX4_timeBy 28 = some (.aload_n 0, 1, 0, 0, 0, 0) := rfl
theorem fX4_timeBy_29 : fetch tX4_timeBy 29 = some (.iload_n 1, 1, 1, 0, 0, 0) := rfl
theorem fX4_timeBy_30 : fetch tX4_timeBy 30 = some (.iload_n 2, 1, 2, 0, 0, 0) := rfl
theorem fX4_timeBy_31 : fetch tX4_timeBy 31 = some (.invokevirtual 78, 3, 3, 4, 0, 0) := rfl
theorem fX4_timeBy_34 : fetch tX4_timeBy 34 = some (.aload_n 0, 1, 0, 0, 0, 0) := rfl
theorem fX4_timeBy_35 : fetch tX4_timeBy 35 = some (.getfield 13, 3, 4, 3, 0, 0) := rfl
theorem fX4_timeBy_38 : fetch tX4_timeBy 38 = some (.iload_n 3, 1, 3, 0, 0, 0) := rfl
theorem fX4_timeBy_39 : fetch tX4_timeBy 39 = some (.iaload, 1, 0, 0, 0, 0) := rfl
theorem fX4_timeBy_40 : fetch tX4_timeBy 40 = some (.invokestatic 67, 3, 4, 4, 0, 0) := rfl
theorem fX4_timeBy_43 : fetch tX4_timeBy 43 = some (.ireturn, 1, 0, 0, 0, 0) := rfl
def tX4_weight : List (Nat × TE) := [(0, .aload_n 0, 1, 0, 0, 0, 0), (1, .iload_n 1, 1, 1, 0, 0, 0), (2, .invokevirtual 81, 3, 0, 4, 0, 0), (5, .ifCond .eq 11, 3, 16, 0, 0, 0), (8, .aload_n 0, 1, 0, 0, 0, 0), (9, .iload_n 1, 1, 1, 0, 0, 0), (10, .invokevirtual 84, 3, 1, 4, 0, 0), (13, .goto 6, 3, 19, 0, 0, 0), (16, .ldc2_w 88, 3, 0, 0, 0, (-3)), (19, .lreturn, 1, 0, 0, 0, 0)]
theorem tkX4_weight : tOk cX4_weight "RumourSourceModel" 2 tX4_weight = true := by decide +kernel
theorem fX4_weight_0 : fetch tX4_weight 0 = some (.aload_n 0, 1, 0, 0, 0, 0) := rfl
theorem fX4_weight_1 : fetch tX4_weight 1 = some (.iload_n 1, 1, 1, 0, 0, 0) := rfl
theorem fX4_weight_2 : fetch tX4_weight 2 = some (.invokevirtual 81, 3, 0, 4, 0, 0) := rfl
theorem fX4_weight_5 : fetch tX4_weight 5 = some (.ifCond .eq 11, 3, 16, 0, 0, 0) := rfl
theorem fX4_weight_8 : fetch tX4_weight 8 = some (.aload_n 0, 1, 0, 0, 0, 0) := rfl
theorem fX4_weight_9 : fetch tX4_weight 9 = some (.iload_n 1, 1, 1, 0, 0, 0) := rfl
theorem fX4_weight_10 : fetch tX4_weight 10 = some (.invokevirtual 84, 3, 1, 4, 0, 0) := rfl
theorem fX4_weight_13 : fetch tX4_weight 13 = some (.goto 6, 3, 19, 0, 0, 0) := rfl
theorem fX4_weight_16 : fetch tX4_weight 16 = some (.ldc2_w 88, 3, 0, 0, 0, (-3)) := rfl
theorem fX4_weight_19 : fetch tX4_weight 19 = some (.lreturn, 1, 0, 0, 0, 0) := rfl
def tX4_fits : List (Nat × TE) := [(0, .iload_n 1, 1, 1, 0, 0, 0), (1, .invokestatic 74, 3, 0, 4, 0, 0), (4, .ifCond .eq 11, 3, 15, 0, 0, 0), (7, .aload_n 0, 1, 0, 0, 0, 0), (8, .iload_n 2, 1, 2, 0, 0, 0), (9, .invokevirtual 81, 3, 1, 4, 0, 0), (12, .ifCond .ne 6, 3, 18, 0, 0, 0), (15, .bipush (-3), 2, 0, 0, (-3), 0), (17, .ireturn, 1, 0, 0, 0, 0), (18, .aload_n 0, 1, 0, 0, 0, 0), (19, .iload_n 1, 1, 1, 0, 0, 0), (20, .iload_n 2, 1, 2, 0, 0, 0), (21, .invokevirtual 78, 3, 2, 4, 0, 0), (24, .aload_n 0, 1, 0, 0, 0, 0), (25, .invokevirtual 90, 3, 3, 4, 0, 0), (28, .ifCond .eq 7, 3, 35, 0, 0, 0), (31, .iconst 1, 1, 0, 0, 1, 0), (32, .goto 4, 3, 36, 0, 0, 0), (35, .iconst 0, 1, 0, 0, 0, 0), (36, .ireturn, 1, 0, 0, 0, 0)]
theorem tkX4_fits : tOk cX4_fits "RumourSourceModel" 3 tX4_fits = true := by decide +kernel
theorem fX4_fits_0 : fetch tX4_fits 0 = some (.iload_n 1, 1, 1, 0, 0, 0) := rfl
theorem fX4_fits_1 : fetch tX4_fits 1 = some (.invokestatic 74, 3, 0, 4, 0, 0) := rfl
theorem fX4_fits_4 : fetch tX4_fits 4 = some (.ifCond .eq 11, 3, 15, 0, 0, 0) := rfl
theorem fX4_fits_7 : fetch tX4_fits 7 = some (.aload_n 0, 1, 0, 0, 0, 0) := rfl
theorem fX4_fits_8 : fetch tX4_fits 8 = some (.iload_n 2, 1, 2, 0, 0, 0) := rfl
theorem fX4_fits_9 : fetch tX4_fits 9 = some (.invokevirtual 81, 3, 1, 4, 0, 0) := rfl
theorem fX4_fits_12 : fetch tX4_fits 12 = some (.ifCond .ne 6, 3, 18, 0, 0, 0) := rfl
theorem fX4_fits_15 : fetch tX4_fits 15 = some (.bipush (-3), 2, 0, 0, (-3), 0) := rfl
theorem fX4_fits_17 : fetch tX4_fits 17 = some (.ireturn, 1, 0, 0, 0, 0) := rfl
theorem fX4_fits_18 : fetch tX4_fits 18 = some (.aload_n 0, 1, 0, 0, 0, 0) := rfl
theorem fX4_fits_19 : fetch tX4_fits 19 = some (.iload_n 1, 1, 1, 0, 0, 0) := rfl
theorem fX4_fits_20 : fetch tX4_fits 20 = some (.iload_n 2, 1, 2, 0, 0, 0) := rfl
theorem fX4_fits_21 : fetch tX4_fits 21 = some (.invokevirtual 78, 3, 2, 4, 0, 0) := rfl
theorem fX4_fits_24 : fetch tX4_fits 24 = some (.aload_n 0, 1, 0, 0, 0, 0) := rfl
theorem fX4_fits_25 : fetch tX4_fits 25 = some (.invokevirtual 90, 3, 3, 4, 0, 0) := rfl
theorem fX4_fits_28 : fetch tX4_fits 28 = some (.ifCond .eq 7, 3, 35, 0, 0, 0) := rfl
theorem fX4_fits_31 : fetch tX4_fits 31 = some (.iconst 1, 1, 0, 0, 1, 0) := rfl
theorem fX4_fits_32 : fetch tX4_fits 32 = some (.goto 4, 3, 36, 0, 0, 0) := rfl
theorem fX4_fits_35 : fetch tX4_fits 35 = some (.iconst 0, 1, 0, 0, 0, 0) := rfl
theorem fX4_fits_36 : fetch tX4_fits 36 = some (.ireturn, 1, 0, 0, 0, 0) := rfl
def tX4_timeWeight : List (Nat × TE) := [(0, .iload_n 2, 1, 2, 0, 0, 0), (1, .invokestatic 50, 3, 0, 4, 0, 0), (4, .ifCond .ne 7, 3, 11, 0, 0, 0), (7, .ldc2_w 94, 3, 0, 0, 0, (-2)), (10, .lreturn, 1, 0, 0, 0, 0), (11, .iload_n 1, 1, 1, 0, 0, 0), (12, .invokestatic 74, 3, 1, 4, 0, 0), (15, .ifCond .eq 13, 3, 28, 0, 0, 0), (18, .iload_n 3, 1, 3, 0, 0, 0), (19, .iconst (-1), 1, 0, 0, (-1), 0), (20, .bipush 30, 2, 0, 0, 30, 0), (22, .invokestatic 42, 3, 2, 4, 0, 0), (25, .ifCond .ne 7, 3, 32, 0, 0, 0), (28, .ldc2_w 88, 3, 0, 0, 0, (-3)), (31, .lreturn, 1, 0, 0, 0, 0), (32, .lconst 0, 1, 0, 0, 0, 0), (33, .lstore 4, 2, 4, 0, 0, 0), (35, .iconst 0, 1, 0, 0, 0, 0), (36, .istore 6, 2, 6, 0, 0, 0), (38, .iload 6, 2, 6, 0, 0, 0), (40, .iconst 1, 1, 0, 0, 1, 0), (41, .aload_n 0, 1, 0, 0, 0, 0), (42, .getfield 7, 3, 4, 0, 0, 0), (45, .iconst 0, 1, 0, 0, 0, 0), (46, .iaload, 1, 0, 0, 0, 0), (47, .ishl, 1, 0, 0, 0, 0), (48, .if_icmp .ge 55, 3, 103, 0, 0, 0), (51, .aload_n 0, 1, 0, 0, 0, 0), (52, .iload 6, 2, 6, 0, 0, 0), (54, .invokevirtual 84, 3, 3, 4, 0, 0), (57, .lstore 7, 2, 7, 0, 0, 0), (59, .lload 7, 2, 7, 0, 0, 0), (61, .lconst 0, 1, 0, 0, 0, 0), (62, .lcmp, 1, 0, 0, 0, 0), (63, .ifCond .le 34, 3, 97, 0, 0, 0), (66, .aload_n 0, 1, 0, 0, 0, 0), (67, .iload_n 1, 1, 1, 0, 0, 0), (68, .iload 6, 2, 6, 0, 0, 0), (70, .invokevirtual 78, 3, 4, 4, 0, 0), (73, .lload 4, 2, 4, 0, 0, 0), (75, .aload_n 0, 1, 0, 0, 0, 0), (76, .getfield 13, 3, 4, 3, 0, 0), (79, .iload_n 2, 1, 2, 0, 0, 0), (80, .iaload, 1, 0, 0, 0, 0), (81, .invokestatic 67, 3, 5, 4, 0, 0), (84, .iload_n 3, 1, 3, 0, 0, 0), (85, .if_icmp .ne 8, 3, 93, 0, 0, 0), (88, .lload 7, 2, 7, 0, 0, 0), (90, .goto 4, 3, 94, 0, 0, 0), (93, .lconst 0, 1, 0, 0, 0, 0), (94, .ladd, 1, 0, 0, 0, 0), (95, .lstore 4, 2, 4, 0, 0, 0), (97, .iinc 6 1, 3, 6, 0, 1, 0), (100, .goto (-62), 3, 38, 0, 0, 0), (103, .lload 4, 2, 4, 0, 0, 0), (105, .lreturn, 1, 0, 0, 0, 0)]
theorem tkX4_timeWeight : tOk cX4_timeWeight "RumourSourceModel" 9 tX4_timeWeight = true := by decide +kernel
theorem fX4_timeWeight_0 : fetch tX4_timeWeight 0 = some (.iload_n 2, 1, 2, 0, 0, 0) := rfl
theorem fX4_timeWeight_1 : fetch tX4_timeWeight 1 = some (.invokestatic 50, 3, 0, 4, 0, 0) := rfl
theorem fX4_timeWeight_4 : fetch tX4_timeWeight 4 = some (.ifCond .ne 7, 3, 11, 0, 0, 0) := rfl
theorem fX4_timeWeight_7 : fetch tX4_timeWeight 7 = some (.ldc2_w 94, 3, 0, 0, 0, (-2)) := rfl
theorem fX4_timeWeight_10 : fetch tX4_timeWeight 10 = some (.lreturn, 1, 0, 0, 0, 0) := rfl
theorem fX4_timeWeight_11 : fetch tX4_timeWeight 11 = some (.iload_n 1, 1, 1, 0, 0, 0) := rfl
theorem fX4_timeWeight_12 : fetch tX4_timeWeight 12 = some (.invokestatic 74, 3, 1, 4, 0, 0) := rfl
theorem fX4_timeWeight_15 : fetch tX4_timeWeight 15 = some (.ifCond .eq 13, 3, 28, 0, 0, 0) := rfl
theorem fX4_timeWeight_18 : fetch tX4_timeWeight 18 = some (.iload_n 3, 1, 3, 0, 0, 0) := rfl
theorem fX4_timeWeight_19 : fetch tX4_timeWeight 19 = some (.iconst (-1), 1, 0, 0, (-1), 0) := rfl
theorem fX4_timeWeight_20 : fetch tX4_timeWeight 20 = some (.bipush 30, 2, 0, 0, 30, 0) := rfl
theorem fX4_timeWeight_22 : fetch tX4_timeWeight 22 = some (.invokestatic 42, 3, 2, 4, 0, 0) := rfl
theorem fX4_timeWeight_25 : fetch tX4_timeWeight 25 = some (.ifCond .ne 7, 3, 32, 0, 0, 0) := rfl
theorem fX4_timeWeight_28 : fetch tX4_timeWeight 28 = some (.ldc2_w 88, 3, 0, 0, 0, (-3)) := rfl
theorem fX4_timeWeight_31 : fetch tX4_timeWeight 31 = some (.lreturn, 1, 0, 0, 0, 0) := rfl
theorem fX4_timeWeight_32 : fetch tX4_timeWeight 32 = some (.lconst 0, 1, 0, 0, 0, 0) := rfl
theorem fX4_timeWeight_33 : fetch tX4_timeWeight 33 = some (.lstore 4, 2, 4, 0, 0, 0) := rfl
theorem fX4_timeWeight_35 : fetch tX4_timeWeight 35 = some (.iconst 0, 1, 0, 0, 0, 0) := rfl
theorem fX4_timeWeight_36 : fetch tX4_timeWeight 36 = some (.istore 6, 2, 6, 0, 0, 0) := rfl
theorem fX4_timeWeight_38 : fetch tX4_timeWeight 38 = some (.iload 6, 2, 6, 0, 0, 0) := rfl
theorem fX4_timeWeight_40 : fetch tX4_timeWeight 40 = some (.iconst 1, 1, 0, 0, 1, 0) := rfl
theorem fX4_timeWeight_41 : fetch tX4_timeWeight 41 = some (.aload_n 0, 1, 0, 0, 0, 0) := rfl
theorem fX4_timeWeight_42 : fetch tX4_timeWeight 42 = some (.getfield 7, 3, 4, 0, 0, 0) := rfl
theorem fX4_timeWeight_45 : fetch tX4_timeWeight 45 = some (.iconst 0, 1, 0, 0, 0, 0) := rfl
theorem fX4_timeWeight_46 : fetch tX4_timeWeight 46 = some (.iaload, 1, 0, 0, 0, 0) := rfl
theorem fX4_timeWeight_47 : fetch tX4_timeWeight 47 = some (.ishl, 1, 0, 0, 0, 0) := rfl
theorem fX4_timeWeight_48 : fetch tX4_timeWeight 48 = some (.if_icmp .ge 55, 3, 103, 0, 0, 0) := rfl
theorem fX4_timeWeight_51 : fetch tX4_timeWeight 51 = some (.aload_n 0, 1, 0, 0, 0, 0) := rfl
theorem fX4_timeWeight_52 : fetch tX4_timeWeight 52 = some (.iload 6, 2, 6, 0, 0, 0) := rfl
theorem fX4_timeWeight_54 : fetch tX4_timeWeight 54 = some (.invokevirtual 84, 3, 3, 4, 0, 0) := rfl
theorem fX4_timeWeight_57 : fetch tX4_timeWeight 57 = some (.lstore 7, 2, 7, 0, 0, 0) := rfl
theorem fX4_timeWeight_59 : fetch tX4_timeWeight 59 = some (.lload 7, 2, 7, 0, 0, 0) := rfl
theorem fX4_timeWeight_61 : fetch tX4_timeWeight 61 = some (.lconst 0, 1, 0, 0, 0, 0) := rfl
theorem fX4_timeWeight_62 : fetch tX4_timeWeight 62 = some (.lcmp, 1, 0, 0, 0, 0) := rfl
theorem fX4_timeWeight_63 : fetch tX4_timeWeight 63 = some (.ifCond .le 34, 3, 97, 0, 0, 0) := rfl
theorem fX4_timeWeight_66 : fetch tX4_timeWeight 66 = some (.aload_n 0, 1, 0, 0, 0, 0) := rfl
theorem fX4_timeWeight_67 : fetch tX4_timeWeight 67 = some (.iload_n 1, 1, 1, 0, 0, 0) := rfl
theorem fX4_timeWeight_68 : fetch tX4_timeWeight 68 = some (.iload 6, 2, 6, 0, 0, 0) := rfl
theorem fX4_timeWeight_70 : fetch tX4_timeWeight 70 = some (.invokevirtual 78, 3, 4, 4, 0, 0) := rfl
theorem fX4_timeWeight_73 : fetch tX4_timeWeight 73 = some (.lload 4, 2, 4, 0, 0, 0) := rfl
theorem fX4_timeWeight_75 : fetch tX4_timeWeight 75 = some (.aload_n 0, 1, 0, 0, 0, 0) := rfl
theorem fX4_timeWeight_76 : fetch tX4_timeWeight 76 = some (.getfield 13, 3, 4, 3, 0, 0) := rfl
theorem fX4_timeWeight_79 : fetch tX4_timeWeight 79 = some (.iload_n 2, 1, 2, 0, 0, 0) := rfl
theorem fX4_timeWeight_80 : fetch tX4_timeWeight 80 = some (.iaload, 1, 0, 0, 0, 0) := rfl
theorem fX4_timeWeight_81 : fetch tX4_timeWeight 81 = some (.invokestatic 67, 3, 5, 4, 0, 0) := rfl
theorem fX4_timeWeight_84 : fetch tX4_timeWeight 84 = some (.iload_n 3, 1, 3, 0, 0, 0) := rfl
theorem fX4_timeWeight_85 : fetch tX4_timeWeight 85 = some (.if_icmp .ne 8, 3, 93, 0, 0, 0) := rfl
theorem fX4_timeWeight_88 : fetch tX4_timeWeight 88 = some (.lload 7, 2, 7, 0, 0, 0) := rfl
theorem fX4_timeWeight_90 : fetch tX4_timeWeight 90 = some (.goto 4, 3, 94, 0, 0, 0) := rfl
theorem fX4_timeWeight_93 : fetch tX4_timeWeight 93 = some (.lconst 0, 1, 0, 0, 0, 0) := rfl
theorem fX4_timeWeight_94 : fetch tX4_timeWeight 94 = some (.ladd, 1, 0, 0, 0, 0) := rfl
theorem fX4_timeWeight_95 : fetch tX4_timeWeight 95 = some (.lstore 4, 2, 4, 0, 0, 0) := rfl
theorem fX4_timeWeight_97 : fetch tX4_timeWeight 97 = some (.iinc 6 1, 3, 6, 0, 1, 0) := rfl
theorem fX4_timeWeight_100 : fetch tX4_timeWeight 100 = some (.goto (-62), 3, 38, 0, 0, 0) := rfl
theorem fX4_timeWeight_103 : fetch tX4_timeWeight 103 = some (.lload 4, 2, 4, 0, 0, 0) := rfl
theorem fX4_timeWeight_105 : fetch tX4_timeWeight 105 = some (.lreturn, 1, 0, 0, 0, 0) := rfl
def tX4_reach : List (Nat × TE) := [(0, .iload_n 1, 1, 1, 0, 0, 0), (1, .invokestatic 74, 3, 0, 4, 0, 0), (4, .ifCond .ne 7, 3, 11, 0, 0, 0), (7, .ldc2_w 88, 3, 0, 0, 0, (-3)), (10, .lreturn, 1, 0, 0, 0, 0), (11, .lconst 0, 1, 0, 0, 0, 0), (12, .lstore_n 2, 1, 2, 0, 0, 0), (13, .iconst 0, 1, 0, 0, 0, 0), (14, .istore 4, 2, 4, 0, 0, 0), (16, .iload 4, 2, 4, 0, 0, 0), (18, .iconst 1, 1, 0, 0, 1, 0), (19, .aload_n 0, 1, 0, 0, 0, 0), (20, .getfield 7, 3, 4, 0, 0, 0), (23, .iconst 0, 1, 0, 0, 0, 0), (24, .iaload, 1, 0, 0, 0, 0), (25, .ishl, 1, 0, 0, 0, 0), (26, .if_icmp .ge 69, 3, 95, 0, 0, 0), (29, .aload_n 0, 1, 0, 0, 0, 0), (30, .iload 4, 2, 4, 0, 0, 0), (32, .invokevirtual 84, 3, 1, 4, 0, 0), (35, .lstore 5, 2, 5, 0, 0, 0), (37, .lload 5, 2, 5, 0, 0, 0), (39, .lconst 0, 1, 0, 0, 0, 0), (40, .lcmp, 1, 0, 0, 0, 0), (41, .ifCond .le 48, 3, 89, 0, 0, 0), (44, .aload_n 0, 1, 0, 0, 0, 0), (45, .iload_n 1, 1, 1, 0, 0, 0), (46, .iload 4, 2, 4, 0, 0, 0), (48, .invokevirtual 78, 3, 2, 4, 0, 0), (51, .iconst 0, 1, 0, 0, 0, 0), (52, .istore 7, 2, 7, 0, 0, 0), (54, .iload 7, 2, 7, 0, 0, 0), (56, .bipush 8, 2, 0, 0, 8, 0), (58, .if_icmp .ge 31, 3, 89, 0, 0, 0), (61, .lload_n 2, 1, 2, 0, 0, 0), (62, .aload_n 0, 1, 0, 0, 0, 0), (63, .getfield 13, 3, 4, 3, 0, 0), (66, .iload 7, 2, 7, 0, 0, 0), (68, .iaload, 1, 0, 0, 0, 0), (69, .sipush 1000, 3, 0, 0, 1000, 0), (72, .if_icmp .ne 7, 3, 79, 0, 0, 0), (75, .lconst 0, 1, 0, 0, 0, 0), (76, .goto 5, 3, 81, 0, 0, 0), (79, .lload 5, 2, 5, 0, 0, 0), (81, .ladd, 1, 0, 0, 0, 0), (82, .lstore_n 2, 1, 2, 0, 0, 0), (83, .iinc 7 1, 3, 7, 0, 1, 0), (86, .goto (-32), 3, 54, 0, 0, 0), (89, .iinc 4 1, 3, 4, 0, 1, 0), (92, .goto (-76), 3, 16, 0, 0, 0), (95, .lload_n 2, 1, 2, 0, 0, 0), (96, .lreturn, 1, 0, 0, 0, 0)]
theorem tkX4_reach : tOk cX4_reach "RumourSourceModel" 8 tX4_reach = true := by decide +kernel
theorem fX4_reach_0 : fetch tX4_reach 0 = some (.iload_n 1, 1, 1, 0, 0, 0) := rfl
theorem fX4_reach_1 : fetch tX4_reach 1 = some (.invokestatic 74, 3, 0, 4, 0, 0) := rfl
theorem fX4_reach_4 : fetch tX4_reach 4 = some (.ifCond .ne 7, 3, 11, 0, 0, 0) := rfl
theorem fX4_reach_7 : fetch tX4_reach 7 = some (.ldc2_w 88, 3, 0, 0, 0, (-3)) := rfl
theorem fX4_reach_10 : fetch tX4_reach 10 = some (.lreturn, 1, 0, 0, 0, 0) := rfl
theorem fX4_reach_11 : fetch tX4_reach 11 = some (.lconst 0, 1, 0, 0, 0, 0) := rfl
theorem fX4_reach_12 : fetch tX4_reach 12 = some (.lstore_n 2, 1, 2, 0, 0, 0) := rfl
theorem fX4_reach_13 : fetch tX4_reach 13 = some (.iconst 0, 1, 0, 0, 0, 0) := rfl
theorem fX4_reach_14 : fetch tX4_reach 14 = some (.istore 4, 2, 4, 0, 0, 0) := rfl
theorem fX4_reach_16 : fetch tX4_reach 16 = some (.iload 4, 2, 4, 0, 0, 0) := rfl
theorem fX4_reach_18 : fetch tX4_reach 18 = some (.iconst 1, 1, 0, 0, 1, 0) := rfl
theorem fX4_reach_19 : fetch tX4_reach 19 = some (.aload_n 0, 1, 0, 0, 0, 0) := rfl
theorem fX4_reach_20 : fetch tX4_reach 20 = some (.getfield 7, 3, 4, 0, 0, 0) := rfl
theorem fX4_reach_23 : fetch tX4_reach 23 = some (.iconst 0, 1, 0, 0, 0, 0) := rfl
theorem fX4_reach_24 : fetch tX4_reach 24 = some (.iaload, 1, 0, 0, 0, 0) := rfl
theorem fX4_reach_25 : fetch tX4_reach 25 = some (.ishl, 1, 0, 0, 0, 0) := rfl
theorem fX4_reach_26 : fetch tX4_reach 26 = some (.if_icmp .ge 69, 3, 95, 0, 0, 0) := rfl
theorem fX4_reach_29 : fetch tX4_reach 29 = some (.aload_n 0, 1, 0, 0, 0, 0) := rfl
theorem fX4_reach_30 : fetch tX4_reach 30 = some (.iload 4, 2, 4, 0, 0, 0) := rfl
theorem fX4_reach_32 : fetch tX4_reach 32 = some (.invokevirtual 84, 3, 1, 4, 0, 0) := rfl
theorem fX4_reach_35 : fetch tX4_reach 35 = some (.lstore 5, 2, 5, 0, 0, 0) := rfl
theorem fX4_reach_37 : fetch tX4_reach 37 = some (.lload 5, 2, 5, 0, 0, 0) := rfl
theorem fX4_reach_39 : fetch tX4_reach 39 = some (.lconst 0, 1, 0, 0, 0, 0) := rfl
theorem fX4_reach_40 : fetch tX4_reach 40 = some (.lcmp, 1, 0, 0, 0, 0) := rfl
theorem fX4_reach_41 : fetch tX4_reach 41 = some (.ifCond .le 48, 3, 89, 0, 0, 0) := rfl
theorem fX4_reach_44 : fetch tX4_reach 44 = some (.aload_n 0, 1, 0, 0, 0, 0) := rfl
theorem fX4_reach_45 : fetch tX4_reach 45 = some (.iload_n 1, 1, 1, 0, 0, 0) := rfl
theorem fX4_reach_46 : fetch tX4_reach 46 = some (.iload 4, 2, 4, 0, 0, 0) := rfl
theorem fX4_reach_48 : fetch tX4_reach 48 = some (.invokevirtual 78, 3, 2, 4, 0, 0) := rfl
theorem fX4_reach_51 : fetch tX4_reach 51 = some (.iconst 0, 1, 0, 0, 0, 0) := rfl
theorem fX4_reach_52 : fetch tX4_reach 52 = some (.istore 7, 2, 7, 0, 0, 0) := rfl
theorem fX4_reach_54 : fetch tX4_reach 54 = some (.iload 7, 2, 7, 0, 0, 0) := rfl
theorem fX4_reach_56 : fetch tX4_reach 56 = some (.bipush 8, 2, 0, 0, 8, 0) := rfl
theorem fX4_reach_58 : fetch tX4_reach 58 = some (.if_icmp .ge 31, 3, 89, 0, 0, 0) := rfl
theorem fX4_reach_61 : fetch tX4_reach 61 = some (.lload_n 2, 1, 2, 0, 0, 0) := rfl
theorem fX4_reach_62 : fetch tX4_reach 62 = some (.aload_n 0, 1, 0, 0, 0, 0) := rfl
theorem fX4_reach_63 : fetch tX4_reach 63 = some (.getfield 13, 3, 4, 3, 0, 0) := rfl
theorem fX4_reach_66 : fetch tX4_reach 66 = some (.iload 7, 2, 7, 0, 0, 0) := rfl
theorem fX4_reach_68 : fetch tX4_reach 68 = some (.iaload, 1, 0, 0, 0, 0) := rfl
theorem fX4_reach_69 : fetch tX4_reach 69 = some (.sipush 1000, 3, 0, 0, 1000, 0) := rfl
theorem fX4_reach_72 : fetch tX4_reach 72 = some (.if_icmp .ne 7, 3, 79, 0, 0, 0) := rfl
theorem fX4_reach_75 : fetch tX4_reach 75 = some (.lconst 0, 1, 0, 0, 0, 0) := rfl
theorem fX4_reach_76 : fetch tX4_reach 76 = some (.goto 5, 3, 81, 0, 0, 0) := rfl
theorem fX4_reach_79 : fetch tX4_reach 79 = some (.lload 5, 2, 5, 0, 0, 0) := rfl
theorem fX4_reach_81 : fetch tX4_reach 81 = some (.ladd, 1, 0, 0, 0, 0) := rfl
theorem fX4_reach_82 : fetch tX4_reach 82 = some (.lstore_n 2, 1, 2, 0, 0, 0) := rfl
theorem fX4_reach_83 : fetch tX4_reach 83 = some (.iinc 7 1, 3, 7, 0, 1, 0) := rfl
theorem fX4_reach_86 : fetch tX4_reach 86 = some (.goto (-32), 3, 54, 0, 0, 0) := rfl
theorem fX4_reach_89 : fetch tX4_reach 89 = some (.iinc 4 1, 3, 4, 0, 1, 0) := rfl
theorem fX4_reach_92 : fetch tX4_reach 92 = some (.goto (-76), 3, 16, 0, 0, 0) := rfl
theorem fX4_reach_95 : fetch tX4_reach 95 = some (.lload_n 2, 1, 2, 0, 0, 0) := rfl
theorem fX4_reach_96 : fetch tX4_reach 96 = some (.lreturn, 1, 0, 0, 0, 0) := rfl
def tX4_likelihoodOf : List (Nat × TE) := [(0, .lconst 0, 1, 0, 0, 0, 0), (1, .lstore_n 3, 1, 3, 0, 0, 0), (2, .iconst 0, 1, 0, 0, 0, 0), (3, .istore 5, 2, 5, 0, 0, 0), (5, .iload 5, 2, 5, 0, 0, 0), (7, .iconst 1, 1, 0, 0, 1, 0), (8, .aload_n 0, 1, 0, 0, 0, 0), (9, .getfield 7, 3, 4, 0, 0, 0), (12, .iconst 0, 1, 0, 0, 0, 0), (13, .iaload, 1, 0, 0, 0, 0), (14, .ishl, 1, 0, 0, 0, 0), (15, .if_icmp .ge 57, 3, 72, 0, 0, 0), (18, .lload_n 3, 1, 3, 0, 0, 0), (19, .lconst 0, 1, 0, 0, 0, 0), (20, .lcmp, 1, 0, 0, 0, 0), (21, .ifCond .eq 7, 3, 28, 0, 0, 0), (24, .iload_n 2, 1, 2, 0, 0, 0), (25, .ifCond .ne 47, 3, 72, 0, 0, 0), (28, .aload_n 0, 1, 0, 0, 0, 0), (29, .iload 5, 2, 5, 0, 0, 0), (31, .invokevirtual 84, 3, 0, 4, 0, 0), (34, .lstore 6, 2, 6, 0, 0, 0), (36, .lload 6, 2, 6, 0, 0, 0), (38, .lconst 0, 1, 0, 0, 0, 0), (39, .lcmp, 1, 0, 0, 0, 0), (40, .ifCond .le 26, 3, 66, 0, 0, 0), (43, .aload_n 0, 1, 0, 0, 0, 0), (44, .iload_n 1, 1, 1, 0, 0, 0), (45, .iload 5, 2, 5, 0, 0, 0), (47, .invokevirtual 78, 3, 1, 4, 0, 0), (50, .lload_n 3, 1, 3, 0, 0, 0), (51, .aload_n 0, 1, 0, 0, 0, 0), (52, .invokevirtual 90, 3, 2, 4, 0, 0), (55, .ifCond .eq 8, 3, 63, 0, 0, 0), (58, .lload 6, 2, 6, 0, 0, 0), (60, .goto 4, 3, 64, 0, 0, 0), (63, .lconst 0, 1, 0, 0, 0, 0), (64, .ladd, 1, 0, 0, 0, 0), (65, .lstore_n 3, 1, 3, 0, 0, 0), (66, .iinc 5 1, 3, 5, 0, 1, 0), (69, .goto (-64), 3, 5, 0, 0, 0), (72, .lload_n 3, 1, 3, 0, 0, 0), (73, .lreturn, 1, 0, 0, 0, 0)]
theorem tkX4_likelihoodOf : tOk cX4_likelihoodOf "RumourSourceModel" 8 tX4_likelihoodOf = true := by decide +kernel
theorem fX4_likelihoodOf_0 : fetch tX4_likelihoodOf 0 = some (.lconst 0, 1, 0, 0, 0, 0) := rfl
theorem fX4_likelihoodOf_1 : fetch tX4_likelihoodOf 1 = some (.lstore_n 3, 1, 3, 0, 0, 0) := rfl
theorem fX4_likelihoodOf_2 : fetch tX4_likelihoodOf 2 = some (.iconst 0, 1, 0, 0, 0, 0) := rfl
theorem fX4_likelihoodOf_3 : fetch tX4_likelihoodOf 3 = some (.istore 5, 2, 5, 0, 0, 0) := rfl
theorem fX4_likelihoodOf_5 : fetch tX4_likelihoodOf 5 = some (.iload 5, 2, 5, 0, 0, 0) := rfl
theorem fX4_likelihoodOf_7 : fetch tX4_likelihoodOf 7 = some (.iconst 1, 1, 0, 0, 1, 0) := rfl
theorem fX4_likelihoodOf_8 : fetch tX4_likelihoodOf 8 = some (.aload_n 0, 1, 0, 0, 0, 0) := rfl
theorem fX4_likelihoodOf_9 : fetch tX4_likelihoodOf 9 = some (.getfield 7, 3, 4, 0, 0, 0) := rfl
theorem fX4_likelihoodOf_12 : fetch tX4_likelihoodOf 12 = some (.iconst 0, 1, 0, 0, 0, 0) := rfl
theorem fX4_likelihoodOf_13 : fetch tX4_likelihoodOf 13 = some (.iaload, 1, 0, 0, 0, 0) := rfl
theorem fX4_likelihoodOf_14 : fetch tX4_likelihoodOf 14 = some (.ishl, 1, 0, 0, 0, 0) := rfl
theorem fX4_likelihoodOf_15 : fetch tX4_likelihoodOf 15 = some (.if_icmp .ge 57, 3, 72, 0, 0, 0) := rfl
theorem fX4_likelihoodOf_18 : fetch tX4_likelihoodOf 18 = some (.lload_n 3, 1, 3, 0, 0, 0) := rfl
theorem fX4_likelihoodOf_19 : fetch tX4_likelihoodOf 19 = some (.lconst 0, 1, 0, 0, 0, 0) := rfl
theorem fX4_likelihoodOf_20 : fetch tX4_likelihoodOf 20 = some (.lcmp, 1, 0, 0, 0, 0) := rfl
theorem fX4_likelihoodOf_21 : fetch tX4_likelihoodOf 21 = some (.ifCond .eq 7, 3, 28, 0, 0, 0) := rfl
theorem fX4_likelihoodOf_24 : fetch tX4_likelihoodOf 24 = some (.iload_n 2, 1, 2, 0, 0, 0) := rfl
theorem fX4_likelihoodOf_25 : fetch tX4_likelihoodOf 25 = some (.ifCond .ne 47, 3, 72, 0, 0, 0) := rfl
theorem fX4_likelihoodOf_28 : fetch tX4_likelihoodOf 28 = some (.aload_n 0, 1, 0, 0, 0, 0) := rfl
theorem fX4_likelihoodOf_29 : fetch tX4_likelihoodOf 29 = some (.iload 5, 2, 5, 0, 0, 0) := rfl
theorem fX4_likelihoodOf_31 : fetch tX4_likelihoodOf 31 = some (.invokevirtual 84, 3, 0, 4, 0, 0) := rfl
theorem fX4_likelihoodOf_34 : fetch tX4_likelihoodOf 34 = some (.lstore 6, 2, 6, 0, 0, 0) := rfl
theorem fX4_likelihoodOf_36 : fetch tX4_likelihoodOf 36 = some (.lload 6, 2, 6, 0, 0, 0) := rfl
theorem fX4_likelihoodOf_38 : fetch tX4_likelihoodOf 38 = some (.lconst 0, 1, 0, 0, 0, 0) := rfl
theorem fX4_likelihoodOf_39 : fetch tX4_likelihoodOf 39 = some (.lcmp, 1, 0, 0, 0, 0) := rfl
theorem fX4_likelihoodOf_40 : fetch tX4_likelihoodOf 40 = some (.ifCond .le 26, 3, 66, 0, 0, 0) := rfl
theorem fX4_likelihoodOf_43 : fetch tX4_likelihoodOf 43 = some (.aload_n 0, 1, 0, 0, 0, 0) := rfl
theorem fX4_likelihoodOf_44 : fetch tX4_likelihoodOf 44 = some (.iload_n 1, 1, 1, 0, 0, 0) := rfl
theorem fX4_likelihoodOf_45 : fetch tX4_likelihoodOf 45 = some (.iload 5, 2, 5, 0, 0, 0) := rfl
theorem fX4_likelihoodOf_47 : fetch tX4_likelihoodOf 47 = some (.invokevirtual 78, 3, 1, 4, 0, 0) := rfl
theorem fX4_likelihoodOf_50 : fetch tX4_likelihoodOf 50 = some (.lload_n 3, 1, 3, 0, 0, 0) := rfl
theorem fX4_likelihoodOf_51 : fetch tX4_likelihoodOf 51 = some (.aload_n 0, 1, 0, 0, 0, 0) := rfl
theorem fX4_likelihoodOf_52 : fetch tX4_likelihoodOf 52 = some (.invokevirtual 90, 3, 2, 4, 0, 0) := rfl
theorem fX4_likelihoodOf_55 : fetch tX4_likelihoodOf 55 = some (.ifCond .eq 8, 3, 63, 0, 0, 0) := rfl
theorem fX4_likelihoodOf_58 : fetch tX4_likelihoodOf 58 = some (.lload 6, 2, 6, 0, 0, 0) := rfl
theorem fX4_likelihoodOf_60 : fetch tX4_likelihoodOf 60 = some (.goto 4, 3, 64, 0, 0, 0) := rfl
theorem fX4_likelihoodOf_63 : fetch tX4_likelihoodOf 63 = some (.lconst 0, 1, 0, 0, 0, 0) := rfl
theorem fX4_likelihoodOf_64 : fetch tX4_likelihoodOf 64 = some (.ladd, 1, 0, 0, 0, 0) := rfl
theorem fX4_likelihoodOf_65 : fetch tX4_likelihoodOf 65 = some (.lstore_n 3, 1, 3, 0, 0, 0) := rfl
theorem fX4_likelihoodOf_66 : fetch tX4_likelihoodOf 66 = some (.iinc 5 1, 3, 5, 0, 1, 0) := rfl
theorem fX4_likelihoodOf_69 : fetch tX4_likelihoodOf 69 = some (.goto (-64), 3, 5, 0, 0, 0) := rfl
theorem fX4_likelihoodOf_72 : fetch tX4_likelihoodOf 72 = some (.lload_n 3, 1, 3, 0, 0, 0) := rfl
theorem fX4_likelihoodOf_73 : fetch tX4_likelihoodOf 73 = some (.lreturn, 1, 0, 0, 0, 0) := rfl
def tX4_findsSingle : List (Nat × TE) := [(0, .iconst 0, 1, 0, 0, 0, 0), (1, .istore_n 1, 1, 1, 0, 0, 0), (2, .iload_n 1, 1, 1, 0, 0, 0), (3, .bipush 8, 2, 0, 0, 8, 0), (5, .if_icmp .ge 30, 3, 35, 0, 0, 0), (8, .aload_n 0, 1, 0, 0, 0, 0), (9, .getfield 38, 3, 4, 2, 0, 0), (12, .ifCond .ne 23, 3, 35, 0, 0, 0), (15, .aload_n 0, 1, 0, 0, 0, 0), (16, .getfield 16, 3, 4, 4, 0, 0), (19, .iload_n 1, 1, 1, 0, 0, 0), (20, .aload_n 0, 1, 0, 0, 0, 0), (21, .iconst 1, 1, 0, 0, 1, 0), (22, .iload_n 1, 1, 1, 0, 0, 0), (23, .ishl, 1, 0, 0, 0, 0), (24, .iconst 0, 1, 0, 0, 0, 0), (25, .invokevirtual 96, 3, 0, 4, 0, 0), (28, .lastore, 1, 0, 0, 0, 0), (29, .iinc 1 1, 3, 1, 0, 1, 0), (32, .goto (-30), 3, 2, 0, 0, 0), (35, .aload_n 0, 1, 0, 0, 0, 0), (36, .iconst 1, 1, 0, 0, 1, 0), (37, .putfield 38, 3, 4, 2, 0, 0), (40, .return_, 1, 0, 0, 0, 0)]
theorem tkX4_findsSingle : tOk cX4_findsSingle "RumourSourceModel" 2 tX4_findsSingle = true := by decide +kernel
theorem fX4_findsSingle_0 : fetch tX4_findsSingle 0 = some (.iconst 0, 1, 0, 0, 0, 0) := rfl
theorem fX4_findsSingle_1 : fetch tX4_findsSingle 1 = some (.istore_n 1, 1, 1, 0, 0, 0) := rfl
theorem fX4_findsSingle_2 : fetch tX4_findsSingle 2 = some (.iload_n 1, 1, 1, 0, 0, 0) := rfl
theorem fX4_findsSingle_3 : fetch tX4_findsSingle 3 = some (.bipush 8, 2, 0, 0, 8, 0) := rfl
theorem fX4_findsSingle_5 : fetch tX4_findsSingle 5 = some (.if_icmp .ge 30, 3, 35, 0, 0, 0) := rfl
theorem fX4_findsSingle_8 : fetch tX4_findsSingle 8 = some (.aload_n 0, 1, 0, 0, 0, 0) := rfl
theorem fX4_findsSingle_9 : fetch tX4_findsSingle 9 = some (.getfield 38, 3, 4, 2, 0, 0) := rfl
theorem fX4_findsSingle_12 : fetch tX4_findsSingle 12 = some (.ifCond .ne 23, 3, 35, 0, 0, 0) := rfl
theorem fX4_findsSingle_15 : fetch tX4_findsSingle 15 = some (.aload_n 0, 1, 0, 0, 0, 0) := rfl
theorem fX4_findsSingle_16 : fetch tX4_findsSingle 16 = some (.getfield 16, 3, 4, 4, 0, 0) := rfl
theorem fX4_findsSingle_19 : fetch tX4_findsSingle 19 = some (.iload_n 1, 1, 1, 0, 0, 0) := rfl
theorem fX4_findsSingle_20 : fetch tX4_findsSingle 20 = some (.aload_n 0, 1, 0, 0, 0, 0) := rfl
theorem fX4_findsSingle_21 : fetch tX4_findsSingle 21 = some (.iconst 1, 1, 0, 0, 1, 0) := rfl
theorem fX4_findsSingle_22 : fetch tX4_findsSingle 22 = some (.iload_n 1, 1, 1, 0, 0, 0) := rfl
theorem fX4_findsSingle_23 : fetch tX4_findsSingle 23 = some (.ishl, 1, 0, 0, 0, 0) := rfl
theorem fX4_findsSingle_24 : fetch tX4_findsSingle 24 = some (.iconst 0, 1, 0, 0, 0, 0) := rfl
theorem fX4_findsSingle_25 : fetch tX4_findsSingle 25 = some (.invokevirtual 96, 3, 0, 4, 0, 0) := rfl
theorem fX4_findsSingle_28 : fetch tX4_findsSingle 28 = some (.lastore, 1, 0, 0, 0, 0) := rfl
theorem fX4_findsSingle_29 : fetch tX4_findsSingle 29 = some (.iinc 1 1, 3, 1, 0, 1, 0) := rfl
theorem fX4_findsSingle_32 : fetch tX4_findsSingle 32 = some (.goto (-30), 3, 2, 0, 0, 0) := rfl
theorem fX4_findsSingle_35 : fetch tX4_findsSingle 35 = some (.aload_n 0, 1, 0, 0, 0, 0) := rfl
theorem fX4_findsSingle_36 : fetch tX4_findsSingle 36 = some (.iconst 1, 1, 0, 0, 1, 0) := rfl
theorem fX4_findsSingle_37 : fetch tX4_findsSingle 37 = some (.putfield 38, 3, 4, 2, 0, 0) := rfl
theorem fX4_findsSingle_40 : fetch tX4_findsSingle 40 = some (.return_, 1, 0, 0, 0, 0) := rfl
def tX4_likelihood : List (Nat × TE) := [(0, .iload_n 1, 1, 1, 0, 0, 0), (1, .invokestatic 74, 3, 0, 4, 0, 0), (4, .ifCond .eq 12, 3, 16, 0, 0, 0), (7, .aload_n 0, 1, 0, 0, 0, 0), (8, .iload_n 1, 1, 1, 0, 0, 0), (9, .iconst 0, 1, 0, 0, 0, 0), (10, .invokevirtual 96, 3, 1, 4, 0, 0), (13, .goto 6, 3, 19, 0, 0, 0), (16, .ldc2_w 88, 3, 0, 0, 0, (-3)), (19, .lreturn, 1, 0, 0, 0, 0)]
theorem tkX4_likelihood : tOk cX4_likelihood "RumourSourceModel" 2 tX4_likelihood = true := by decide +kernel
theorem fX4_likelihood_0 : fetch tX4_likelihood 0 = some (.iload_n 1, 1, 1, 0, 0, 0) := rfl
theorem fX4_likelihood_1 : fetch tX4_likelihood 1 = some (.invokestatic 74, 3, 0, 4, 0, 0) := rfl
theorem fX4_likelihood_4 : fetch tX4_likelihood 4 = some (.ifCond .eq 12, 3, 16, 0, 0, 0) := rfl
theorem fX4_likelihood_7 : fetch tX4_likelihood 7 = some (.aload_n 0, 1, 0, 0, 0, 0) := rfl
theorem fX4_likelihood_8 : fetch tX4_likelihood 8 = some (.iload_n 1, 1, 1, 0, 0, 0) := rfl
theorem fX4_likelihood_9 : fetch tX4_likelihood 9 = some (.iconst 0, 1, 0, 0, 0, 0) := rfl
theorem fX4_likelihood_10 : fetch tX4_likelihood 10 = some (.invokevirtual 96, 3, 1, 4, 0, 0) := rfl
theorem fX4_likelihood_13 : fetch tX4_likelihood 13 = some (.goto 6, 3, 19, 0, 0, 0) := rfl
theorem fX4_likelihood_16 : fetch tX4_likelihood 16 = some (.ldc2_w 88, 3, 0, 0, 0, (-3)) := rfl
theorem fX4_likelihood_19 : fetch tX4_likelihood 19 = some (.lreturn, 1, 0, 0, 0, 0) := rfl
def tX4_candidates : List (Nat × TE) := [(0, .aload_n 0, 1, 0, 0, 0, 0), (1, .invokevirtual 100, 3, 0, 4, 0, 0), (4, .iconst 0, 1, 0, 0, 0, 0), (5, .istore_n 1, 1, 1, 0, 0, 0), (6, .iconst 0, 1, 0, 0, 0, 0), (7, .istore_n 2, 1, 2, 0, 0, 0), (8, .iload_n 2, 1, 2, 0, 0, 0), (9, .bipush 8, 2, 0, 0, 8, 0), (11, .if_icmp .ge 28, 3, 39, 0, 0, 0), (14, .iload_n 1, 1, 1, 0, 0, 0), (15, .aload_n 0, 1, 0, 0, 0, 0), (16, .getfield 16, 3, 4, 4, 0, 0), (19, .iload_n 2, 1, 2, 0, 0, 0), (20, .laload, 1, 0, 0, 0, 0), (21, .lconst 0, 1, 0, 0, 0, 0), (22, .lcmp, 1, 0, 0, 0, 0), (23, .ifCond .le 7, 3, 30, 0, 0, 0), (26, .iconst 1, 1, 0, 0, 1, 0), (27, .goto 4, 3, 31, 0, 0, 0), (30, .iconst 0, 1, 0, 0, 0, 0), (31, .iadd, 1, 0, 0, 0, 0), (32, .istore_n 1, 1, 1, 0, 0, 0), (33, .iinc 2 1, 3, 2, 0, 1, 0), (36, .goto (-28), 3, 8, 0, 0, 0), (39, .iload_n 1, 1, 1, 0, 0, 0), (40, .ireturn, 1, 0, 0, 0, 0)]
theorem tkX4_candidates : tOk cX4_candidates "RumourSourceModel" 3 tX4_candidates = true := by decide +kernel
theorem fX4_candidates_0 : fetch tX4_candidates 0 = some (.aload_n 0, 1, 0, 0, 0, 0) := rfl
theorem fX4_candidates_1 : fetch tX4_candidates 1 = some (.invokevirtual 100, 3, 0, 4, 0, 0) := rfl
theorem fX4_candidates_4 : fetch tX4_candidates 4 = some (.iconst 0, 1, 0, 0, 0, 0) := rfl
theorem fX4_candidates_5 : fetch tX4_candidates 5 = some (.istore_n 1, 1, 1, 0, 0, 0) := rfl
theorem fX4_candidates_6 : fetch tX4_candidates 6 = some (.iconst 0, 1, 0, 0, 0, 0) := rfl
theorem fX4_candidates_7 : fetch tX4_candidates 7 = some (.istore_n 2, 1, 2, 0, 0, 0) := rfl
theorem fX4_candidates_8 : fetch tX4_candidates 8 = some (.iload_n 2, 1, 2, 0, 0, 0) := rfl
theorem fX4_candidates_9 : fetch tX4_candidates 9 = some (.bipush 8, 2, 0, 0, 8, 0) := rfl
theorem fX4_candidates_11 : fetch tX4_candidates 11 = some (.if_icmp .ge 28, 3, 39, 0, 0, 0) := rfl
theorem fX4_candidates_14 : fetch tX4_candidates 14 = some (.iload_n 1, 1, 1, 0, 0, 0) := rfl
theorem fX4_candidates_15 : fetch tX4_candidates 15 = some (.aload_n 0, 1, 0, 0, 0, 0) := rfl
theorem fX4_candidates_16 : fetch tX4_candidates 16 = some (.getfield 16, 3, 4, 4, 0, 0) := rfl
theorem fX4_candidates_19 : fetch tX4_candidates 19 = some (.iload_n 2, 1, 2, 0, 0, 0) := rfl
theorem fX4_candidates_20 : fetch tX4_candidates 20 = some (.laload, 1, 0, 0, 0, 0) := rfl
theorem fX4_candidates_21 : fetch tX4_candidates 21 = some (.lconst 0, 1, 0, 0, 0, 0) := rfl
theorem fX4_candidates_22 : fetch tX4_candidates 22 = some (.lcmp, 1, 0, 0, 0, 0) := rfl
theorem fX4_candidates_23 : fetch tX4_candidates 23 = some (.ifCond .le 7, 3, 30, 0, 0, 0) := rfl
theorem fX4_candidates_26 : fetch tX4_candidates 26 = some (.iconst 1, 1, 0, 0, 1, 0) := rfl
theorem fX4_candidates_27 : fetch tX4_candidates 27 = some (.goto 4, 3, 31, 0, 0, 0) := rfl
theorem fX4_candidates_30 : fetch tX4_candidates 30 = some (.iconst 0, 1, 0, 0, 0, 0) := rfl
theorem fX4_candidates_31 : fetch tX4_candidates 31 = some (.iadd, 1, 0, 0, 0, 0) := rfl
theorem fX4_candidates_32 : fetch tX4_candidates 32 = some (.istore_n 1, 1, 1, 0, 0, 0) := rfl
theorem fX4_candidates_33 : fetch tX4_candidates 33 = some (.iinc 2 1, 3, 2, 0, 1, 0) := rfl
theorem fX4_candidates_36 : fetch tX4_candidates 36 = some (.goto (-28), 3, 8, 0, 0, 0) := rfl
theorem fX4_candidates_39 : fetch tX4_candidates 39 = some (.iload_n 1, 1, 1, 0, 0, 0) := rfl
theorem fX4_candidates_40 : fetch tX4_candidates 40 = some (.ireturn, 1, 0, 0, 0, 0) := rfl
def tX4_candidate : List (Nat × TE) := [(0, .aload_n 0, 1, 0, 0, 0, 0), (1, .invokevirtual 100, 3, 0, 4, 0, 0), (4, .iconst 0, 1, 0, 0, 0, 0), (5, .istore_n 2, 1, 2, 0, 0, 0), (6, .iload_n 2, 1, 2, 0, 0, 0), (7, .bipush 8, 2, 0, 0, 8, 0), (9, .if_icmp .ge 93, 3, 102, 0, 0, 0), (12, .iconst 0, 1, 0, 0, 0, 0), (13, .istore_n 3, 1, 3, 0, 0, 0), (14, .iconst 0, 1, 0, 0, 0, 0), (15, .istore 4, 2, 4, 0, 0, 0), (17, .iload 4, 2, 4, 0, 0, 0), (19, .bipush 8, 2, 0, 0, 8, 0), (21, .if_icmp .ge 57, 3, 78, 0, 0, 0), (24, .iload_n 3, 1, 3, 0, 0, 0), (25, .aload_n 0, 1, 0, 0, 0, 0), (26, .getfield 16, 3, 4, 4, 0, 0), (29, .iload 4, 2, 4, 0, 0, 0), (31, .laload, 1, 0, 0, 0, 0), (32, .aload_n 0, 1, 0, 0, 0, 0), (33, .getfield 16, 3, 4, 4, 0, 0), (36, .iload_n 2, 1, 2, 0, 0, 0), (37, .laload, 1, 0, 0, 0, 0), (38, .lcmp, 1, 0, 0, 0, 0), (39, .ifCond .gt 26, 3, 65, 0, 0, 0), (42, .aload_n 0, 1, 0, 0, 0, 0), (43, .getfield 16, 3, 4, 4, 0, 0), (46, .iload 4, 2, 4, 0, 0, 0), (48, .laload, 1, 0, 0, 0, 0), (49, .aload_n 0, 1, 0, 0, 0, 0), (50, .getfield 16, 3, 4, 4, 0, 0), (53, .iload_n 2, 1, 2, 0, 0, 0), (54, .laload, 1, 0, 0, 0, 0), (55, .lcmp, 1, 0, 0, 0, 0), (56, .ifCond .ne 13, 3, 69, 0, 0, 0), (59, .iload 4, 2, 4, 0, 0, 0), (61, .iload_n 2, 1, 2, 0, 0, 0), (62, .if_icmp .ge 7, 3, 69, 0, 0, 0), (65, .iconst 1, 1, 0, 0, 1, 0), (66, .goto 4, 3, 70, 0, 0, 0), (69, .iconst 0, 1, 0, 0, 0, 0), (70, .iadd, 1, 0, 0, 0, 0), (71, .istore_n 3, 1, 3, 0, 0, 0), (72, .iinc 4 1, 3, 4, 0, 1, 0), (75, .goto (-58), 3, 17, 0, 0, 0), (78, .aload_n 0, 1, 0, 0, 0, 0), (79, .getfield 16, 3, 4, 4, 0, 0), (82, .iload_n 2, 1, 2, 0, 0, 0), (83, .laload, 1, 0, 0, 0, 0), (84, .lconst 0, 1, 0, 0, 0, 0), (85, .lcmp, 1, 0, 0, 0, 0), (86, .ifCond .le 10, 3, 96, 0, 0, 0), (89, .iload_n 3, 1, 3, 0, 0, 0), (90, .iload_n 1, 1, 1, 0, 0, 0), (91, .if_icmp .ne 5, 3, 96, 0, 0, 0), (94, .iload_n 2, 1, 2, 0, 0, 0), (95, .ireturn, 1, 0, 0, 0, 0), (96, .iinc 2 1, 3, 2, 0, 1, 0), (99, .goto (-93), 3, 6, 0, 0, 0), (102, .bipush (-2), 2, 0, 0, (-2), 0), (104, .ireturn, 1, 0, 0, 0, 0)]
theorem tkX4_candidate : tOk cX4_candidate "RumourSourceModel" 5 tX4_candidate = true := by decide +kernel
theorem fX4_candidate_0 : fetch tX4_candidate 0 = some (.aload_n 0, 1, 0, 0, 0, 0) := rfl
theorem fX4_candidate_1 : fetch tX4_candidate 1 = some (.invokevirtual 100, 3, 0, 4, 0, 0) := rfl
theorem fX4_candidate_4 : fetch tX4_candidate 4 = some (.iconst 0, 1, 0, 0, 0, 0) := rfl
theorem fX4_candidate_5 : fetch tX4_candidate 5 = some (.istore_n 2, 1, 2, 0, 0, 0) := rfl
theorem fX4_candidate_6 : fetch tX4_candidate 6 = some (.iload_n 2, 1, 2, 0, 0, 0) := rfl
theorem fX4_candidate_7 : fetch tX4_candidate 7 = some (.bipush 8, 2, 0, 0, 8, 0) := rfl
theorem fX4_candidate_9 : fetch tX4_candidate 9 = some (.if_icmp .ge 93, 3, 102, 0, 0, 0) := rfl
theorem fX4_candidate_12 : fetch tX4_candidate 12 = some (.iconst 0, 1, 0, 0, 0, 0) := rfl
theorem fX4_candidate_13 : fetch tX4_candidate 13 = some (.istore_n 3, 1, 3, 0, 0, 0) := rfl
theorem fX4_candidate_14 : fetch tX4_candidate 14 = some (.iconst 0, 1, 0, 0, 0, 0) := rfl
theorem fX4_candidate_15 : fetch tX4_candidate 15 = some (.istore 4, 2, 4, 0, 0, 0) := rfl
theorem fX4_candidate_17 : fetch tX4_candidate 17 = some (.iload 4, 2, 4, 0, 0, 0) := rfl
theorem fX4_candidate_19 : fetch tX4_candidate 19 = some (.bipush 8, 2, 0, 0, 8, 0) := rfl
theorem fX4_candidate_21 : fetch tX4_candidate 21 = some (.if_icmp .ge 57, 3, 78, 0, 0, 0) := rfl
theorem fX4_candidate_24 : fetch tX4_candidate 24 = some (.iload_n 3, 1, 3, 0, 0, 0) := rfl
theorem fX4_candidate_25 : fetch tX4_candidate 25 = some (.aload_n 0, 1, 0, 0, 0, 0) := rfl
theorem fX4_candidate_26 : fetch tX4_candidate 26 = some (.getfield 16, 3, 4, 4, 0, 0) := rfl
theorem fX4_candidate_29 : fetch tX4_candidate 29 = some (.iload 4, 2, 4, 0, 0, 0) := rfl
theorem fX4_candidate_31 : fetch tX4_candidate 31 = some (.laload, 1, 0, 0, 0, 0) := rfl
theorem fX4_candidate_32 : fetch tX4_candidate 32 = some (.aload_n 0, 1, 0, 0, 0, 0) := rfl
theorem fX4_candidate_33 : fetch tX4_candidate 33 = some (.getfield 16, 3, 4, 4, 0, 0) := rfl
theorem fX4_candidate_36 : fetch tX4_candidate 36 = some (.iload_n 2, 1, 2, 0, 0, 0) := rfl
theorem fX4_candidate_37 : fetch tX4_candidate 37 = some (.laload, 1, 0, 0, 0, 0) := rfl
theorem fX4_candidate_38 : fetch tX4_candidate 38 = some (.lcmp, 1, 0, 0, 0, 0) := rfl
theorem fX4_candidate_39 : fetch tX4_candidate 39 = some (.ifCond .gt 26, 3, 65, 0, 0, 0) := rfl
theorem fX4_candidate_42 : fetch tX4_candidate 42 = some (.aload_n 0, 1, 0, 0, 0, 0) := rfl
theorem fX4_candidate_43 : fetch tX4_candidate 43 = some (.getfield 16, 3, 4, 4, 0, 0) := rfl
theorem fX4_candidate_46 : fetch tX4_candidate 46 = some (.iload 4, 2, 4, 0, 0, 0) := rfl
theorem fX4_candidate_48 : fetch tX4_candidate 48 = some (.laload, 1, 0, 0, 0, 0) := rfl
theorem fX4_candidate_49 : fetch tX4_candidate 49 = some (.aload_n 0, 1, 0, 0, 0, 0) := rfl
theorem fX4_candidate_50 : fetch tX4_candidate 50 = some (.getfield 16, 3, 4, 4, 0, 0) := rfl
theorem fX4_candidate_53 : fetch tX4_candidate 53 = some (.iload_n 2, 1, 2, 0, 0, 0) := rfl
theorem fX4_candidate_54 : fetch tX4_candidate 54 = some (.laload, 1, 0, 0, 0, 0) := rfl
theorem fX4_candidate_55 : fetch tX4_candidate 55 = some (.lcmp, 1, 0, 0, 0, 0) := rfl
theorem fX4_candidate_56 : fetch tX4_candidate 56 = some (.ifCond .ne 13, 3, 69, 0, 0, 0) := rfl
theorem fX4_candidate_59 : fetch tX4_candidate 59 = some (.iload 4, 2, 4, 0, 0, 0) := rfl
theorem fX4_candidate_61 : fetch tX4_candidate 61 = some (.iload_n 2, 1, 2, 0, 0, 0) := rfl
theorem fX4_candidate_62 : fetch tX4_candidate 62 = some (.if_icmp .ge 7, 3, 69, 0, 0, 0) := rfl
theorem fX4_candidate_65 : fetch tX4_candidate 65 = some (.iconst 1, 1, 0, 0, 1, 0) := rfl
theorem fX4_candidate_66 : fetch tX4_candidate 66 = some (.goto 4, 3, 70, 0, 0, 0) := rfl
theorem fX4_candidate_69 : fetch tX4_candidate 69 = some (.iconst 0, 1, 0, 0, 0, 0) := rfl
theorem fX4_candidate_70 : fetch tX4_candidate 70 = some (.iadd, 1, 0, 0, 0, 0) := rfl
theorem fX4_candidate_71 : fetch tX4_candidate 71 = some (.istore_n 3, 1, 3, 0, 0, 0) := rfl
theorem fX4_candidate_72 : fetch tX4_candidate 72 = some (.iinc 4 1, 3, 4, 0, 1, 0) := rfl
theorem fX4_candidate_75 : fetch tX4_candidate 75 = some (.goto (-58), 3, 17, 0, 0, 0) := rfl
theorem fX4_candidate_78 : fetch tX4_candidate 78 = some (.aload_n 0, 1, 0, 0, 0, 0) := rfl
theorem fX4_candidate_79 : fetch tX4_candidate 79 = some (.getfield 16, 3, 4, 4, 0, 0) := rfl
theorem fX4_candidate_82 : fetch tX4_candidate 82 = some (.iload_n 2, 1, 2, 0, 0, 0) := rfl
theorem fX4_candidate_83 : fetch tX4_candidate 83 = some (.laload, 1, 0, 0, 0, 0) := rfl
theorem fX4_candidate_84 : fetch tX4_candidate 84 = some (.lconst 0, 1, 0, 0, 0, 0) := rfl
theorem fX4_candidate_85 : fetch tX4_candidate 85 = some (.lcmp, 1, 0, 0, 0, 0) := rfl
theorem fX4_candidate_86 : fetch tX4_candidate 86 = some (.ifCond .le 10, 3, 96, 0, 0, 0) := rfl
theorem fX4_candidate_89 : fetch tX4_candidate 89 = some (.iload_n 3, 1, 3, 0, 0, 0) := rfl
theorem fX4_candidate_90 : fetch tX4_candidate 90 = some (.iload_n 1, 1, 1, 0, 0, 0) := rfl
theorem fX4_candidate_91 : fetch tX4_candidate 91 = some (.if_icmp .ne 5, 3, 96, 0, 0, 0) := rfl
theorem fX4_candidate_94 : fetch tX4_candidate 94 = some (.iload_n 2, 1, 2, 0, 0, 0) := rfl
theorem fX4_candidate_95 : fetch tX4_candidate 95 = some (.ireturn, 1, 0, 0, 0, 0) := rfl
theorem fX4_candidate_96 : fetch tX4_candidate 96 = some (.iinc 2 1, 3, 2, 0, 1, 0) := rfl
theorem fX4_candidate_99 : fetch tX4_candidate 99 = some (.goto (-93), 3, 6, 0, 0, 0) := rfl
theorem fX4_candidate_102 : fetch tX4_candidate 102 = some (.bipush (-2), 2, 0, 0, (-2), 0) := rfl
theorem fX4_candidate_104 : fetch tX4_candidate 104 = some (.ireturn, 1, 0, 0, 0, 0) := rfl
def tX4_belief : List (Nat × TE) := [(0, .iload_n 1, 1, 1, 0, 0, 0), (1, .invokestatic 50, 3, 0, 4, 0, 0), (4, .ifCond .ne 6, 3, 10, 0, 0, 0), (7, .bipush (-2), 2, 0, 0, (-2), 0), (9, .ireturn, 1, 0, 0, 0, 0), (10, .aload_n 0, 1, 0, 0, 0, 0), (11, .invokevirtual 100, 3, 1, 4, 0, 0), (14, .lconst 0, 1, 0, 0, 0, 0), (15, .lstore_n 2, 1, 2, 0, 0, 0), (16, .iconst 0, 1, 0, 0, 0, 0), (17, .istore 4, 2, 4, 0, 0, 0), (19, .iload 4, 2, 4, 0, 0, 0), (21, .bipush 8, 2, 0, 0, 8, 0), (23, .if_icmp .ge 19, 3, 42, 0, 0, 0), (26, .lload_n 2, 1, 2, 0, 0, 0), (27, .aload_n 0, 1, 0, 0, 0, 0), (28, .getfield 16, 3, 4, 4, 0, 0), (31, .iload 4, 2, 4, 0, 0, 0), (33, .laload, 1, 0, 0, 0, 0), (34, .ladd, 1, 0, 0, 0, 0), (35, .lstore_n 2, 1, 2, 0, 0, 0), (36, .iinc 4 1, 3, 4, 0, 1, 0), (39, .goto (-20), 3, 19, 0, 0, 0), (42, .aload_n 0, 1, 0, 0, 0, 0), (43, .getfield 16, 3, 4, 4, 0, 0), (46, .iload_n 1, 1, 1, 0, 0, 0), (47, .laload, 1, 0, 0, 0, 0), (48, .lconst 0, 1, 0, 0, 0, 0), (49, .lcmp, 1, 0, 0, 0, 0), (50, .ifCond .ne 7, 3, 57, 0, 0, 0), (53, .iconst 0, 1, 0, 0, 0, 0), (54, .goto 16, 3, 70, 0, 0, 0), (57, .ldc2_w 103, 3, 0, 0, 0, 1000), (60, .aload_n 0, 1, 0, 0, 0, 0), (61, .getfield 16, 3, 4, 4, 0, 0), (64, .iload_n 1, 1, 1, 0, 0, 0), (65, .laload, 1, 0, 0, 0, 0), (66, .lmul, 1, 0, 0, 0, 0), (67, .lload_n 2, 1, 2, 0, 0, 0), (68, .ldiv, 1, 0, 0, 0, 0), (69, .l2i, 1, 0, 0, 0, 0), (70, .ireturn, 1, 0, 0, 0, 0)]
theorem tkX4_belief : tOk cX4_belief "RumourSourceModel" 5 tX4_belief = true := by decide +kernel
theorem fX4_belief_0 : fetch tX4_belief 0 = some (.iload_n 1, 1, 1, 0, 0, 0) := rfl
theorem fX4_belief_1 : fetch tX4_belief 1 = some (.invokestatic 50, 3, 0, 4, 0, 0) := rfl
theorem fX4_belief_4 : fetch tX4_belief 4 = some (.ifCond .ne 6, 3, 10, 0, 0, 0) := rfl
theorem fX4_belief_7 : fetch tX4_belief 7 = some (.bipush (-2), 2, 0, 0, (-2), 0) := rfl
theorem fX4_belief_9 : fetch tX4_belief 9 = some (.ireturn, 1, 0, 0, 0, 0) := rfl
theorem fX4_belief_10 : fetch tX4_belief 10 = some (.aload_n 0, 1, 0, 0, 0, 0) := rfl
theorem fX4_belief_11 : fetch tX4_belief 11 = some (.invokevirtual 100, 3, 1, 4, 0, 0) := rfl
theorem fX4_belief_14 : fetch tX4_belief 14 = some (.lconst 0, 1, 0, 0, 0, 0) := rfl
theorem fX4_belief_15 : fetch tX4_belief 15 = some (.lstore_n 2, 1, 2, 0, 0, 0) := rfl
theorem fX4_belief_16 : fetch tX4_belief 16 = some (.iconst 0, 1, 0, 0, 0, 0) := rfl
theorem fX4_belief_17 : fetch tX4_belief 17 = some (.istore 4, 2, 4, 0, 0, 0) := rfl
theorem fX4_belief_19 : fetch tX4_belief 19 = some (.iload 4, 2, 4, 0, 0, 0) := rfl
theorem fX4_belief_21 : fetch tX4_belief 21 = some (.bipush 8, 2, 0, 0, 8, 0) := rfl
theorem fX4_belief_23 : fetch tX4_belief 23 = some (.if_icmp .ge 19, 3, 42, 0, 0, 0) := rfl
theorem fX4_belief_26 : fetch tX4_belief 26 = some (.lload_n 2, 1, 2, 0, 0, 0) := rfl
theorem fX4_belief_27 : fetch tX4_belief 27 = some (.aload_n 0, 1, 0, 0, 0, 0) := rfl
theorem fX4_belief_28 : fetch tX4_belief 28 = some (.getfield 16, 3, 4, 4, 0, 0) := rfl
theorem fX4_belief_31 : fetch tX4_belief 31 = some (.iload 4, 2, 4, 0, 0, 0) := rfl
theorem fX4_belief_33 : fetch tX4_belief 33 = some (.laload, 1, 0, 0, 0, 0) := rfl
theorem fX4_belief_34 : fetch tX4_belief 34 = some (.ladd, 1, 0, 0, 0, 0) := rfl
theorem fX4_belief_35 : fetch tX4_belief 35 = some (.lstore_n 2, 1, 2, 0, 0, 0) := rfl
theorem fX4_belief_36 : fetch tX4_belief 36 = some (.iinc 4 1, 3, 4, 0, 1, 0) := rfl
theorem fX4_belief_39 : fetch tX4_belief 39 = some (.goto (-20), 3, 19, 0, 0, 0) := rfl
theorem fX4_belief_42 : fetch tX4_belief 42 = some (.aload_n 0, 1, 0, 0, 0, 0) := rfl
theorem fX4_belief_43 : fetch tX4_belief 43 = some (.getfield 16, 3, 4, 4, 0, 0) := rfl
theorem fX4_belief_46 : fetch tX4_belief 46 = some (.iload_n 1, 1, 1, 0, 0, 0) := rfl
theorem fX4_belief_47 : fetch tX4_belief 47 = some (.laload, 1, 0, 0, 0, 0) := rfl
theorem fX4_belief_48 : fetch tX4_belief 48 = some (.lconst 0, 1, 0, 0, 0, 0) := rfl
theorem fX4_belief_49 : fetch tX4_belief 49 = some (.lcmp, 1, 0, 0, 0, 0) := rfl
theorem fX4_belief_50 : fetch tX4_belief 50 = some (.ifCond .ne 7, 3, 57, 0, 0, 0) := rfl
theorem fX4_belief_53 : fetch tX4_belief 53 = some (.iconst 0, 1, 0, 0, 0, 0) := rfl
theorem fX4_belief_54 : fetch tX4_belief 54 = some (.goto 16, 3, 70, 0, 0, 0) := rfl
theorem fX4_belief_57 : fetch tX4_belief 57 = some (.ldc2_w 103, 3, 0, 0, 0, 1000) := rfl
theorem fX4_belief_60 : fetch tX4_belief 60 = some (.aload_n 0, 1, 0, 0, 0, 0) := rfl
theorem fX4_belief_61 : fetch tX4_belief 61 = some (.getfield 16, 3, 4, 4, 0, 0) := rfl
theorem fX4_belief_64 : fetch tX4_belief 64 = some (.iload_n 1, 1, 1, 0, 0, 0) := rfl
theorem fX4_belief_65 : fetch tX4_belief 65 = some (.laload, 1, 0, 0, 0, 0) := rfl
theorem fX4_belief_66 : fetch tX4_belief 66 = some (.lmul, 1, 0, 0, 0, 0) := rfl
theorem fX4_belief_67 : fetch tX4_belief 67 = some (.lload_n 2, 1, 2, 0, 0, 0) := rfl
theorem fX4_belief_68 : fetch tX4_belief 68 = some (.ldiv, 1, 0, 0, 0, 0) := rfl
theorem fX4_belief_69 : fetch tX4_belief 69 = some (.l2i, 1, 0, 0, 0, 0) := rfl
theorem fX4_belief_70 : fetch tX4_belief 70 = some (.ireturn, 1, 0, 0, 0, 0) := rfl
def tX4_decoy : List (Nat × TE) := [(0, .iload_n 1, 1, 1, 0, 0, 0), (1, .invokestatic 50, 3, 0, 4, 0, 0), (4, .ifCond .ne 6, 3, 10, 0, 0, 0), (7, .bipush (-2), 2, 0, 0, (-2), 0), (9, .ireturn, 1, 0, 0, 0, 0), (10, .iconst (-1), 1, 0, 0, (-1), 0), (11, .istore_n 2, 1, 2, 0, 0, 0), (12, .lconst 0, 1, 0, 0, 0, 0), (13, .lstore_n 3, 1, 3, 0, 0, 0), (14, .iconst 0, 1, 0, 0, 0, 0), (15, .istore 5, 2, 5, 0, 0, 0), (17, .iload 5, 2, 5, 0, 0, 0), (19, .bipush 8, 2, 0, 0, 8, 0), (21, .if_icmp .ge 62, 3, 83, 0, 0, 0), (24, .iload 5, 2, 5, 0, 0, 0), (26, .iload_n 1, 1, 1, 0, 0, 0), (27, .if_icmp .ne 7, 3, 34, 0, 0, 0), (30, .lconst 0, 1, 0, 0, 0, 0), (31, .goto 16, 3, 47, 0, 0, 0), (34, .aload_n 0, 1, 0, 0, 0, 0), (35, .iconst 1, 1, 0, 0, 1, 0), (36, .iload_n 1, 1, 1, 0, 0, 0), (37, .ishl, 1, 0, 0, 0, 0), (38, .iconst 1, 1, 0, 0, 1, 0), (39, .iload 5, 2, 5, 0, 0, 0), (41, .ishl, 1, 0, 0, 0, 0), (42, .ior, 1, 0, 0, 0, 0), (43, .iconst 0, 1, 0, 0, 0, 0), (44, .invokevirtual 96, 3, 1, 4, 0, 0), (47, .lstore 6, 2, 6, 0, 0, 0), (49, .lload 6, 2, 6, 0, 0, 0), (51, .lload_n 3, 1, 3, 0, 0, 0), (52, .lcmp, 1, 0, 0, 0, 0), (53, .ifCond .le 8, 3, 61, 0, 0, 0), (56, .iload 5, 2, 5, 0, 0, 0), (58, .goto 4, 3, 62, 0, 0, 0), (61, .iload_n 2, 1, 2, 0, 0, 0), (62, .istore_n 2, 1, 2, 0, 0, 0), (63, .lload 6, 2, 6, 0, 0, 0), (65, .lload_n 3, 1, 3, 0, 0, 0), (66, .lcmp, 1, 0, 0, 0, 0), (67, .ifCond .le 8, 3, 75, 0, 0, 0), (70, .lload 6, 2, 6, 0, 0, 0), (72, .goto 4, 3, 76, 0, 0, 0), (75, .lload_n 3, 1, 3, 0, 0, 0), (76, .lstore_n 3, 1, 3, 0, 0, 0), (77, .iinc 5 1, 3, 5, 0, 1, 0), (80, .goto (-63), 3, 17, 0, 0, 0), (83, .iload_n 2, 1, 2, 0, 0, 0), (84, .ireturn, 1, 0, 0, 0, 0)]
theorem tkX4_decoy : tOk cX4_decoy "RumourSourceModel" 8 tX4_decoy = true := by decide +kernel
theorem fX4_decoy_0 : fetch tX4_decoy 0 = some (.iload_n 1, 1, 1, 0, 0, 0) := rfl
theorem fX4_decoy_1 : fetch tX4_decoy 1 = some (.invokestatic 50, 3, 0, 4, 0, 0) := rfl
theorem fX4_decoy_4 : fetch tX4_decoy 4 = some (.ifCond .ne 6, 3, 10, 0, 0, 0) := rfl
theorem fX4_decoy_7 : fetch tX4_decoy 7 = some (.bipush (-2), 2, 0, 0, (-2), 0) := rfl
theorem fX4_decoy_9 : fetch tX4_decoy 9 = some (.ireturn, 1, 0, 0, 0, 0) := rfl
theorem fX4_decoy_10 : fetch tX4_decoy 10 = some (.iconst (-1), 1, 0, 0, (-1), 0) := rfl
theorem fX4_decoy_11 : fetch tX4_decoy 11 = some (.istore_n 2, 1, 2, 0, 0, 0) := rfl
theorem fX4_decoy_12 : fetch tX4_decoy 12 = some (.lconst 0, 1, 0, 0, 0, 0) := rfl
theorem fX4_decoy_13 : fetch tX4_decoy 13 = some (.lstore_n 3, 1, 3, 0, 0, 0) := rfl
theorem fX4_decoy_14 : fetch tX4_decoy 14 = some (.iconst 0, 1, 0, 0, 0, 0) := rfl
theorem fX4_decoy_15 : fetch tX4_decoy 15 = some (.istore 5, 2, 5, 0, 0, 0) := rfl
theorem fX4_decoy_17 : fetch tX4_decoy 17 = some (.iload 5, 2, 5, 0, 0, 0) := rfl
theorem fX4_decoy_19 : fetch tX4_decoy 19 = some (.bipush 8, 2, 0, 0, 8, 0) := rfl
theorem fX4_decoy_21 : fetch tX4_decoy 21 = some (.if_icmp .ge 62, 3, 83, 0, 0, 0) := rfl
theorem fX4_decoy_24 : fetch tX4_decoy 24 = some (.iload 5, 2, 5, 0, 0, 0) := rfl
theorem fX4_decoy_26 : fetch tX4_decoy 26 = some (.iload_n 1, 1, 1, 0, 0, 0) := rfl
theorem fX4_decoy_27 : fetch tX4_decoy 27 = some (.if_icmp .ne 7, 3, 34, 0, 0, 0) := rfl
theorem fX4_decoy_30 : fetch tX4_decoy 30 = some (.lconst 0, 1, 0, 0, 0, 0) := rfl
theorem fX4_decoy_31 : fetch tX4_decoy 31 = some (.goto 16, 3, 47, 0, 0, 0) := rfl
theorem fX4_decoy_34 : fetch tX4_decoy 34 = some (.aload_n 0, 1, 0, 0, 0, 0) := rfl
theorem fX4_decoy_35 : fetch tX4_decoy 35 = some (.iconst 1, 1, 0, 0, 1, 0) := rfl
theorem fX4_decoy_36 : fetch tX4_decoy 36 = some (.iload_n 1, 1, 1, 0, 0, 0) := rfl
theorem fX4_decoy_37 : fetch tX4_decoy 37 = some (.ishl, 1, 0, 0, 0, 0) := rfl
theorem fX4_decoy_38 : fetch tX4_decoy 38 = some (.iconst 1, 1, 0, 0, 1, 0) := rfl
theorem fX4_decoy_39 : fetch tX4_decoy 39 = some (.iload 5, 2, 5, 0, 0, 0) := rfl
theorem fX4_decoy_41 : fetch tX4_decoy 41 = some (.ishl, 1, 0, 0, 0, 0) := rfl
theorem fX4_decoy_42 : fetch tX4_decoy 42 = some (.ior, 1, 0, 0, 0, 0) := rfl
theorem fX4_decoy_43 : fetch tX4_decoy 43 = some (.iconst 0, 1, 0, 0, 0, 0) := rfl
theorem fX4_decoy_44 : fetch tX4_decoy 44 = some (.invokevirtual 96, 3, 1, 4, 0, 0) := rfl
theorem fX4_decoy_47 : fetch tX4_decoy 47 = some (.lstore 6, 2, 6, 0, 0, 0) := rfl
theorem fX4_decoy_49 : fetch tX4_decoy 49 = some (.lload 6, 2, 6, 0, 0, 0) := rfl
theorem fX4_decoy_51 : fetch tX4_decoy 51 = some (.lload_n 3, 1, 3, 0, 0, 0) := rfl
theorem fX4_decoy_52 : fetch tX4_decoy 52 = some (.lcmp, 1, 0, 0, 0, 0) := rfl
theorem fX4_decoy_53 : fetch tX4_decoy 53 = some (.ifCond .le 8, 3, 61, 0, 0, 0) := rfl
theorem fX4_decoy_56 : fetch tX4_decoy 56 = some (.iload 5, 2, 5, 0, 0, 0) := rfl
theorem fX4_decoy_58 : fetch tX4_decoy 58 = some (.goto 4, 3, 62, 0, 0, 0) := rfl
theorem fX4_decoy_61 : fetch tX4_decoy 61 = some (.iload_n 2, 1, 2, 0, 0, 0) := rfl
theorem fX4_decoy_62 : fetch tX4_decoy 62 = some (.istore_n 2, 1, 2, 0, 0, 0) := rfl
theorem fX4_decoy_63 : fetch tX4_decoy 63 = some (.lload 6, 2, 6, 0, 0, 0) := rfl
theorem fX4_decoy_65 : fetch tX4_decoy 65 = some (.lload_n 3, 1, 3, 0, 0, 0) := rfl
theorem fX4_decoy_66 : fetch tX4_decoy 66 = some (.lcmp, 1, 0, 0, 0, 0) := rfl
theorem fX4_decoy_67 : fetch tX4_decoy 67 = some (.ifCond .le 8, 3, 75, 0, 0, 0) := rfl
theorem fX4_decoy_70 : fetch tX4_decoy 70 = some (.lload 6, 2, 6, 0, 0, 0) := rfl
theorem fX4_decoy_72 : fetch tX4_decoy 72 = some (.goto 4, 3, 76, 0, 0, 0) := rfl
theorem fX4_decoy_75 : fetch tX4_decoy 75 = some (.lload_n 3, 1, 3, 0, 0, 0) := rfl
theorem fX4_decoy_76 : fetch tX4_decoy 76 = some (.lstore_n 3, 1, 3, 0, 0, 0) := rfl
theorem fX4_decoy_77 : fetch tX4_decoy 77 = some (.iinc 5 1, 3, 5, 0, 1, 0) := rfl
theorem fX4_decoy_80 : fetch tX4_decoy 80 = some (.goto (-63), 3, 17, 0, 0, 0) := rfl
theorem fX4_decoy_83 : fetch tX4_decoy 83 = some (.iload_n 2, 1, 2, 0, 0, 0) := rfl
theorem fX4_decoy_84 : fetch tX4_decoy 84 = some (.ireturn, 1, 0, 0, 0, 0) := rfl
def tX4_possible : List (Nat × TE) := [(0, .iconst 0, 1, 0, 0, 0, 0), (1, .istore_n 1, 1, 1, 0, 0, 0), (2, .iconst 0, 1, 0, 0, 0, 0), (3, .istore_n 2, 1, 2, 0, 0, 0), (4, .iload_n 2, 1, 2, 0, 0, 0), (5, .bipush 8, 2, 0, 0, 8, 0), (7, .if_icmp .ge 48, 3, 55, 0, 0, 0), (10, .iload_n 2, 1, 2, 0, 0, 0), (11, .istore_n 3, 1, 3, 0, 0, 0), (12, .iload_n 3, 1, 3, 0, 0, 0), (13, .bipush 8, 2, 0, 0, 8, 0), (15, .if_icmp .ge 34, 3, 49, 0, 0, 0), (18, .iload_n 1, 1, 1, 0, 0, 0), (19, .aload_n 0, 1, 0, 0, 0, 0), (20, .iconst 1, 1, 0, 0, 1, 0), (21, .iload_n 2, 1, 2, 0, 0, 0), (22, .ishl, 1, 0, 0, 0, 0), (23, .iconst 1, 1, 0, 0, 1, 0), (24, .iload_n 3, 1, 3, 0, 0, 0), (25, .ishl, 1, 0, 0, 0, 0), (26, .ior, 1, 0, 0, 0, 0), (27, .iconst 1, 1, 0, 0, 1, 0), (28, .invokevirtual 96, 3, 0, 4, 0, 0), (31, .lconst 0, 1, 0, 0, 0, 0), (32, .lcmp, 1, 0, 0, 0, 0), (33, .ifCond .le 7, 3, 40, 0, 0, 0), (36, .iconst 1, 1, 0, 0, 1, 0), (37, .goto 4, 3, 41, 0, 0, 0), (40, .iconst 0, 1, 0, 0, 0, 0), (41, .iadd, 1, 0, 0, 0, 0), (42, .istore_n 1, 1, 1, 0, 0, 0), (43, .iinc 3 1, 3, 3, 0, 1, 0), (46, .goto (-34), 3, 12, 0, 0, 0), (49, .iinc 2 1, 3, 2, 0, 1, 0), (52, .goto (-48), 3, 4, 0, 0, 0), (55, .iload_n 1, 1, 1, 0, 0, 0), (56, .ireturn, 1, 0, 0, 0, 0)]
theorem tkX4_possible : tOk cX4_possible "RumourSourceModel" 4 tX4_possible = true := by decide +kernel
theorem fX4_possible_0 : fetch tX4_possible 0 = some (.iconst 0, 1, 0, 0, 0, 0) := rfl
theorem fX4_possible_1 : fetch tX4_possible 1 = some (.istore_n 1, 1, 1, 0, 0, 0) := rfl
theorem fX4_possible_2 : fetch tX4_possible 2 = some (.iconst 0, 1, 0, 0, 0, 0) := rfl
theorem fX4_possible_3 : fetch tX4_possible 3 = some (.istore_n 2, 1, 2, 0, 0, 0) := rfl
theorem fX4_possible_4 : fetch tX4_possible 4 = some (.iload_n 2, 1, 2, 0, 0, 0) := rfl
theorem fX4_possible_5 : fetch tX4_possible 5 = some (.bipush 8, 2, 0, 0, 8, 0) := rfl
theorem fX4_possible_7 : fetch tX4_possible 7 = some (.if_icmp .ge 48, 3, 55, 0, 0, 0) := rfl
theorem fX4_possible_10 : fetch tX4_possible 10 = some (.iload_n 2, 1, 2, 0, 0, 0) := rfl
theorem fX4_possible_11 : fetch tX4_possible 11 = some (.istore_n 3, 1, 3, 0, 0, 0) := rfl
theorem fX4_possible_12 : fetch tX4_possible 12 = some (.iload_n 3, 1, 3, 0, 0, 0) := rfl
theorem fX4_possible_13 : fetch tX4_possible 13 = some (.bipush 8, 2, 0, 0, 8, 0) := rfl
theorem fX4_possible_15 : fetch tX4_possible 15 = some (.if_icmp .ge 34, 3, 49, 0, 0, 0) := rfl
theorem fX4_possible_18 : fetch tX4_possible 18 = some (.iload_n 1, 1, 1, 0, 0, 0) := rfl
theorem fX4_possible_19 : fetch tX4_possible 19 = some (.aload_n 0, 1, 0, 0, 0, 0) := rfl
theorem fX4_possible_20 : fetch tX4_possible 20 = some (.iconst 1, 1, 0, 0, 1, 0) := rfl
theorem fX4_possible_21 : fetch tX4_possible 21 = some (.iload_n 2, 1, 2, 0, 0, 0) := rfl
theorem fX4_possible_22 : fetch tX4_possible 22 = some (.ishl, 1, 0, 0, 0, 0) := rfl
theorem fX4_possible_23 : fetch tX4_possible 23 = some (.iconst 1, 1, 0, 0, 1, 0) := rfl
theorem fX4_possible_24 : fetch tX4_possible 24 = some (.iload_n 3, 1, 3, 0, 0, 0) := rfl
theorem fX4_possible_25 : fetch tX4_possible 25 = some (.ishl, 1, 0, 0, 0, 0) := rfl
theorem fX4_possible_26 : fetch tX4_possible 26 = some (.ior, 1, 0, 0, 0, 0) := rfl
theorem fX4_possible_27 : fetch tX4_possible 27 = some (.iconst 1, 1, 0, 0, 1, 0) := rfl
theorem fX4_possible_28 : fetch tX4_possible 28 = some (.invokevirtual 96, 3, 0, 4, 0, 0) := rfl
theorem fX4_possible_31 : fetch tX4_possible 31 = some (.lconst 0, 1, 0, 0, 0, 0) := rfl
theorem fX4_possible_32 : fetch tX4_possible 32 = some (.lcmp, 1, 0, 0, 0, 0) := rfl
theorem fX4_possible_33 : fetch tX4_possible 33 = some (.ifCond .le 7, 3, 40, 0, 0, 0) := rfl
theorem fX4_possible_36 : fetch tX4_possible 36 = some (.iconst 1, 1, 0, 0, 1, 0) := rfl
theorem fX4_possible_37 : fetch tX4_possible 37 = some (.goto 4, 3, 41, 0, 0, 0) := rfl
theorem fX4_possible_40 : fetch tX4_possible 40 = some (.iconst 0, 1, 0, 0, 0, 0) := rfl
theorem fX4_possible_41 : fetch tX4_possible 41 = some (.iadd, 1, 0, 0, 0, 0) := rfl
theorem fX4_possible_42 : fetch tX4_possible 42 = some (.istore_n 1, 1, 1, 0, 0, 0) := rfl
theorem fX4_possible_43 : fetch tX4_possible 43 = some (.iinc 3 1, 3, 3, 0, 1, 0) := rfl
theorem fX4_possible_46 : fetch tX4_possible 46 = some (.goto (-34), 3, 12, 0, 0, 0) := rfl
theorem fX4_possible_49 : fetch tX4_possible 49 = some (.iinc 2 1, 3, 2, 0, 1, 0) := rfl
theorem fX4_possible_52 : fetch tX4_possible 52 = some (.goto (-48), 3, 4, 0, 0, 0) := rfl
theorem fX4_possible_55 : fetch tX4_possible 55 = some (.iload_n 1, 1, 1, 0, 0, 0) := rfl
theorem fX4_possible_56 : fetch tX4_possible 56 = some (.ireturn, 1, 0, 0, 0, 0) := rfl
def tX4_explanation : List (Nat × TE) := [(0, .iload_n 1, 1, 1, 0, 0, 0), (1, .invokestatic 74, 3, 0, 4, 0, 0), (4, .ifCond .ne 6, 3, 10, 0, 0, 0), (7, .bipush (-3), 2, 0, 0, (-3), 0), (9, .ireturn, 1, 0, 0, 0, 0), (10, .iconst (-1), 1, 0, 0, (-1), 0), (11, .istore_n 2, 1, 2, 0, 0, 0), (12, .lconst 0, 1, 0, 0, 0, 0), (13, .lstore_n 3, 1, 3, 0, 0, 0), (14, .iconst 0, 1, 0, 0, 0, 0), (15, .istore 5, 2, 5, 0, 0, 0), (17, .iload 5, 2, 5, 0, 0, 0), (19, .iconst 1, 1, 0, 0, 1, 0), (20, .aload_n 0, 1, 0, 0, 0, 0), (21, .getfield 7, 3, 4, 0, 0, 0), (24, .iconst 0, 1, 0, 0, 0, 0), (25, .iaload, 1, 0, 0, 0, 0), (26, .ishl, 1, 0, 0, 0, 0), (27, .if_icmp .ge 59, 3, 86, 0, 0, 0), (30, .aload_n 0, 1, 0, 0, 0, 0), (31, .iload 5, 2, 5, 0, 0, 0), (33, .invokevirtual 84, 3, 1, 4, 0, 0), (36, .lstore 6, 2, 6, 0, 0, 0), (38, .lload 6, 2, 6, 0, 0, 0), (40, .lload_n 3, 1, 3, 0, 0, 0), (41, .lcmp, 1, 0, 0, 0, 0), (42, .ifCond .le 38, 3, 80, 0, 0, 0), (45, .aload_n 0, 1, 0, 0, 0, 0), (46, .iload_n 1, 1, 1, 0, 0, 0), (47, .iload 5, 2, 5, 0, 0, 0), (49, .invokevirtual 78, 3, 2, 4, 0, 0), (52, .aload_n 0, 1, 0, 0, 0, 0), (53, .invokevirtual 90, 3, 3, 4, 0, 0), (56, .ifCond .eq 8, 3, 64, 0, 0, 0), (59, .iload 5, 2, 5, 0, 0, 0), (61, .goto 4, 3, 65, 0, 0, 0), (64, .iload_n 2, 1, 2, 0, 0, 0), (65, .istore_n 2, 1, 2, 0, 0, 0), (66, .aload_n 0, 1, 0, 0, 0, 0), (67, .invokevirtual 90, 3, 3, 4, 0, 0), (70, .ifCond .eq 8, 3, 78, 0, 0, 0), (73, .lload 6, 2, 6, 0, 0, 0), (75, .goto 4, 3, 79, 0, 0, 0), (78, .lload_n 3, 1, 3, 0, 0, 0), (79, .lstore_n 3, 1, 3, 0, 0, 0), (80, .iinc 5 1, 3, 5, 0, 1, 0), (83, .goto (-66), 3, 17, 0, 0, 0), (86, .iload_n 2, 1, 2, 0, 0, 0), (87, .ireturn, 1, 0, 0, 0, 0)]
theorem tkX4_explanation : tOk cX4_explanation "RumourSourceModel" 8 tX4_explanation = true := by decide +kernel
theorem fX4_explanation_0 : fetch tX4_explanation 0 = some (.iload_n 1, 1, 1, 0, 0, 0) := rfl
theorem fX4_explanation_1 : fetch tX4_explanation 1 = some (.invokestatic 74, 3, 0, 4, 0, 0) := rfl
theorem fX4_explanation_4 : fetch tX4_explanation 4 = some (.ifCond .ne 6, 3, 10, 0, 0, 0) := rfl
theorem fX4_explanation_7 : fetch tX4_explanation 7 = some (.bipush (-3), 2, 0, 0, (-3), 0) := rfl
theorem fX4_explanation_9 : fetch tX4_explanation 9 = some (.ireturn, 1, 0, 0, 0, 0) := rfl
theorem fX4_explanation_10 : fetch tX4_explanation 10 = some (.iconst (-1), 1, 0, 0, (-1), 0) := rfl
theorem fX4_explanation_11 : fetch tX4_explanation 11 = some (.istore_n 2, 1, 2, 0, 0, 0) := rfl
theorem fX4_explanation_12 : fetch tX4_explanation 12 = some (.lconst 0, 1, 0, 0, 0, 0) := rfl
theorem fX4_explanation_13 : fetch tX4_explanation 13 = some (.lstore_n 3, 1, 3, 0, 0, 0) := rfl
theorem fX4_explanation_14 : fetch tX4_explanation 14 = some (.iconst 0, 1, 0, 0, 0, 0) := rfl
theorem fX4_explanation_15 : fetch tX4_explanation 15 = some (.istore 5, 2, 5, 0, 0, 0) := rfl
theorem fX4_explanation_17 : fetch tX4_explanation 17 = some (.iload 5, 2, 5, 0, 0, 0) := rfl
theorem fX4_explanation_19 : fetch tX4_explanation 19 = some (.iconst 1, 1, 0, 0, 1, 0) := rfl
theorem fX4_explanation_20 : fetch tX4_explanation 20 = some (.aload_n 0, 1, 0, 0, 0, 0) := rfl
theorem fX4_explanation_21 : fetch tX4_explanation 21 = some (.getfield 7, 3, 4, 0, 0, 0) := rfl
theorem fX4_explanation_24 : fetch tX4_explanation 24 = some (.iconst 0, 1, 0, 0, 0, 0) := rfl
theorem fX4_explanation_25 : fetch tX4_explanation 25 = some (.iaload, 1, 0, 0, 0, 0) := rfl
theorem fX4_explanation_26 : fetch tX4_explanation 26 = some (.ishl, 1, 0, 0, 0, 0) := rfl
theorem fX4_explanation_27 : fetch tX4_explanation 27 = some (.if_icmp .ge 59, 3, 86, 0, 0, 0) := rfl
theorem fX4_explanation_30 : fetch tX4_explanation 30 = some (.aload_n 0, 1, 0, 0, 0, 0) := rfl
theorem fX4_explanation_31 : fetch tX4_explanation 31 = some (.iload 5, 2, 5, 0, 0, 0) := rfl
theorem fX4_explanation_33 : fetch tX4_explanation 33 = some (.invokevirtual 84, 3, 1, 4, 0, 0) := rfl
theorem fX4_explanation_36 : fetch tX4_explanation 36 = some (.lstore 6, 2, 6, 0, 0, 0) := rfl
theorem fX4_explanation_38 : fetch tX4_explanation 38 = some (.lload 6, 2, 6, 0, 0, 0) := rfl
theorem fX4_explanation_40 : fetch tX4_explanation 40 = some (.lload_n 3, 1, 3, 0, 0, 0) := rfl
theorem fX4_explanation_41 : fetch tX4_explanation 41 = some (.lcmp, 1, 0, 0, 0, 0) := rfl
theorem fX4_explanation_42 : fetch tX4_explanation 42 = some (.ifCond .le 38, 3, 80, 0, 0, 0) := rfl
theorem fX4_explanation_45 : fetch tX4_explanation 45 = some (.aload_n 0, 1, 0, 0, 0, 0) := rfl
theorem fX4_explanation_46 : fetch tX4_explanation 46 = some (.iload_n 1, 1, 1, 0, 0, 0) := rfl
theorem fX4_explanation_47 : fetch tX4_explanation 47 = some (.iload 5, 2, 5, 0, 0, 0) := rfl
theorem fX4_explanation_49 : fetch tX4_explanation 49 = some (.invokevirtual 78, 3, 2, 4, 0, 0) := rfl
theorem fX4_explanation_52 : fetch tX4_explanation 52 = some (.aload_n 0, 1, 0, 0, 0, 0) := rfl
theorem fX4_explanation_53 : fetch tX4_explanation 53 = some (.invokevirtual 90, 3, 3, 4, 0, 0) := rfl
theorem fX4_explanation_56 : fetch tX4_explanation 56 = some (.ifCond .eq 8, 3, 64, 0, 0, 0) := rfl
theorem fX4_explanation_59 : fetch tX4_explanation 59 = some (.iload 5, 2, 5, 0, 0, 0) := rfl
theorem fX4_explanation_61 : fetch tX4_explanation 61 = some (.goto 4, 3, 65, 0, 0, 0) := rfl
theorem fX4_explanation_64 : fetch tX4_explanation 64 = some (.iload_n 2, 1, 2, 0, 0, 0) := rfl
theorem fX4_explanation_65 : fetch tX4_explanation 65 = some (.istore_n 2, 1, 2, 0, 0, 0) := rfl
theorem fX4_explanation_66 : fetch tX4_explanation 66 = some (.aload_n 0, 1, 0, 0, 0, 0) := rfl
theorem fX4_explanation_67 : fetch tX4_explanation 67 = some (.invokevirtual 90, 3, 3, 4, 0, 0) := rfl
theorem fX4_explanation_70 : fetch tX4_explanation 70 = some (.ifCond .eq 8, 3, 78, 0, 0, 0) := rfl
theorem fX4_explanation_73 : fetch tX4_explanation 73 = some (.lload 6, 2, 6, 0, 0, 0) := rfl
theorem fX4_explanation_75 : fetch tX4_explanation 75 = some (.goto 4, 3, 79, 0, 0, 0) := rfl
theorem fX4_explanation_78 : fetch tX4_explanation 78 = some (.lload_n 3, 1, 3, 0, 0, 0) := rfl
theorem fX4_explanation_79 : fetch tX4_explanation 79 = some (.lstore_n 3, 1, 3, 0, 0, 0) := rfl
theorem fX4_explanation_80 : fetch tX4_explanation 80 = some (.iinc 5 1, 3, 5, 0, 1, 0) := rfl
theorem fX4_explanation_83 : fetch tX4_explanation 83 = some (.goto (-66), 3, 17, 0, 0, 0) := rfl
theorem fX4_explanation_86 : fetch tX4_explanation 86 = some (.iload_n 2, 1, 2, 0, 0, 0) := rfl
theorem fX4_explanation_87 : fetch tX4_explanation 87 = some (.ireturn, 1, 0, 0, 0, 0) := rfl
def tX4_values : List (Nat × TE) := [(0, .iload_n 1, 1, 1, 0, 0, 0), (1, .invokestatic 50, 3, 0, 4, 0, 0), (4, .ifCond .ne 6, 3, 10, 0, 0, 0), (7, .bipush (-2), 2, 0, 0, (-2), 0), (9, .ireturn, 1, 0, 0, 0, 0), (10, .iconst 0, 1, 0, 0, 0, 0), (11, .istore_n 2, 1, 2, 0, 0, 0), (12, .iload_n 2, 1, 2, 0, 0, 0), (13, .bipush 32, 2, 0, 0, 32, 0), (15, .if_icmp .ge 16, 3, 31, 0, 0, 0), (18, .aload_n 0, 1, 0, 0, 0, 0), (19, .getfield 20, 3, 4, 5, 0, 0), (22, .iload_n 2, 1, 2, 0, 0, 0), (23, .iconst 0, 1, 0, 0, 0, 0), (24, .bastore, 1, 0, 0, 0, 0), (25, .iinc 2 1, 3, 2, 0, 1, 0), (28, .goto (-16), 3, 12, 0, 0, 0), (31, .iconst 0, 1, 0, 0, 0, 0), (32, .istore_n 2, 1, 2, 0, 0, 0), (33, .iload_n 2, 1, 2, 0, 0, 0), (34, .iconst 1, 1, 0, 0, 1, 0), (35, .aload_n 0, 1, 0, 0, 0, 0), (36, .getfield 7, 3, 4, 0, 0, 0), (39, .iconst 0, 1, 0, 0, 0, 0), (40, .iaload, 1, 0, 0, 0, 0), (41, .ishl, 1, 0, 0, 0, 0), (42, .if_icmp .ge 77, 3, 119, 0, 0, 0), (45, .iconst 0, 1, 0, 0, 0, 0), (46, .istore_n 3, 1, 3, 0, 0, 0), (47, .iload_n 3, 1, 3, 0, 0, 0), (48, .bipush 8, 2, 0, 0, 8, 0), (50, .if_icmp .ge 63, 3, 113, 0, 0, 0), (53, .aload_n 0, 1, 0, 0, 0, 0), (54, .iload_n 2, 1, 2, 0, 0, 0), (55, .invokevirtual 84, 3, 1, 4, 0, 0), (58, .lconst 0, 1, 0, 0, 0, 0), (59, .lcmp, 1, 0, 0, 0, 0), (60, .ifCond .le 53, 3, 113, 0, 0, 0), (63, .aload_n 0, 1, 0, 0, 0, 0), (64, .iconst 1, 1, 0, 0, 1, 0), (65, .iload_n 3, 1, 3, 0, 0, 0), (66, .ishl, 1, 0, 0, 0, 0), (67, .iload_n 2, 1, 2, 0, 0, 0), (68, .invokevirtual 78, 3, 2, 4, 0, 0), (71, .aload_n 0, 1, 0, 0, 0, 0), (72, .invokevirtual 90, 3, 3, 4, 0, 0), (75, .ifCond .eq 32, 3, 107, 0, 0, 0), (78, .aload_n 0, 1, 0, 0, 0, 0), (79, .getfield 20, 3, 4, 5, 0, 0), (82, .aload_n 0, 1, 0, 0, 0, 0), (83, .getfield 13, 3, 4, 3, 0, 0), (86, .iload_n 1, 1, 1, 0, 0, 0), (87, .iaload, 1, 0, 0, 0, 0), (88, .sipush 1000, 3, 0, 0, 1000, 0), (91, .if_icmp .ne 8, 3, 99, 0, 0, 0), (94, .bipush 31, 2, 0, 0, 31, 0), (96, .goto 9, 3, 105, 0, 0, 0), (99, .aload_n 0, 1, 0, 0, 0, 0), (100, .getfield 13, 3, 4, 3, 0, 0), (103, .iload_n 1, 1, 1, 0, 0, 0), (104, .iaload, 1, 0, 0, 0, 0), (105, .iconst 1, 1, 0, 0, 1, 0), (106, .bastore, 1, 0, 0, 0, 0), (107, .iinc 3 1, 3, 3, 0, 1, 0), (110, .goto (-63), 3, 47, 0, 0, 0), (113, .iinc 2 1, 3, 2, 0, 1, 0), (116, .goto (-83), 3, 33, 0, 0, 0), (119, .iconst 0, 1, 0, 0, 0, 0), (120, .istore_n 2, 1, 2, 0, 0, 0), (121, .iconst 0, 1, 0, 0, 0, 0), (122, .istore_n 3, 1, 3, 0, 0, 0), (123, .iload_n 3, 1, 3, 0, 0, 0), (124, .bipush 32, 2, 0, 0, 32, 0), (126, .if_icmp .ge 26, 3, 152, 0, 0, 0), (129, .iload_n 2, 1, 2, 0, 0, 0), (130, .aload_n 0, 1, 0, 0, 0, 0), (131, .getfield 20, 3, 4, 5, 0, 0), (134, .iload_n 3, 1, 3, 0, 0, 0), (135, .baload, 1, 0, 0, 0, 0), (136, .ifCond .eq 7, 3, 143, 0, 0, 0), (139, .iconst 1, 1, 0, 0, 1, 0), (140, .goto 4, 3, 144, 0, 0, 0), (143, .iconst 0, 1, 0, 0, 0, 0), (144, .iadd, 1, 0, 0, 0, 0), (145, .istore_n 2, 1, 2, 0, 0, 0), (146, .iinc 3 1, 3, 3, 0, 1, 0), (149, .goto (-26), 3, 123, 0, 0, 0), (152, .iload_n 2, 1, 2, 0, 0, 0), (153, .ireturn, 1, 0, 0, 0, 0)]
theorem tkX4_values : tOk cX4_values "RumourSourceModel" 4 tX4_values = true := by decide +kernel
theorem fX4_values_0 : fetch tX4_values 0 = some (.iload_n 1, 1, 1, 0, 0, 0) := rfl
theorem fX4_values_1 : fetch tX4_values 1 = some (.invokestatic 50, 3, 0, 4, 0, 0) := rfl
theorem fX4_values_4 : fetch tX4_values 4 = some (.ifCond .ne 6, 3, 10, 0, 0, 0) := rfl
theorem fX4_values_7 : fetch tX4_values 7 = some (.bipush (-2), 2, 0, 0, (-2), 0) := rfl
theorem fX4_values_9 : fetch tX4_values 9 = some (.ireturn, 1, 0, 0, 0, 0) := rfl
theorem fX4_values_10 : fetch tX4_values 10 = some (.iconst 0, 1, 0, 0, 0, 0) := rfl
theorem fX4_values_11 : fetch tX4_values 11 = some (.istore_n 2, 1, 2, 0, 0, 0) := rfl
theorem fX4_values_12 : fetch tX4_values 12 = some (.iload_n 2, 1, 2, 0, 0, 0) := rfl
theorem fX4_values_13 : fetch tX4_values 13 = some (.bipush 32, 2, 0, 0, 32, 0) := rfl
theorem fX4_values_15 : fetch tX4_values 15 = some (.if_icmp .ge 16, 3, 31, 0, 0, 0) := rfl
theorem fX4_values_18 : fetch tX4_values 18 = some (.aload_n 0, 1, 0, 0, 0, 0) := rfl
theorem fX4_values_19 : fetch tX4_values 19 = some (.getfield 20, 3, 4, 5, 0, 0) := rfl
theorem fX4_values_22 : fetch tX4_values 22 = some (.iload_n 2, 1, 2, 0, 0, 0) := rfl
theorem fX4_values_23 : fetch tX4_values 23 = some (.iconst 0, 1, 0, 0, 0, 0) := rfl
theorem fX4_values_24 : fetch tX4_values 24 = some (.bastore, 1, 0, 0, 0, 0) := rfl
theorem fX4_values_25 : fetch tX4_values 25 = some (.iinc 2 1, 3, 2, 0, 1, 0) := rfl
theorem fX4_values_28 : fetch tX4_values 28 = some (.goto (-16), 3, 12, 0, 0, 0) := rfl
theorem fX4_values_31 : fetch tX4_values 31 = some (.iconst 0, 1, 0, 0, 0, 0) := rfl
theorem fX4_values_32 : fetch tX4_values 32 = some (.istore_n 2, 1, 2, 0, 0, 0) := rfl
theorem fX4_values_33 : fetch tX4_values 33 = some (.iload_n 2, 1, 2, 0, 0, 0) := rfl
theorem fX4_values_34 : fetch tX4_values 34 = some (.iconst 1, 1, 0, 0, 1, 0) := rfl
theorem fX4_values_35 : fetch tX4_values 35 = some (.aload_n 0, 1, 0, 0, 0, 0) := rfl
theorem fX4_values_36 : fetch tX4_values 36 = some (.getfield 7, 3, 4, 0, 0, 0) := rfl
theorem fX4_values_39 : fetch tX4_values 39 = some (.iconst 0, 1, 0, 0, 0, 0) := rfl
theorem fX4_values_40 : fetch tX4_values 40 = some (.iaload, 1, 0, 0, 0, 0) := rfl
theorem fX4_values_41 : fetch tX4_values 41 = some (.ishl, 1, 0, 0, 0, 0) := rfl
theorem fX4_values_42 : fetch tX4_values 42 = some (.if_icmp .ge 77, 3, 119, 0, 0, 0) := rfl
theorem fX4_values_45 : fetch tX4_values 45 = some (.iconst 0, 1, 0, 0, 0, 0) := rfl
theorem fX4_values_46 : fetch tX4_values 46 = some (.istore_n 3, 1, 3, 0, 0, 0) := rfl
theorem fX4_values_47 : fetch tX4_values 47 = some (.iload_n 3, 1, 3, 0, 0, 0) := rfl
theorem fX4_values_48 : fetch tX4_values 48 = some (.bipush 8, 2, 0, 0, 8, 0) := rfl
theorem fX4_values_50 : fetch tX4_values 50 = some (.if_icmp .ge 63, 3, 113, 0, 0, 0) := rfl
theorem fX4_values_53 : fetch tX4_values 53 = some (.aload_n 0, 1, 0, 0, 0, 0) := rfl
theorem fX4_values_54 : fetch tX4_values 54 = some (.iload_n 2, 1, 2, 0, 0, 0) := rfl
theorem fX4_values_55 : fetch tX4_values 55 = some (.invokevirtual 84, 3, 1, 4, 0, 0) := rfl
theorem fX4_values_58 : fetch tX4_values 58 = some (.lconst 0, 1, 0, 0, 0, 0) := rfl
theorem fX4_values_59 : fetch tX4_values 59 = some (.lcmp, 1, 0, 0, 0, 0) := rfl
theorem fX4_values_60 : fetch tX4_values 60 = some (.ifCond .le 53, 3, 113, 0, 0, 0) := rfl
theorem fX4_values_63 : fetch tX4_values 63 = some (.aload_n 0, 1, 0, 0, 0, 0) := rfl
theorem fX4_values_64 : fetch tX4_values 64 = some (.iconst 1, 1, 0, 0, 1, 0) := rfl
theorem fX4_values_65 : fetch tX4_values 65 = some (.iload_n 3, 1, 3, 0, 0, 0) := rfl
theorem fX4_values_66 : fetch tX4_values 66 = some (.ishl, 1, 0, 0, 0, 0) := rfl
theorem fX4_values_67 : fetch tX4_values 67 = some (.iload_n 2, 1, 2, 0, 0, 0) := rfl
theorem fX4_values_68 : fetch tX4_values 68 = some (.invokevirtual 78, 3, 2, 4, 0, 0) := rfl
theorem fX4_values_71 : fetch tX4_values 71 = some (.aload_n 0, 1, 0, 0, 0, 0) := rfl
theorem fX4_values_72 : fetch tX4_values 72 = some (.invokevirtual 90, 3, 3, 4, 0, 0) := rfl
theorem fX4_values_75 : fetch tX4_values 75 = some (.ifCond .eq 32, 3, 107, 0, 0, 0) := rfl
theorem fX4_values_78 : fetch tX4_values 78 = some (.aload_n 0, 1, 0, 0, 0, 0) := rfl
theorem fX4_values_79 : fetch tX4_values 79 = some (.getfield 20, 3, 4, 5, 0, 0) := rfl
theorem fX4_values_82 : fetch tX4_values 82 = some (.aload_n 0, 1, 0, 0, 0, 0) := rfl
theorem fX4_values_83 : fetch tX4_values 83 = some (.getfield 13, 3, 4, 3, 0, 0) := rfl
theorem fX4_values_86 : fetch tX4_values 86 = some (.iload_n 1, 1, 1, 0, 0, 0) := rfl
theorem fX4_values_87 : fetch tX4_values 87 = some (.iaload, 1, 0, 0, 0, 0) := rfl
theorem fX4_values_88 : fetch tX4_values 88 = some (.sipush 1000, 3, 0, 0, 1000, 0) := rfl
theorem fX4_values_91 : fetch tX4_values 91 = some (.if_icmp .ne 8, 3, 99, 0, 0, 0) := rfl
theorem fX4_values_94 : fetch tX4_values 94 = some (.bipush 31, 2, 0, 0, 31, 0) := rfl
theorem fX4_values_96 : fetch tX4_values 96 = some (.goto 9, 3, 105, 0, 0, 0) := rfl
theorem fX4_values_99 : fetch tX4_values 99 = some (.aload_n 0, 1, 0, 0, 0, 0) := rfl
theorem fX4_values_100 : fetch tX4_values 100 = some (.getfield 13, 3, 4, 3, 0, 0) := rfl
theorem fX4_values_103 : fetch tX4_values 103 = some (.iload_n 1, 1, 1, 0, 0, 0) := rfl
theorem fX4_values_104 : fetch tX4_values 104 = some (.iaload, 1, 0, 0, 0, 0) := rfl
theorem fX4_values_105 : fetch tX4_values 105 = some (.iconst 1, 1, 0, 0, 1, 0) := rfl
theorem fX4_values_106 : fetch tX4_values 106 = some (.bastore, 1, 0, 0, 0, 0) := rfl
theorem fX4_values_107 : fetch tX4_values 107 = some (.iinc 3 1, 3, 3, 0, 1, 0) := rfl
theorem fX4_values_110 : fetch tX4_values 110 = some (.goto (-63), 3, 47, 0, 0, 0) := rfl
theorem fX4_values_113 : fetch tX4_values 113 = some (.iinc 2 1, 3, 2, 0, 1, 0) := rfl
theorem fX4_values_116 : fetch tX4_values 116 = some (.goto (-83), 3, 33, 0, 0, 0) := rfl
theorem fX4_values_119 : fetch tX4_values 119 = some (.iconst 0, 1, 0, 0, 0, 0) := rfl
theorem fX4_values_120 : fetch tX4_values 120 = some (.istore_n 2, 1, 2, 0, 0, 0) := rfl
theorem fX4_values_121 : fetch tX4_values 121 = some (.iconst 0, 1, 0, 0, 0, 0) := rfl
theorem fX4_values_122 : fetch tX4_values 122 = some (.istore_n 3, 1, 3, 0, 0, 0) := rfl
theorem fX4_values_123 : fetch tX4_values 123 = some (.iload_n 3, 1, 3, 0, 0, 0) := rfl
theorem fX4_values_124 : fetch tX4_values 124 = some (.bipush 32, 2, 0, 0, 32, 0) := rfl
theorem fX4_values_126 : fetch tX4_values 126 = some (.if_icmp .ge 26, 3, 152, 0, 0, 0) := rfl
theorem fX4_values_129 : fetch tX4_values 129 = some (.iload_n 2, 1, 2, 0, 0, 0) := rfl
theorem fX4_values_130 : fetch tX4_values 130 = some (.aload_n 0, 1, 0, 0, 0, 0) := rfl
theorem fX4_values_131 : fetch tX4_values 131 = some (.getfield 20, 3, 4, 5, 0, 0) := rfl
theorem fX4_values_134 : fetch tX4_values 134 = some (.iload_n 3, 1, 3, 0, 0, 0) := rfl
theorem fX4_values_135 : fetch tX4_values 135 = some (.baload, 1, 0, 0, 0, 0) := rfl
theorem fX4_values_136 : fetch tX4_values 136 = some (.ifCond .eq 7, 3, 143, 0, 0, 0) := rfl
theorem fX4_values_139 : fetch tX4_values 139 = some (.iconst 1, 1, 0, 0, 1, 0) := rfl
theorem fX4_values_140 : fetch tX4_values 140 = some (.goto 4, 3, 144, 0, 0, 0) := rfl
theorem fX4_values_143 : fetch tX4_values 143 = some (.iconst 0, 1, 0, 0, 0, 0) := rfl
theorem fX4_values_144 : fetch tX4_values 144 = some (.iadd, 1, 0, 0, 0, 0) := rfl
theorem fX4_values_145 : fetch tX4_values 145 = some (.istore_n 2, 1, 2, 0, 0, 0) := rfl
theorem fX4_values_146 : fetch tX4_values 146 = some (.iinc 3 1, 3, 3, 0, 1, 0) := rfl
theorem fX4_values_149 : fetch tX4_values 149 = some (.goto (-26), 3, 123, 0, 0, 0) := rfl
theorem fX4_values_152 : fetch tX4_values 152 = some (.iload_n 2, 1, 2, 0, 0, 0) := rfl
theorem fX4_values_153 : fetch tX4_values 153 = some (.ireturn, 1, 0, 0, 0, 0) := rfl
def tX4_undo : List (Nat × TE) := [(0, .aload_n 0, 1, 0, 0, 0, 0), (1, .getfield 30, 3, 4, 1, 0, 0), (4, .ifCond .ne 6, 3, 10, 0, 0, 0), (7, .bipush (-4), 2, 0, 0, (-4), 0), (9, .ireturn, 1, 0, 0, 0, 0), (10, .aload_n 0, 1, 0, 0, 0, 0), (11, .aload_n 0, 1, 0, 0, 0, 0), (12, .getfield 30, 3, 4, 1, 0, 0), (15, .iconst 0, 1, 0, 0, 0, 0), (16, .invokevirtual 34, 3, 0, 4, 0, 0), (19, .aload_n 0, 1, 0, 0, 0, 0), (20, .dup, 1, 0, 0, 0, 0), (21, .getfield 30, 3, 4, 1, 0, 0), (24, .iconst 1, 1, 0, 0, 1, 0), (25, .isub, 1, 0, 0, 0, 0), (26, .putfield 30, 3, 4, 1, 0, 0), (29, .aload_n 0, 1, 0, 0, 0, 0), (30, .iconst 0, 1, 0, 0, 0, 0), (31, .putfield 38, 3, 4, 2, 0, 0), (34, .aload_n 0, 1, 0, 0, 0, 0), (35, .getfield 30, 3, 4, 1, 0, 0), (38, .ireturn, 1, 0, 0, 0, 0)]
theorem tkX4_undo : tOk cX4_undo "RumourSourceModel" 1 tX4_undo = true := by decide +kernel
theorem fX4_undo_0 : fetch tX4_undo 0 = some (.aload_n 0, 1, 0, 0, 0, 0) := rfl
theorem fX4_undo_1 : fetch tX4_undo 1 = some (.getfield 30, 3, 4, 1, 0, 0) := rfl
theorem fX4_undo_4 : fetch tX4_undo 4 = some (.ifCond .ne 6, 3, 10, 0, 0, 0) := rfl
theorem fX4_undo_7 : fetch tX4_undo 7 = some (.bipush (-4), 2, 0, 0, (-4), 0) := rfl
theorem fX4_undo_9 : fetch tX4_undo 9 = some (.ireturn, 1, 0, 0, 0, 0) := rfl
theorem fX4_undo_10 : fetch tX4_undo 10 = some (.aload_n 0, 1, 0, 0, 0, 0) := rfl
theorem fX4_undo_11 : fetch tX4_undo 11 = some (.aload_n 0, 1, 0, 0, 0, 0) := rfl
theorem fX4_undo_12 : fetch tX4_undo 12 = some (.getfield 30, 3, 4, 1, 0, 0) := rfl
theorem fX4_undo_15 : fetch tX4_undo 15 = some (.iconst 0, 1, 0, 0, 0, 0) := rfl
theorem fX4_undo_16 : fetch tX4_undo 16 = some (.invokevirtual 34, 3, 0, 4, 0, 0) := rfl
theorem fX4_undo_19 : fetch tX4_undo 19 = some (.aload_n 0, 1, 0, 0, 0, 0) := rfl
theorem fX4_undo_20 : fetch tX4_undo 20 = some (.dup, 1, 0, 0, 0, 0) := rfl
theorem fX4_undo_21 : fetch tX4_undo 21 = some (.getfield 30, 3, 4, 1, 0, 0) := rfl
theorem fX4_undo_24 : fetch tX4_undo 24 = some (.iconst 1, 1, 0, 0, 1, 0) := rfl
theorem fX4_undo_25 : fetch tX4_undo 25 = some (.isub, 1, 0, 0, 0, 0) := rfl
theorem fX4_undo_26 : fetch tX4_undo 26 = some (.putfield 30, 3, 4, 1, 0, 0) := rfl
theorem fX4_undo_29 : fetch tX4_undo 29 = some (.aload_n 0, 1, 0, 0, 0, 0) := rfl
theorem fX4_undo_30 : fetch tX4_undo 30 = some (.iconst 0, 1, 0, 0, 0, 0) := rfl
theorem fX4_undo_31 : fetch tX4_undo 31 = some (.putfield 38, 3, 4, 2, 0, 0) := rfl
theorem fX4_undo_34 : fetch tX4_undo 34 = some (.aload_n 0, 1, 0, 0, 0, 0) := rfl
theorem fX4_undo_35 : fetch tX4_undo 35 = some (.getfield 30, 3, 4, 1, 0, 0) := rfl
theorem fX4_undo_38 : fetch tX4_undo 38 = some (.ireturn, 1, 0, 0, 0, 0) := rfl
def tX4_type : List (Nat × TE) := [(0, .iload_n 1, 1, 1, 0, 0, 0), (1, .iconst 0, 1, 0, 0, 0, 0), (2, .sipush 255, 3, 0, 0, 255, 0), (5, .invokestatic 42, 3, 0, 4, 0, 0), (8, .ifCond .ne 6, 3, 14, 0, 0, 0), (11, .bipush (-3), 2, 0, 0, (-3), 0), (13, .ireturn, 1, 0, 0, 0, 0), (14, .aload_n 0, 1, 0, 0, 0, 0), (15, .getfield 105, 3, 4, 7, 0, 0), (18, .bipush 120, 2, 0, 0, 120, 0), (20, .if_icmp .ne 6, 3, 26, 0, 0, 0), (23, .bipush (-5), 2, 0, 0, (-5), 0), (25, .ireturn, 1, 0, 0, 0, 0), (26, .aload_n 0, 1, 0, 0, 0, 0), (27, .getfield 24, 3, 4, 6, 0, 0), (30, .aload_n 0, 1, 0, 0, 0, 0), (31, .getfield 105, 3, 4, 7, 0, 0), (34, .iload_n 1, 1, 1, 0, 0, 0), (35, .iastore, 1, 0, 0, 0, 0), (36, .aload_n 0, 1, 0, 0, 0, 0), (37, .dup, 1, 0, 0, 0, 0), (38, .getfield 105, 3, 4, 7, 0, 0), (41, .iconst 1, 1, 0, 0, 1, 0), (42, .iadd, 1, 0, 0, 0, 0), (43, .putfield 105, 3, 4, 7, 0, 0), (46, .aload_n 0, 1, 0, 0, 0, 0), (47, .getfield 105, 3, 4, 7, 0, 0), (50, .ireturn, 1, 0, 0, 0, 0)]
theorem tkX4_type : tOk cX4_type "RumourSourceModel" 2 tX4_type = true := by decide +kernel
theorem fX4_type_0 : fetch tX4_type 0 = some (.iload_n 1, 1, 1, 0, 0, 0) := rfl
theorem fX4_type_1 : fetch tX4_type 1 = some (.iconst 0, 1, 0, 0, 0, 0) := rfl
theorem fX4_type_2 : fetch tX4_type 2 = some (.sipush 255, 3, 0, 0, 255, 0) := rfl
theorem fX4_type_5 : fetch tX4_type 5 = some (.invokestatic 42, 3, 0, 4, 0, 0) := rfl
theorem fX4_type_8 : fetch tX4_type 8 = some (.ifCond .ne 6, 3, 14, 0, 0, 0) := rfl
theorem fX4_type_11 : fetch tX4_type 11 = some (.bipush (-3), 2, 0, 0, (-3), 0) := rfl
theorem fX4_type_13 : fetch tX4_type 13 = some (.ireturn, 1, 0, 0, 0, 0) := rfl
theorem fX4_type_14 : fetch tX4_type 14 = some (.aload_n 0, 1, 0, 0, 0, 0) := rfl
theorem fX4_type_15 : fetch tX4_type 15 = some (.getfield 105, 3, 4, 7, 0, 0) := rfl
theorem fX4_type_18 : fetch tX4_type 18 = some (.bipush 120, 2, 0, 0, 120, 0) := rfl
theorem fX4_type_20 : fetch tX4_type 20 = some (.if_icmp .ne 6, 3, 26, 0, 0, 0) := rfl
theorem fX4_type_23 : fetch tX4_type 23 = some (.bipush (-5), 2, 0, 0, (-5), 0) := rfl
theorem fX4_type_25 : fetch tX4_type 25 = some (.ireturn, 1, 0, 0, 0, 0) := rfl
theorem fX4_type_26 : fetch tX4_type 26 = some (.aload_n 0, 1, 0, 0, 0, 0) := rfl
theorem fX4_type_27 : fetch tX4_type 27 = some (.getfield 24, 3, 4, 6, 0, 0) := rfl
theorem fX4_type_30 : fetch tX4_type 30 = some (.aload_n 0, 1, 0, 0, 0, 0) := rfl
theorem fX4_type_31 : fetch tX4_type 31 = some (.getfield 105, 3, 4, 7, 0, 0) := rfl
theorem fX4_type_34 : fetch tX4_type 34 = some (.iload_n 1, 1, 1, 0, 0, 0) := rfl
theorem fX4_type_35 : fetch tX4_type 35 = some (.iastore, 1, 0, 0, 0, 0) := rfl
theorem fX4_type_36 : fetch tX4_type 36 = some (.aload_n 0, 1, 0, 0, 0, 0) := rfl
theorem fX4_type_37 : fetch tX4_type 37 = some (.dup, 1, 0, 0, 0, 0) := rfl
theorem fX4_type_38 : fetch tX4_type 38 = some (.getfield 105, 3, 4, 7, 0, 0) := rfl
theorem fX4_type_41 : fetch tX4_type 41 = some (.iconst 1, 1, 0, 0, 1, 0) := rfl
theorem fX4_type_42 : fetch tX4_type 42 = some (.iadd, 1, 0, 0, 0, 0) := rfl
theorem fX4_type_43 : fetch tX4_type 43 = some (.putfield 105, 3, 4, 7, 0, 0) := rfl
theorem fX4_type_46 : fetch tX4_type 46 = some (.aload_n 0, 1, 0, 0, 0, 0) := rfl
theorem fX4_type_47 : fetch tX4_type 47 = some (.getfield 105, 3, 4, 7, 0, 0) := rfl
theorem fX4_type_50 : fetch tX4_type 50 = some (.ireturn, 1, 0, 0, 0, 0) := rfl
def tX4_clearText : List (Nat × TE) := [(0, .aload_n 0, 1, 0, 0, 0, 0), (1, .getfield 105, 3, 4, 7, 0, 0), (4, .istore_n 1, 1, 1, 0, 0, 0), (5, .aload_n 0, 1, 0, 0, 0, 0), (6, .iconst 0, 1, 0, 0, 0, 0), (7, .putfield 105, 3, 4, 7, 0, 0), (10, .iload_n 1, 1, 1, 0, 0, 0), (11, .ireturn, 1, 0, 0, 0, 0)]
theorem tkX4_clearText : tOk cX4_clearText "RumourSourceModel" 2 tX4_clearText = true := by decide +kernel
theorem fX4_clearText_0 : fetch tX4_clearText 0 = some (.aload_n 0, 1, 0, 0, 0, 0) := rfl
theorem fX4_clearText_1 : fetch tX4_clearText 1 = some (.getfield 105, 3, 4, 7, 0, 0) := rfl
theorem fX4_clearText_4 : fetch tX4_clearText 4 = some (.istore_n 1, 1, 1, 0, 0, 0) := rfl
theorem fX4_clearText_5 : fetch tX4_clearText 5 = some (.aload_n 0, 1, 0, 0, 0, 0) := rfl
theorem fX4_clearText_6 : fetch tX4_clearText 6 = some (.iconst 0, 1, 0, 0, 0, 0) := rfl
theorem fX4_clearText_7 : fetch tX4_clearText 7 = some (.putfield 105, 3, 4, 7, 0, 0) := rfl
theorem fX4_clearText_10 : fetch tX4_clearText 10 = some (.iload_n 1, 1, 1, 0, 0, 0) := rfl
theorem fX4_clearText_11 : fetch tX4_clearText 11 = some (.ireturn, 1, 0, 0, 0, 0) := rfl
def tX4_here : List (Nat × TE) := [(0, .aload_n 0, 1, 0, 0, 0, 0), (1, .getfield 108, 3, 4, 8, 0, 0), (4, .aload_n 0, 1, 0, 0, 0, 0), (5, .getfield 105, 3, 4, 7, 0, 0), (8, .if_icmp .ge 30, 3, 38, 0, 0, 0), (11, .aload_n 0, 1, 0, 0, 0, 0), (12, .getfield 24, 3, 4, 6, 0, 0), (15, .aload_n 0, 1, 0, 0, 0, 0), (16, .getfield 108, 3, 4, 8, 0, 0), (19, .iaload, 1, 0, 0, 0, 0), (20, .bipush 32, 2, 0, 0, 32, 0), (22, .if_icmp .ne 16, 3, 38, 0, 0, 0), (25, .aload_n 0, 1, 0, 0, 0, 0), (26, .dup, 1, 0, 0, 0, 0), (27, .getfield 108, 3, 4, 8, 0, 0), (30, .iconst 1, 1, 0, 0, 1, 0), (31, .iadd, 1, 0, 0, 0, 0), (32, .putfield 108, 3, 4, 8, 0, 0), (35, .goto (-35), 3, 0, 0, 0, 0), (38, .aload_n 0, 1, 0, 0, 0, 0), (39, .getfield 108, 3, 4, 8, 0, 0), (42, .aload_n 0, 1, 0, 0, 0, 0), (43, .getfield 105, 3, 4, 7, 0, 0), (46, .if_icmp .ge 15, 3, 61, 0, 0, 0), (49, .aload_n 0, 1, 0, 0, 0, 0), (50, .getfield 24, 3, 4, 6, 0, 0), (53, .aload_n 0, 1, 0, 0, 0, 0), (54, .getfield 108, 3, 4, 8, 0, 0), (57, .iaload, 1, 0, 0, 0, 0), (58, .goto 4, 3, 62, 0, 0, 0), (61, .iconst (-1), 1, 0, 0, (-1), 0), (62, .ireturn, 1, 0, 0, 0, 0)]
theorem tkX4_here : tOk cX4_here "RumourSourceModel" 1 tX4_here = true := by decide +kernel
theorem fX4_here_0 : fetch tX4_here 0 = some (.aload_n 0, 1, 0, 0, 0, 0) := rfl
theorem fX4_here_1 : fetch tX4_here 1 = some (.getfield 108, 3, 4, 8, 0, 0) := rfl
theorem fX4_here_4 : fetch tX4_here 4 = some (.aload_n 0, 1, 0, 0, 0, 0) := rfl
theorem fX4_here_5 : fetch tX4_here 5 = some (.getfield 105, 3, 4, 7, 0, 0) := rfl
theorem fX4_here_8 : fetch tX4_here 8 = some (.if_icmp .ge 30, 3, 38, 0, 0, 0) := rfl
theorem fX4_here_11 : fetch tX4_here 11 = some (.aload_n 0, 1, 0, 0, 0, 0) := rfl
theorem fX4_here_12 : fetch tX4_here 12 = some (.getfield 24, 3, 4, 6, 0, 0) := rfl
theorem fX4_here_15 : fetch tX4_here 15 = some (.aload_n 0, 1, 0, 0, 0, 0) := rfl
theorem fX4_here_16 : fetch tX4_here 16 = some (.getfield 108, 3, 4, 8, 0, 0) := rfl
theorem fX4_here_19 : fetch tX4_here 19 = some (.iaload, 1, 0, 0, 0, 0) := rfl
theorem fX4_here_20 : fetch tX4_here 20 = some (.bipush 32, 2, 0, 0, 32, 0) := rfl
theorem fX4_here_22 : fetch tX4_here 22 = some (.if_icmp .ne 16, 3, 38, 0, 0, 0) := rfl
theorem fX4_here_25 : fetch tX4_here 25 = some (.aload_n 0, 1, 0, 0, 0, 0) := rfl
theorem fX4_here_26 : fetch tX4_here 26 = some (.dup, 1, 0, 0, 0, 0) := rfl
theorem fX4_here_27 : fetch tX4_here 27 = some (.getfield 108, 3, 4, 8, 0, 0) := rfl
theorem fX4_here_30 : fetch tX4_here 30 = some (.iconst 1, 1, 0, 0, 1, 0) := rfl
theorem fX4_here_31 : fetch tX4_here 31 = some (.iadd, 1, 0, 0, 0, 0) := rfl
theorem fX4_here_32 : fetch tX4_here 32 = some (.putfield 108, 3, 4, 8, 0, 0) := rfl
theorem fX4_here_35 : fetch tX4_here 35 = some (.goto (-35), 3, 0, 0, 0, 0) := rfl
theorem fX4_here_38 : fetch tX4_here 38 = some (.aload_n 0, 1, 0, 0, 0, 0) := rfl
theorem fX4_here_39 : fetch tX4_here 39 = some (.getfield 108, 3, 4, 8, 0, 0) := rfl
theorem fX4_here_42 : fetch tX4_here 42 = some (.aload_n 0, 1, 0, 0, 0, 0) := rfl
theorem fX4_here_43 : fetch tX4_here 43 = some (.getfield 105, 3, 4, 7, 0, 0) := rfl
theorem fX4_here_46 : fetch tX4_here 46 = some (.if_icmp .ge 15, 3, 61, 0, 0, 0) := rfl
theorem fX4_here_49 : fetch tX4_here 49 = some (.aload_n 0, 1, 0, 0, 0, 0) := rfl
theorem fX4_here_50 : fetch tX4_here 50 = some (.getfield 24, 3, 4, 6, 0, 0) := rfl
theorem fX4_here_53 : fetch tX4_here 53 = some (.aload_n 0, 1, 0, 0, 0, 0) := rfl
theorem fX4_here_54 : fetch tX4_here 54 = some (.getfield 108, 3, 4, 8, 0, 0) := rfl
theorem fX4_here_57 : fetch tX4_here 57 = some (.iaload, 1, 0, 0, 0, 0) := rfl
theorem fX4_here_58 : fetch tX4_here 58 = some (.goto 4, 3, 62, 0, 0, 0) := rfl
theorem fX4_here_61 : fetch tX4_here 61 = some (.iconst (-1), 1, 0, 0, (-1), 0) := rfl
theorem fX4_here_62 : fetch tX4_here 62 = some (.ireturn, 1, 0, 0, 0, 0) := rfl
def tX4_sign : List (Nat × TE) := [(0, .aload_n 0, 1, 0, 0, 0, 0), (1, .invokevirtual 111, 3, 0, 4, 0, 0), (4, .iload_n 1, 1, 1, 0, 0, 0), (5, .if_icmp .ne 7, 3, 12, 0, 0, 0), (8, .iconst 1, 1, 0, 0, 1, 0), (9, .goto 4, 3, 13, 0, 0, 0), (12, .iconst 0, 1, 0, 0, 0, 0), (13, .istore_n 2, 1, 2, 0, 0, 0), (14, .aload_n 0, 1, 0, 0, 0, 0), (15, .dup, 1, 0, 0, 0, 0), (16, .getfield 108, 3, 4, 8, 0, 0), (19, .iload_n 2, 1, 2, 0, 0, 0), (20, .ifCond .eq 7, 3, 27, 0, 0, 0), (23, .iconst 1, 1, 0, 0, 1, 0), (24, .goto 4, 3, 28, 0, 0, 0), (27, .iconst 0, 1, 0, 0, 0, 0), (28, .iadd, 1, 0, 0, 0, 0), (29, .putfield 108, 3, 4, 8, 0, 0), (32, .iload_n 2, 1, 2, 0, 0, 0), (33, .ireturn, 1, 0, 0, 0, 0)]
theorem tkX4_sign : tOk cX4_sign "RumourSourceModel" 3 tX4_sign = true := by decide +kernel
theorem fX4_sign_0 : fetch tX4_sign 0 = some (.aload_n 0, 1, 0, 0, 0, 0) := rfl
theorem fX4_sign_1 : fetch tX4_sign 1 = some (.invokevirtual 111, 3, 0, 4, 0, 0) := rfl
theorem fX4_sign_4 : fetch tX4_sign 4 = some (.iload_n 1, 1, 1, 0, 0, 0) := rfl
theorem fX4_sign_5 : fetch tX4_sign 5 = some (.if_icmp .ne 7, 3, 12, 0, 0, 0) := rfl
theorem fX4_sign_8 : fetch tX4_sign 8 = some (.iconst 1, 1, 0, 0, 1, 0) := rfl
theorem fX4_sign_9 : fetch tX4_sign 9 = some (.goto 4, 3, 13, 0, 0, 0) := rfl
theorem fX4_sign_12 : fetch tX4_sign 12 = some (.iconst 0, 1, 0, 0, 0, 0) := rfl
theorem fX4_sign_13 : fetch tX4_sign 13 = some (.istore_n 2, 1, 2, 0, 0, 0) := rfl
theorem fX4_sign_14 : fetch tX4_sign 14 = some (.aload_n 0, 1, 0, 0, 0, 0) := rfl
theorem fX4_sign_15 : fetch tX4_sign 15 = some (.dup, 1, 0, 0, 0, 0) := rfl
theorem fX4_sign_16 : fetch tX4_sign 16 = some (.getfield 108, 3, 4, 8, 0, 0) := rfl
theorem fX4_sign_19 : fetch tX4_sign 19 = some (.iload_n 2, 1, 2, 0, 0, 0) := rfl
theorem fX4_sign_20 : fetch tX4_sign 20 = some (.ifCond .eq 7, 3, 27, 0, 0, 0) := rfl
theorem fX4_sign_23 : fetch tX4_sign 23 = some (.iconst 1, 1, 0, 0, 1, 0) := rfl
theorem fX4_sign_24 : fetch tX4_sign 24 = some (.goto 4, 3, 28, 0, 0, 0) := rfl
theorem fX4_sign_27 : fetch tX4_sign 27 = some (.iconst 0, 1, 0, 0, 0, 0) := rfl
theorem fX4_sign_28 : fetch tX4_sign 28 = some (.iadd, 1, 0, 0, 0, 0) := rfl
theorem fX4_sign_29 : fetch tX4_sign 29 = some (.putfield 108, 3, 4, 8, 0, 0) := rfl
theorem fX4_sign_32 : fetch tX4_sign 32 = some (.iload_n 2, 1, 2, 0, 0, 0) := rfl
theorem fX4_sign_33 : fetch tX4_sign 33 = some (.ireturn, 1, 0, 0, 0, 0) := rfl
def tX4_number : List (Nat × TE) := [(0, .aload_n 0, 1, 0, 0, 0, 0), (1, .invokevirtual 111, 3, 0, 4, 0, 0), (4, .istore_n 3, 1, 3, 0, 0, 0), (5, .aload_n 0, 1, 0, 0, 0, 0), (6, .getfield 108, 3, 4, 8, 0, 0), (9, .istore 4, 2, 4, 0, 0, 0), (11, .iconst 0, 1, 0, 0, 0, 0), (12, .istore 5, 2, 5, 0, 0, 0), (14, .iload_n 3, 1, 3, 0, 0, 0), (15, .ifCond .lt 69, 3, 84, 0, 0, 0), (18, .iload 4, 2, 4, 0, 0, 0), (20, .aload_n 0, 1, 0, 0, 0, 0), (21, .getfield 105, 3, 4, 7, 0, 0), (24, .if_icmp .ge 60, 3, 84, 0, 0, 0), (27, .aload_n 0, 1, 0, 0, 0, 0), (28, .getfield 24, 3, 4, 6, 0, 0), (31, .iload 4, 2, 4, 0, 0, 0), (33, .iaload, 1, 0, 0, 0, 0), (34, .bipush 48, 2, 0, 0, 48, 0), (36, .bipush 57, 2, 0, 0, 57, 0), (38, .invokestatic 42, 3, 1, 4, 0, 0), (41, .ifCond .eq 43, 3, 84, 0, 0, 0), (44, .iload 4, 2, 4, 0, 0, 0), (46, .aload_n 0, 1, 0, 0, 0, 0), (47, .getfield 108, 3, 4, 8, 0, 0), (50, .isub, 1, 0, 0, 0, 0), (51, .iconst 3, 1, 0, 0, 3, 0), (52, .if_icmp .ge 22, 3, 74, 0, 0, 0), (55, .bipush 10, 2, 0, 0, 10, 0), (57, .iload 5, 2, 5, 0, 0, 0), (59, .imul, 1, 0, 0, 0, 0), (60, .aload_n 0, 1, 0, 0, 0, 0), (61, .getfield 24, 3, 4, 6, 0, 0), (64, .iload 4, 2, 4, 0, 0, 0), (66, .iaload, 1, 0, 0, 0, 0), (67, .iadd, 1, 0, 0, 0, 0), (68, .bipush 48, 2, 0, 0, 48, 0), (70, .isub, 1, 0, 0, 0, 0), (71, .goto 5, 3, 76, 0, 0, 0), (74, .iload 5, 2, 5, 0, 0, 0), (76, .istore 5, 2, 5, 0, 0, 0), (78, .iinc 4 1, 3, 4, 0, 1, 0), (81, .goto (-67), 3, 14, 0, 0, 0), (84, .iload 4, 2, 4, 0, 0, 0), (86, .aload_n 0, 1, 0, 0, 0, 0), (87, .getfield 108, 3, 4, 8, 0, 0), (90, .if_icmp .eq 24, 3, 114, 0, 0, 0), (93, .iload 4, 2, 4, 0, 0, 0), (95, .aload_n 0, 1, 0, 0, 0, 0), (96, .getfield 108, 3, 4, 8, 0, 0), (99, .isub, 1, 0, 0, 0, 0), (100, .iconst 2, 1, 0, 0, 2, 0), (101, .if_icmp .gt 13, 3, 114, 0, 0, 0), (104, .iload 5, 2, 5, 0, 0, 0), (106, .iload_n 1, 1, 1, 0, 0, 0), (107, .iload_n 2, 1, 2, 0, 0, 0), (108, .invokestatic 42, 3, 1, 4, 0, 0), (111, .ifCond .ne 5, 3, 116, 0, 0, 0), (114, .iconst (-1), 1, 0, 0, (-1), 0), (115, .ireturn, 1, 0, 0, 0, 0), (116, .aload_n 0, 1, 0, 0, 0, 0), (117, .iload 4, 2, 4, 0, 0, 0), (119, .putfield 108, 3, 4, 8, 0, 0), (122, .iload 5, 2, 5, 0, 0, 0), (124, .ireturn, 1, 0, 0, 0, 0)]
theorem tkX4_number : tOk cX4_number "RumourSourceModel" 6 tX4_number = true := by decide +kernel
theorem fX4_number_0 : fetch tX4_number 0 = some (.aload_n 0, 1, 0, 0, 0, 0) := rfl
theorem fX4_number_1 : fetch tX4_number 1 = some (.invokevirtual 111, 3, 0, 4, 0, 0) := rfl
theorem fX4_number_4 : fetch tX4_number 4 = some (.istore_n 3, 1, 3, 0, 0, 0) := rfl
theorem fX4_number_5 : fetch tX4_number 5 = some (.aload_n 0, 1, 0, 0, 0, 0) := rfl
theorem fX4_number_6 : fetch tX4_number 6 = some (.getfield 108, 3, 4, 8, 0, 0) := rfl
theorem fX4_number_9 : fetch tX4_number 9 = some (.istore 4, 2, 4, 0, 0, 0) := rfl
theorem fX4_number_11 : fetch tX4_number 11 = some (.iconst 0, 1, 0, 0, 0, 0) := rfl
theorem fX4_number_12 : fetch tX4_number 12 = some (.istore 5, 2, 5, 0, 0, 0) := rfl
theorem fX4_number_14 : fetch tX4_number 14 = some (.iload_n 3, 1, 3, 0, 0, 0) := rfl
theorem fX4_number_15 : fetch tX4_number 15 = some (.ifCond .lt 69, 3, 84, 0, 0, 0) := rfl
theorem fX4_number_18 : fetch tX4_number 18 = some (.iload 4, 2, 4, 0, 0, 0) := rfl
theorem fX4_number_20 : fetch tX4_number 20 = some (.aload_n 0, 1, 0, 0, 0, 0) := rfl
theorem fX4_number_21 : fetch tX4_number 21 = some (.getfield 105, 3, 4, 7, 0, 0) := rfl
theorem fX4_number_24 : fetch tX4_number 24 = some (.if_icmp .ge 60, 3, 84, 0, 0, 0) := rfl
theorem fX4_number_27 : fetch tX4_number 27 = some (.aload_n 0, 1, 0, 0, 0, 0) := rfl
theorem fX4_number_28 : fetch tX4_number 28 = some (.getfield 24, 3, 4, 6, 0, 0) := rfl
theorem fX4_number_31 : fetch tX4_number 31 = some (.iload 4, 2, 4, 0, 0, 0) := rfl
theorem fX4_number_33 : fetch tX4_number 33 = some (.iaload, 1, 0, 0, 0, 0) := rfl
theorem fX4_number_34 : fetch tX4_number 34 = some (.bipush 48, 2, 0, 0, 48, 0) := rfl
theorem fX4_number_36 : fetch tX4_number 36 = some (.bipush 57, 2, 0, 0, 57, 0) := rfl
theorem fX4_number_38 : fetch tX4_number 38 = some (.invokestatic 42, 3, 1, 4, 0, 0) := rfl
theorem fX4_number_41 : fetch tX4_number 41 = some (.ifCond .eq 43, 3, 84, 0, 0, 0) := rfl
theorem fX4_number_44 : fetch tX4_number 44 = some (.iload 4, 2, 4, 0, 0, 0) := rfl
theorem fX4_number_46 : fetch tX4_number 46 = some (.aload_n 0, 1, 0, 0, 0, 0) := rfl
theorem fX4_number_47 : fetch tX4_number 47 = some (.getfield 108, 3, 4, 8, 0, 0) := rfl
theorem fX4_number_50 : fetch tX4_number 50 = some (.isub, 1, 0, 0, 0, 0) := rfl
theorem fX4_number_51 : fetch tX4_number 51 = some (.iconst 3, 1, 0, 0, 3, 0) := rfl
theorem fX4_number_52 : fetch tX4_number 52 = some (.if_icmp .ge 22, 3, 74, 0, 0, 0) := rfl
theorem fX4_number_55 : fetch tX4_number 55 = some (.bipush 10, 2, 0, 0, 10, 0) := rfl
theorem fX4_number_57 : fetch tX4_number 57 = some (.iload 5, 2, 5, 0, 0, 0) := rfl
theorem fX4_number_59 : fetch tX4_number 59 = some (.imul, 1, 0, 0, 0, 0) := rfl
theorem fX4_number_60 : fetch tX4_number 60 = some (.aload_n 0, 1, 0, 0, 0, 0) := rfl
theorem fX4_number_61 : fetch tX4_number 61 = some (.getfield 24, 3, 4, 6, 0, 0) := rfl
theorem fX4_number_64 : fetch tX4_number 64 = some (.iload 4, 2, 4, 0, 0, 0) := rfl
theorem fX4_number_66 : fetch tX4_number 66 = some (.iaload, 1, 0, 0, 0, 0) := rfl
theorem fX4_number_67 : fetch tX4_number 67 = some (.iadd, 1, 0, 0, 0, 0) := rfl
theorem fX4_number_68 : fetch tX4_number 68 = some (.bipush 48, 2, 0, 0, 48, 0) := rfl
theorem fX4_number_70 : fetch tX4_number 70 = some (.isub, 1, 0, 0, 0, 0) := rfl
theorem fX4_number_71 : fetch tX4_number 71 = some (.goto 5, 3, 76, 0, 0, 0) := rfl
theorem fX4_number_74 : fetch tX4_number 74 = some (.iload 5, 2, 5, 0, 0, 0) := rfl
theorem fX4_number_76 : fetch tX4_number 76 = some (.istore 5, 2, 5, 0, 0, 0) := rfl
theorem fX4_number_78 : fetch tX4_number 78 = some (.iinc 4 1, 3, 4, 0, 1, 0) := rfl
theorem fX4_number_81 : fetch tX4_number 81 = some (.goto (-67), 3, 14, 0, 0, 0) := rfl
theorem fX4_number_84 : fetch tX4_number 84 = some (.iload 4, 2, 4, 0, 0, 0) := rfl
theorem fX4_number_86 : fetch tX4_number 86 = some (.aload_n 0, 1, 0, 0, 0, 0) := rfl
theorem fX4_number_87 : fetch tX4_number 87 = some (.getfield 108, 3, 4, 8, 0, 0) := rfl
theorem fX4_number_90 : fetch tX4_number 90 = some (.if_icmp .eq 24, 3, 114, 0, 0, 0) := rfl
theorem fX4_number_93 : fetch tX4_number 93 = some (.iload 4, 2, 4, 0, 0, 0) := rfl
theorem fX4_number_95 : fetch tX4_number 95 = some (.aload_n 0, 1, 0, 0, 0, 0) := rfl
theorem fX4_number_96 : fetch tX4_number 96 = some (.getfield 108, 3, 4, 8, 0, 0) := rfl
theorem fX4_number_99 : fetch tX4_number 99 = some (.isub, 1, 0, 0, 0, 0) := rfl
theorem fX4_number_100 : fetch tX4_number 100 = some (.iconst 2, 1, 0, 0, 2, 0) := rfl
theorem fX4_number_101 : fetch tX4_number 101 = some (.if_icmp .gt 13, 3, 114, 0, 0, 0) := rfl
theorem fX4_number_104 : fetch tX4_number 104 = some (.iload 5, 2, 5, 0, 0, 0) := rfl
theorem fX4_number_106 : fetch tX4_number 106 = some (.iload_n 1, 1, 1, 0, 0, 0) := rfl
theorem fX4_number_107 : fetch tX4_number 107 = some (.iload_n 2, 1, 2, 0, 0, 0) := rfl
theorem fX4_number_108 : fetch tX4_number 108 = some (.invokestatic 42, 3, 1, 4, 0, 0) := rfl
theorem fX4_number_111 : fetch tX4_number 111 = some (.ifCond .ne 5, 3, 116, 0, 0, 0) := rfl
theorem fX4_number_114 : fetch tX4_number 114 = some (.iconst (-1), 1, 0, 0, (-1), 0) := rfl
theorem fX4_number_115 : fetch tX4_number 115 = some (.ireturn, 1, 0, 0, 0, 0) := rfl
theorem fX4_number_116 : fetch tX4_number 116 = some (.aload_n 0, 1, 0, 0, 0, 0) := rfl
theorem fX4_number_117 : fetch tX4_number 117 = some (.iload 4, 2, 4, 0, 0, 0) := rfl
theorem fX4_number_119 : fetch tX4_number 119 = some (.putfield 108, 3, 4, 8, 0, 0) := rfl
theorem fX4_number_122 : fetch tX4_number 122 = some (.iload 5, 2, 5, 0, 0, 0) := rfl
theorem fX4_number_124 : fetch tX4_number 124 = some (.ireturn, 1, 0, 0, 0, 0) := rfl
def tX4_readsEdge : List (Nat × TE) := [(0, .aload_n 0, 1, 0, 0, 0, 0), (1, .invokevirtual 111, 3, 0, 4, 0, 0), (4, .bipush 48, 2, 0, 0, 48, 0), (6, .isub, 1, 0, 0, 0, 0), (7, .istore_n 3, 1, 3, 0, 0, 0), (8, .iload_n 3, 1, 3, 0, 0, 0), (9, .invokestatic 50, 3, 1, 4, 0, 0), (12, .ifCond .eq 35, 3, 47, 0, 0, 0), (15, .iload_n 3, 1, 3, 0, 0, 0), (16, .iload_n 1, 1, 1, 0, 0, 0), (17, .if_icmp .eq 30, 3, 47, 0, 0, 0), (20, .aload_n 0, 1, 0, 0, 0, 0), (21, .getfield 27, 3, 4, 9, 0, 0), (24, .bipush 8, 2, 0, 0, 8, 0), (26, .iload_n 1, 1, 1, 0, 0, 0), (27, .imul, 1, 0, 0, 0, 0), (28, .iload_n 3, 1, 3, 0, 0, 0), (29, .iadd, 1, 0, 0, 0, 0), (30, .baload, 1, 0, 0, 0, 0), (31, .ifCond .ne 12, 3, 43, 0, 0, 0), (34, .aload_n 0, 1, 0, 0, 0, 0), (35, .getfield 115, 3, 4, 10, 0, 0), (38, .bipush 12, 2, 0, 0, 12, 0), (40, .if_icmp .ge 7, 3, 47, 0, 0, 0), (43, .iconst 1, 1, 0, 0, 1, 0), (44, .goto 4, 3, 48, 0, 0, 0), (47, .iconst 0, 1, 0, 0, 0, 0), (48, .istore 4, 2, 4, 0, 0, 0), (50, .iload 4, 2, 4, 0, 0, 0), (52, .ifCond .ne 5, 3, 57, 0, 0, 0), (55, .iconst 0, 1, 0, 0, 0, 0), (56, .ireturn, 1, 0, 0, 0, 0), (57, .aload_n 0, 1, 0, 0, 0, 0), (58, .dup, 1, 0, 0, 0, 0), (59, .getfield 108, 3, 4, 8, 0, 0), (62, .iconst 1, 1, 0, 0, 1, 0), (63, .iadd, 1, 0, 0, 0, 0), (64, .putfield 108, 3, 4, 8, 0, 0), (67, .aload_n 0, 1, 0, 0, 0, 0), (68, .dup, 1, 0, 0, 0, 0), (69, .getfield 115, 3, 4, 10, 0, 0), (72, .aload_n 0, 1, 0, 0, 0, 0), (73, .getfield 27, 3, 4, 9, 0, 0), (76, .bipush 8, 2, 0, 0, 8, 0), (78, .iload_n 1, 1, 1, 0, 0, 0), (79, .imul, 1, 0, 0, 0, 0), (80, .iload_n 3, 1, 3, 0, 0, 0), (81, .iadd, 1, 0, 0, 0, 0), (82, .baload, 1, 0, 0, 0, 0), (83, .ifCond .eq 7, 3, 90, 0, 0, 0), (86, .iconst 0, 1, 0, 0, 0, 0), (87, .goto 4, 3, 91, 0, 0, 0), (90, .iconst 1, 1, 0, 0, 1, 0), (91, .iadd, 1, 0, 0, 0, 0), (92, .putfield 115, 3, 4, 10, 0, 0), (95, .aload_n 0, 1, 0, 0, 0, 0), (96, .getfield 27, 3, 4, 9, 0, 0), (99, .bipush 8, 2, 0, 0, 8, 0), (101, .iload_n 1, 1, 1, 0, 0, 0), (102, .imul, 1, 0, 0, 0, 0), (103, .iload_n 3, 1, 3, 0, 0, 0), (104, .iadd, 1, 0, 0, 0, 0), (105, .iconst 1, 1, 0, 0, 1, 0), (106, .bastore, 1, 0, 0, 0, 0), (107, .aload_n 0, 1, 0, 0, 0, 0), (108, .bipush 42, 2, 0, 0, 42, 0), (110, .invokevirtual 118, 3, 2, 4, 0, 0), (113, .ifCond .ne 5, 3, 118, 0, 0, 0), (116, .iconst 0, 1, 0, 0, 0, 0), (117, .ireturn, 1, 0, 0, 0, 0), (118, .aload_n 0, 1, 0, 0, 0, 0), (119, .iconst 0, 1, 0, 0, 0, 0), (120, .bipush 10, 2, 0, 0, 10, 0), (122, .invokevirtual 121, 3, 3, 4, 0, 0), (125, .istore 5, 2, 5, 0, 0, 0), (127, .iload 5, 2, 5, 0, 0, 0), (129, .iconst (-1), 1, 0, 0, (-1), 0), (130, .if_icmp .eq 12, 3, 142, 0, 0, 0), (133, .aload_n 0, 1, 0, 0, 0, 0), (134, .bipush 43, 2, 0, 0, 43, 0), (136, .invokevirtual 118, 3, 2, 4, 0, 0), (139, .ifCond .ne 5, 3, 144, 0, 0, 0), (142, .iconst 0, 1, 0, 0, 0, 0), (143, .ireturn, 1, 0, 0, 0, 0), (144, .aload_n 0, 1, 0, 0, 0, 0), (145, .iconst 1, 1, 0, 0, 1, 0), (146, .iconst 5, 1, 0, 0, 5, 0), (147, .invokevirtual 121, 3, 3, 4, 0, 0), (150, .istore 6, 2, 6, 0, 0, 0), (152, .iload 6, 2, 6, 0, 0, 0), (154, .iconst (-1), 1, 0, 0, (-1), 0), (155, .if_icmp .ne 5, 3, 160, 0, 0, 0), (158, .iconst 0, 1, 0, 0, 0, 0), (159, .ireturn, 1, 0, 0, 0, 0), (160, .iload_n 2, 1, 2, 0, 0, 0), (161, .ifCond .eq 58, 3, 219, 0, 0, 0), (164, .aload_n 0, 1, 0, 0, 0, 0), (165, .iload_n 1, 1, 1, 0, 0, 0), (166, .iload_n 3, 1, 3, 0, 0, 0), (167, .invokevirtual 54, 3, 4, 4, 0, 0), (170, .istore 7, 2, 7, 0, 0, 0), (172, .aload_n 0, 1, 0, 0, 0, 0), (173, .iload 7, 2, 7, 0, 0, 0), (175, .iconst (-1), 1, 0, 0, (-1), 0), (176, .if_icmp .ne 12, 3, 188, 0, 0, 0), (179, .aload_n 0, 1, 0, 0, 0, 0), (180, .getfield 7, 3, 4, 0, 0, 0), (183, .iconst 0, 1, 0, 0, 0, 0), (184, .iaload, 1, 0, 0, 0, 0), (185, .goto 5, 3, 190, 0, 0, 0), (188, .iload 7, 2, 7, 0, 0, 0), (190, .iload_n 1, 1, 1, 0, 0, 0), (191, .iload_n 3, 1, 3, 0, 0, 0), (192, .iload 5, 2, 5, 0, 0, 0), (194, .iload 6, 2, 6, 0, 0, 0), (196, .invokevirtual 60, 3, 5, 4, 0, 0), (199, .aload_n 0, 1, 0, 0, 0, 0), (200, .getfield 7, 3, 4, 0, 0, 0), (203, .iconst 0, 1, 0, 0, 0, 0), (204, .dup2, 1, 0, 0, 0, 0), (205, .iaload, 1, 0, 0, 0, 0), (206, .iload 7, 2, 7, 0, 0, 0), (208, .iconst (-1), 1, 0, 0, (-1), 0), (209, .if_icmp .ne 7, 3, 216, 0, 0, 0), (212, .iconst 1, 1, 0, 0, 1, 0), (213, .goto 4, 3, 217, 0, 0, 0), (216, .iconst 0, 1, 0, 0, 0, 0), (217, .iadd, 1, 0, 0, 0, 0), (218, .iastore, 1, 0, 0, 0, 0), (219, .iconst 1, 1, 0, 0, 1, 0), (220, .ireturn, 1, 0, 0, 0, 0)]
theorem tkX4_readsEdge : tOk cX4_readsEdge "RumourSourceModel" 8 tX4_readsEdge = true := by decide +kernel
theorem fX4_readsEdge_0 : fetch tX4_readsEdge 0 = some (.aload_n 0, 1, 0, 0, 0, 0) := rfl
theorem fX4_readsEdge_1 : fetch tX4_readsEdge 1 = some (.invokevirtual 111, 3, 0, 4, 0, 0) := rfl
theorem fX4_readsEdge_4 : fetch tX4_readsEdge 4 = some (.bipush 48, 2, 0, 0, 48, 0) := rfl
theorem fX4_readsEdge_6 : fetch tX4_readsEdge 6 = some (.isub, 1, 0, 0, 0, 0) := rfl
theorem fX4_readsEdge_7 : fetch tX4_readsEdge 7 = some (.istore_n 3, 1, 3, 0, 0, 0) := rfl
theorem fX4_readsEdge_8 : fetch tX4_readsEdge 8 = some (.iload_n 3, 1, 3, 0, 0, 0) := rfl
theorem fX4_readsEdge_9 : fetch tX4_readsEdge 9 = some (.invokestatic 50, 3, 1, 4, 0, 0) := rfl
theorem fX4_readsEdge_12 : fetch tX4_readsEdge 12 = some (.ifCond .eq 35, 3, 47, 0, 0, 0) := rfl
theorem fX4_readsEdge_15 : fetch tX4_readsEdge 15 = some (.iload_n 3, 1, 3, 0, 0, 0) := rfl
theorem fX4_readsEdge_16 : fetch tX4_readsEdge 16 = some (.iload_n 1, 1, 1, 0, 0, 0) := rfl
theorem fX4_readsEdge_17 : fetch tX4_readsEdge 17 = some (.if_icmp .eq 30, 3, 47, 0, 0, 0) := rfl
theorem fX4_readsEdge_20 : fetch tX4_readsEdge 20 = some (.aload_n 0, 1, 0, 0, 0, 0) := rfl
theorem fX4_readsEdge_21 : fetch tX4_readsEdge 21 = some (.getfield 27, 3, 4, 9, 0, 0) := rfl
theorem fX4_readsEdge_24 : fetch tX4_readsEdge 24 = some (.bipush 8, 2, 0, 0, 8, 0) := rfl
theorem fX4_readsEdge_26 : fetch tX4_readsEdge 26 = some (.iload_n 1, 1, 1, 0, 0, 0) := rfl
theorem fX4_readsEdge_27 : fetch tX4_readsEdge 27 = some (.imul, 1, 0, 0, 0, 0) := rfl
theorem fX4_readsEdge_28 : fetch tX4_readsEdge 28 = some (.iload_n 3, 1, 3, 0, 0, 0) := rfl
theorem fX4_readsEdge_29 : fetch tX4_readsEdge 29 = some (.iadd, 1, 0, 0, 0, 0) := rfl
theorem fX4_readsEdge_30 : fetch tX4_readsEdge 30 = some (.baload, 1, 0, 0, 0, 0) := rfl
theorem fX4_readsEdge_31 : fetch tX4_readsEdge 31 = some (.ifCond .ne 12, 3, 43, 0, 0, 0) := rfl
theorem fX4_readsEdge_34 : fetch tX4_readsEdge 34 = some (.aload_n 0, 1, 0, 0, 0, 0) := rfl
theorem fX4_readsEdge_35 : fetch tX4_readsEdge 35 = some (.getfield 115, 3, 4, 10, 0, 0) := rfl
theorem fX4_readsEdge_38 : fetch tX4_readsEdge 38 = some (.bipush 12, 2, 0, 0, 12, 0) := rfl
theorem fX4_readsEdge_40 : fetch tX4_readsEdge 40 = some (.if_icmp .ge 7, 3, 47, 0, 0, 0) := rfl
theorem fX4_readsEdge_43 : fetch tX4_readsEdge 43 = some (.iconst 1, 1, 0, 0, 1, 0) := rfl
theorem fX4_readsEdge_44 : fetch tX4_readsEdge 44 = some (.goto 4, 3, 48, 0, 0, 0) := rfl
theorem fX4_readsEdge_47 : fetch tX4_readsEdge 47 = some (.iconst 0, 1, 0, 0, 0, 0) := rfl
theorem fX4_readsEdge_48 : fetch tX4_readsEdge 48 = some (.istore 4, 2, 4, 0, 0, 0) := rfl
theorem fX4_readsEdge_50 : fetch tX4_readsEdge 50 = some (.iload 4, 2, 4, 0, 0, 0) := rfl
theorem fX4_readsEdge_52 : fetch tX4_readsEdge 52 = some (.ifCond .ne 5, 3, 57, 0, 0, 0) := rfl
theorem fX4_readsEdge_55 : fetch tX4_readsEdge 55 = some (.iconst 0, 1, 0, 0, 0, 0) := rfl
theorem fX4_readsEdge_56 : fetch tX4_readsEdge 56 = some (.ireturn, 1, 0, 0, 0, 0) := rfl
theorem fX4_readsEdge_57 : fetch tX4_readsEdge 57 = some (.aload_n 0, 1, 0, 0, 0, 0) := rfl
theorem fX4_readsEdge_58 : fetch tX4_readsEdge 58 = some (.dup, 1, 0, 0, 0, 0) := rfl
theorem fX4_readsEdge_59 : fetch tX4_readsEdge 59 = some (.getfield 108, 3, 4, 8, 0, 0) := rfl
theorem fX4_readsEdge_62 : fetch tX4_readsEdge 62 = some (.iconst 1, 1, 0, 0, 1, 0) := rfl
theorem fX4_readsEdge_63 : fetch tX4_readsEdge 63 = some (.iadd, 1, 0, 0, 0, 0) := rfl
theorem fX4_readsEdge_64 : fetch tX4_readsEdge 64 = some (.putfield 108, 3, 4, 8, 0, 0) := rfl
theorem fX4_readsEdge_67 : fetch tX4_readsEdge 67 = some (.aload_n 0, 1, 0, 0, 0, 0) := rfl
theorem fX4_readsEdge_68 : fetch tX4_readsEdge 68 = some (.dup, 1, 0, 0, 0, 0) := rfl
theorem fX4_readsEdge_69 : fetch tX4_readsEdge 69 = some (.getfield 115, 3, 4, 10, 0, 0) := rfl
theorem fX4_readsEdge_72 : fetch tX4_readsEdge 72 = some (.aload_n 0, 1, 0, 0, 0, 0) := rfl
theorem fX4_readsEdge_73 : fetch tX4_readsEdge 73 = some (.getfield 27, 3, 4, 9, 0, 0) := rfl
theorem fX4_readsEdge_76 : fetch tX4_readsEdge 76 = some (.bipush 8, 2, 0, 0, 8, 0) := rfl
theorem fX4_readsEdge_78 : fetch tX4_readsEdge 78 = some (.iload_n 1, 1, 1, 0, 0, 0) := rfl
theorem fX4_readsEdge_79 : fetch tX4_readsEdge 79 = some (.imul, 1, 0, 0, 0, 0) := rfl
theorem fX4_readsEdge_80 : fetch tX4_readsEdge 80 = some (.iload_n 3, 1, 3, 0, 0, 0) := rfl
theorem fX4_readsEdge_81 : fetch tX4_readsEdge 81 = some (.iadd, 1, 0, 0, 0, 0) := rfl
theorem fX4_readsEdge_82 : fetch tX4_readsEdge 82 = some (.baload, 1, 0, 0, 0, 0) := rfl
theorem fX4_readsEdge_83 : fetch tX4_readsEdge 83 = some (.ifCond .eq 7, 3, 90, 0, 0, 0) := rfl
theorem fX4_readsEdge_86 : fetch tX4_readsEdge 86 = some (.iconst 0, 1, 0, 0, 0, 0) := rfl
theorem fX4_readsEdge_87 : fetch tX4_readsEdge 87 = some (.goto 4, 3, 91, 0, 0, 0) := rfl
theorem fX4_readsEdge_90 : fetch tX4_readsEdge 90 = some (.iconst 1, 1, 0, 0, 1, 0) := rfl
theorem fX4_readsEdge_91 : fetch tX4_readsEdge 91 = some (.iadd, 1, 0, 0, 0, 0) := rfl
theorem fX4_readsEdge_92 : fetch tX4_readsEdge 92 = some (.putfield 115, 3, 4, 10, 0, 0) := rfl
theorem fX4_readsEdge_95 : fetch tX4_readsEdge 95 = some (.aload_n 0, 1, 0, 0, 0, 0) := rfl
theorem fX4_readsEdge_96 : fetch tX4_readsEdge 96 = some (.getfield 27, 3, 4, 9, 0, 0) := rfl
theorem fX4_readsEdge_99 : fetch tX4_readsEdge 99 = some (.bipush 8, 2, 0, 0, 8, 0) := rfl
theorem fX4_readsEdge_101 : fetch tX4_readsEdge 101 = some (.iload_n 1, 1, 1, 0, 0, 0) := rfl
theorem fX4_readsEdge_102 : fetch tX4_readsEdge 102 = some (.imul, 1, 0, 0, 0, 0) := rfl
theorem fX4_readsEdge_103 : fetch tX4_readsEdge 103 = some (.iload_n 3, 1, 3, 0, 0, 0) := rfl
theorem fX4_readsEdge_104 : fetch tX4_readsEdge 104 = some (.iadd, 1, 0, 0, 0, 0) := rfl
theorem fX4_readsEdge_105 : fetch tX4_readsEdge 105 = some (.iconst 1, 1, 0, 0, 1, 0) := rfl
theorem fX4_readsEdge_106 : fetch tX4_readsEdge 106 = some (.bastore, 1, 0, 0, 0, 0) := rfl
theorem fX4_readsEdge_107 : fetch tX4_readsEdge 107 = some (.aload_n 0, 1, 0, 0, 0, 0) := rfl
theorem fX4_readsEdge_108 : fetch tX4_readsEdge 108 = some (.bipush 42, 2, 0, 0, 42, 0) := rfl
theorem fX4_readsEdge_110 : fetch tX4_readsEdge 110 = some (.invokevirtual 118, 3, 2, 4, 0, 0) := rfl
theorem fX4_readsEdge_113 : fetch tX4_readsEdge 113 = some (.ifCond .ne 5, 3, 118, 0, 0, 0) := rfl
theorem fX4_readsEdge_116 : fetch tX4_readsEdge 116 = some (.iconst 0, 1, 0, 0, 0, 0) := rfl
theorem fX4_readsEdge_117 : fetch tX4_readsEdge 117 = some (.ireturn, 1, 0, 0, 0, 0) := rfl
theorem fX4_readsEdge_118 : fetch tX4_readsEdge 118 = some (.aload_n 0, 1, 0, 0, 0, 0) := rfl
theorem fX4_readsEdge_119 : fetch tX4_readsEdge 119 = some (.iconst 0, 1, 0, 0, 0, 0) := rfl
theorem fX4_readsEdge_120 : fetch tX4_readsEdge 120 = some (.bipush 10, 2, 0, 0, 10, 0) := rfl
theorem fX4_readsEdge_122 : fetch tX4_readsEdge 122 = some (.invokevirtual 121, 3, 3, 4, 0, 0) := rfl
theorem fX4_readsEdge_125 : fetch tX4_readsEdge 125 = some (.istore 5, 2, 5, 0, 0, 0) := rfl
theorem fX4_readsEdge_127 : fetch tX4_readsEdge 127 = some (.iload 5, 2, 5, 0, 0, 0) := rfl
theorem fX4_readsEdge_129 : fetch tX4_readsEdge 129 = some (.iconst (-1), 1, 0, 0, (-1), 0) := rfl
theorem fX4_readsEdge_130 : fetch tX4_readsEdge 130 = some (.if_icmp .eq 12, 3, 142, 0, 0, 0) := rfl
theorem fX4_readsEdge_133 : fetch tX4_readsEdge 133 = some (.aload_n 0, 1, 0, 0, 0, 0) := rfl
theorem fX4_readsEdge_134 : fetch tX4_readsEdge 134 = some (.bipush 43, 2, 0, 0, 43, 0) := rfl
theorem fX4_readsEdge_136 : fetch tX4_readsEdge 136 = some (.invokevirtual 118, 3, 2, 4, 0, 0) := rfl
theorem fX4_readsEdge_139 : fetch tX4_readsEdge 139 = some (.ifCond .ne 5, 3, 144, 0, 0, 0) := rfl
theorem fX4_readsEdge_142 : fetch tX4_readsEdge 142 = some (.iconst 0, 1, 0, 0, 0, 0) := rfl
theorem fX4_readsEdge_143 : fetch tX4_readsEdge 143 = some (.ireturn, 1, 0, 0, 0, 0) := rfl
theorem fX4_readsEdge_144 : fetch tX4_readsEdge 144 = some (.aload_n 0, 1, 0, 0, 0, 0) := rfl
theorem fX4_readsEdge_145 : fetch tX4_readsEdge 145 = some (.iconst 1, 1, 0, 0, 1, 0) := rfl
theorem fX4_readsEdge_146 : fetch tX4_readsEdge 146 = some (.iconst 5, 1, 0, 0, 5, 0) := rfl
theorem fX4_readsEdge_147 : fetch tX4_readsEdge 147 = some (.invokevirtual 121, 3, 3, 4, 0, 0) := rfl
theorem fX4_readsEdge_150 : fetch tX4_readsEdge 150 = some (.istore 6, 2, 6, 0, 0, 0) := rfl
theorem fX4_readsEdge_152 : fetch tX4_readsEdge 152 = some (.iload 6, 2, 6, 0, 0, 0) := rfl
theorem fX4_readsEdge_154 : fetch tX4_readsEdge 154 = some (.iconst (-1), 1, 0, 0, (-1), 0) := rfl
theorem fX4_readsEdge_155 : fetch tX4_readsEdge 155 = some (.if_icmp .ne 5, 3, 160, 0, 0, 0) := rfl
theorem fX4_readsEdge_158 : fetch tX4_readsEdge 158 = some (.iconst 0, 1, 0, 0, 0, 0) := rfl
theorem fX4_readsEdge_159 : fetch tX4_readsEdge 159 = some (.ireturn, 1, 0, 0, 0, 0) := rfl
theorem fX4_readsEdge_160 : fetch tX4_readsEdge 160 = some (.iload_n 2, 1, 2, 0, 0, 0) := rfl
theorem fX4_readsEdge_161 : fetch tX4_readsEdge 161 = some (.ifCond .eq 58, 3, 219, 0, 0, 0) := rfl
theorem fX4_readsEdge_164 : fetch tX4_readsEdge 164 = some (.aload_n 0, 1, 0, 0, 0, 0) := rfl
theorem fX4_readsEdge_165 : fetch tX4_readsEdge 165 = some (.iload_n 1, 1, 1, 0, 0, 0) := rfl
theorem fX4_readsEdge_166 : fetch tX4_readsEdge 166 = some (.iload_n 3, 1, 3, 0, 0, 0) := rfl
theorem fX4_readsEdge_167 : fetch tX4_readsEdge 167 = some (.invokevirtual 54, 3, 4, 4, 0, 0) := rfl
theorem fX4_readsEdge_170 : fetch tX4_readsEdge 170 = some (.istore 7, 2, 7, 0, 0, 0) := rfl
theorem fX4_readsEdge_172 : fetch tX4_readsEdge 172 = some (.aload_n 0, 1, 0, 0, 0, 0) := rfl
theorem fX4_readsEdge_173 : fetch tX4_readsEdge 173 = some (.iload 7, 2, 7, 0, 0, 0) := rfl
theorem fX4_readsEdge_175 : fetch tX4_readsEdge 175 = some (.iconst (-1), 1, 0, 0, (-1), 0) := rfl
theorem fX4_readsEdge_176 : fetch tX4_readsEdge 176 = some (.if_icmp .ne 12, 3, 188, 0, 0, 0) := rfl
theorem fX4_readsEdge_179 : fetch tX4_readsEdge 179 = some (.aload_n 0, 1, 0, 0, 0, 0) := rfl
theorem fX4_readsEdge_180 : fetch tX4_readsEdge 180 = some (.getfield 7, 3, 4, 0, 0, 0) := rfl
theorem fX4_readsEdge_183 : fetch tX4_readsEdge 183 = some (.iconst 0, 1, 0, 0, 0, 0) := rfl
theorem fX4_readsEdge_184 : fetch tX4_readsEdge 184 = some (.iaload, 1, 0, 0, 0, 0) := rfl
theorem fX4_readsEdge_185 : fetch tX4_readsEdge 185 = some (.goto 5, 3, 190, 0, 0, 0) := rfl
theorem fX4_readsEdge_188 : fetch tX4_readsEdge 188 = some (.iload 7, 2, 7, 0, 0, 0) := rfl
theorem fX4_readsEdge_190 : fetch tX4_readsEdge 190 = some (.iload_n 1, 1, 1, 0, 0, 0) := rfl
theorem fX4_readsEdge_191 : fetch tX4_readsEdge 191 = some (.iload_n 3, 1, 3, 0, 0, 0) := rfl
theorem fX4_readsEdge_192 : fetch tX4_readsEdge 192 = some (.iload 5, 2, 5, 0, 0, 0) := rfl
theorem fX4_readsEdge_194 : fetch tX4_readsEdge 194 = some (.iload 6, 2, 6, 0, 0, 0) := rfl
theorem fX4_readsEdge_196 : fetch tX4_readsEdge 196 = some (.invokevirtual 60, 3, 5, 4, 0, 0) := rfl
theorem fX4_readsEdge_199 : fetch tX4_readsEdge 199 = some (.aload_n 0, 1, 0, 0, 0, 0) := rfl
theorem fX4_readsEdge_200 : fetch tX4_readsEdge 200 = some (.getfield 7, 3, 4, 0, 0, 0) := rfl
theorem fX4_readsEdge_203 : fetch tX4_readsEdge 203 = some (.iconst 0, 1, 0, 0, 0, 0) := rfl
theorem fX4_readsEdge_204 : fetch tX4_readsEdge 204 = some (.dup2, 1, 0, 0, 0, 0) := rfl
theorem fX4_readsEdge_205 : fetch tX4_readsEdge 205 = some (.iaload, 1, 0, 0, 0, 0) := rfl
theorem fX4_readsEdge_206 : fetch tX4_readsEdge 206 = some (.iload 7, 2, 7, 0, 0, 0) := rfl
theorem fX4_readsEdge_208 : fetch tX4_readsEdge 208 = some (.iconst (-1), 1, 0, 0, (-1), 0) := rfl
theorem fX4_readsEdge_209 : fetch tX4_readsEdge 209 = some (.if_icmp .ne 7, 3, 216, 0, 0, 0) := rfl
theorem fX4_readsEdge_212 : fetch tX4_readsEdge 212 = some (.iconst 1, 1, 0, 0, 1, 0) := rfl
theorem fX4_readsEdge_213 : fetch tX4_readsEdge 213 = some (.goto 4, 3, 217, 0, 0, 0) := rfl
theorem fX4_readsEdge_216 : fetch tX4_readsEdge 216 = some (.iconst 0, 1, 0, 0, 0, 0) := rfl
theorem fX4_readsEdge_217 : fetch tX4_readsEdge 217 = some (.iadd, 1, 0, 0, 0, 0) := rfl
theorem fX4_readsEdge_218 : fetch tX4_readsEdge 218 = some (.iastore, 1, 0, 0, 0, 0) := rfl
theorem fX4_readsEdge_219 : fetch tX4_readsEdge 219 = some (.iconst 1, 1, 0, 0, 1, 0) := rfl
theorem fX4_readsEdge_220 : fetch tX4_readsEdge 220 = some (.ireturn, 1, 0, 0, 0, 0) := rfl
def tX4_readsItem : List (Nat × TE) := [(0, .aload_n 0, 1, 0, 0, 0, 0), (1, .invokevirtual 111, 3, 0, 4, 0, 0), (4, .bipush 48, 2, 0, 0, 48, 0), (6, .isub, 1, 0, 0, 0, 0), (7, .istore_n 2, 1, 2, 0, 0, 0), (8, .iload_n 2, 1, 2, 0, 0, 0), (9, .invokestatic 50, 3, 1, 4, 0, 0), (12, .ifCond .ne 5, 3, 17, 0, 0, 0), (15, .iconst 0, 1, 0, 0, 0, 0), (16, .ireturn, 1, 0, 0, 0, 0), (17, .aload_n 0, 1, 0, 0, 0, 0), (18, .dup, 1, 0, 0, 0, 0), (19, .getfield 108, 3, 4, 8, 0, 0), (22, .iconst 1, 1, 0, 0, 1, 0), (23, .iadd, 1, 0, 0, 0, 0), (24, .putfield 108, 3, 4, 8, 0, 0), (27, .aload_n 0, 1, 0, 0, 0, 0), (28, .bipush 62, 2, 0, 0, 62, 0), (30, .invokevirtual 118, 3, 2, 4, 0, 0), (33, .ifCond .eq 10, 3, 43, 0, 0, 0), (36, .aload_n 0, 1, 0, 0, 0, 0), (37, .iload_n 2, 1, 2, 0, 0, 0), (38, .iload_n 1, 1, 1, 0, 0, 0), (39, .invokevirtual 124, 3, 3, 4, 0, 0), (42, .ireturn, 1, 0, 0, 0, 0), (43, .aload_n 0, 1, 0, 0, 0, 0), (44, .bipush 61, 2, 0, 0, 61, 0), (46, .invokevirtual 118, 3, 2, 4, 0, 0), (49, .ifCond .ne 5, 3, 54, 0, 0, 0), (52, .iconst 0, 1, 0, 0, 0, 0), (53, .ireturn, 1, 0, 0, 0, 0), (54, .aload_n 0, 1, 0, 0, 0, 0), (55, .bipush 45, 2, 0, 0, 45, 0), (57, .invokevirtual 118, 3, 2, 4, 0, 0), (60, .istore_n 3, 1, 3, 0, 0, 0), (61, .iload_n 3, 1, 3, 0, 0, 0), (62, .ifCond .eq 7, 3, 69, 0, 0, 0), (65, .iconst (-1), 1, 0, 0, (-1), 0), (66, .goto 10, 3, 76, 0, 0, 0), (69, .aload_n 0, 1, 0, 0, 0, 0), (70, .iconst 0, 1, 0, 0, 0, 0), (71, .bipush 30, 2, 0, 0, 30, 0), (73, .invokevirtual 121, 3, 4, 4, 0, 0), (76, .istore 4, 2, 4, 0, 0, 0), (78, .iload_n 3, 1, 3, 0, 0, 0), (79, .ifCond .ne 11, 3, 90, 0, 0, 0), (82, .iload 4, 2, 4, 0, 0, 0), (84, .iconst (-1), 1, 0, 0, (-1), 0), (85, .if_icmp .ne 5, 3, 90, 0, 0, 0), (88, .iconst 0, 1, 0, 0, 0, 0), (89, .ireturn, 1, 0, 0, 0, 0), (90, .aload_n 0, 1, 0, 0, 0, 0), (91, .getfield 7, 3, 4, 0, 0, 0), (94, .bipush 51, 2, 0, 0, 51, 0), (96, .iload_n 2, 1, 2, 0, 0, 0), (97, .iadd, 1, 0, 0, 0, 0), (98, .iload_n 1, 1, 1, 0, 0, 0), (99, .ifCond .eq 8, 3, 107, 0, 0, 0), (102, .iload 4, 2, 4, 0, 0, 0), (104, .goto 12, 3, 116, 0, 0, 0), (107, .aload_n 0, 1, 0, 0, 0, 0), (108, .getfield 7, 3, 4, 0, 0, 0), (111, .bipush 51, 2, 0, 0, 51, 0), (113, .iload_n 2, 1, 2, 0, 0, 0), (114, .iadd, 1, 0, 0, 0, 0), (115, .iaload, 1, 0, 0, 0, 0), (116, .iastore, 1, 0, 0, 0, 0), (117, .iconst 1, 1, 0, 0, 1, 0), (118, .ireturn, 1, 0, 0, 0, 0)]
theorem tkX4_readsItem : tOk cX4_readsItem "RumourSourceModel" 5 tX4_readsItem = true := by decide +kernel
theorem fX4_readsItem_0 : fetch tX4_readsItem 0 = some (.aload_n 0, 1, 0, 0, 0, 0) := rfl
theorem fX4_readsItem_1 : fetch tX4_readsItem 1 = some (.invokevirtual 111, 3, 0, 4, 0, 0) := rfl
theorem fX4_readsItem_4 : fetch tX4_readsItem 4 = some (.bipush 48, 2, 0, 0, 48, 0) := rfl
theorem fX4_readsItem_6 : fetch tX4_readsItem 6 = some (.isub, 1, 0, 0, 0, 0) := rfl
theorem fX4_readsItem_7 : fetch tX4_readsItem 7 = some (.istore_n 2, 1, 2, 0, 0, 0) := rfl
theorem fX4_readsItem_8 : fetch tX4_readsItem 8 = some (.iload_n 2, 1, 2, 0, 0, 0) := rfl
theorem fX4_readsItem_9 : fetch tX4_readsItem 9 = some (.invokestatic 50, 3, 1, 4, 0, 0) := rfl
theorem fX4_readsItem_12 : fetch tX4_readsItem 12 = some (.ifCond .ne 5, 3, 17, 0, 0, 0) := rfl
theorem fX4_readsItem_15 : fetch tX4_readsItem 15 = some (.iconst 0, 1, 0, 0, 0, 0) := rfl
theorem fX4_readsItem_16 : fetch tX4_readsItem 16 = some (.ireturn, 1, 0, 0, 0, 0) := rfl
theorem fX4_readsItem_17 : fetch tX4_readsItem 17 = some (.aload_n 0, 1, 0, 0, 0, 0) := rfl
theorem fX4_readsItem_18 : fetch tX4_readsItem 18 = some (.dup, 1, 0, 0, 0, 0) := rfl
theorem fX4_readsItem_19 : fetch tX4_readsItem 19 = some (.getfield 108, 3, 4, 8, 0, 0) := rfl
theorem fX4_readsItem_22 : fetch tX4_readsItem 22 = some (.iconst 1, 1, 0, 0, 1, 0) := rfl
theorem fX4_readsItem_23 : fetch tX4_readsItem 23 = some (.iadd, 1, 0, 0, 0, 0) := rfl
theorem fX4_readsItem_24 : fetch tX4_readsItem 24 = some (.putfield 108, 3, 4, 8, 0, 0) := rfl
theorem fX4_readsItem_27 : fetch tX4_readsItem 27 = some (.aload_n 0, 1, 0, 0, 0, 0) := rfl
theorem fX4_readsItem_28 : fetch tX4_readsItem 28 = some (.bipush 62, 2, 0, 0, 62, 0) := rfl
theorem fX4_readsItem_30 : fetch tX4_readsItem 30 = some (.invokevirtual 118, 3, 2, 4, 0, 0) := rfl
theorem fX4_readsItem_33 : fetch tX4_readsItem 33 = some (.ifCond .eq 10, 3, 43, 0, 0, 0) := rfl
theorem fX4_readsItem_36 : fetch tX4_readsItem 36 = some (.aload_n 0, 1, 0, 0, 0, 0) := rfl
theorem fX4_readsItem_37 : fetch tX4_readsItem 37 = some (.iload_n 2, 1, 2, 0, 0, 0) := rfl
theorem fX4_readsItem_38 : fetch tX4_readsItem 38 = some (.iload_n 1, 1, 1, 0, 0, 0) := rfl
theorem fX4_readsItem_39 : fetch tX4_readsItem 39 = some (.invokevirtual 124, 3, 3, 4, 0, 0) := rfl
theorem fX4_readsItem_42 : fetch tX4_readsItem 42 = some (.ireturn, 1, 0, 0, 0, 0) := rfl
theorem fX4_readsItem_43 : fetch tX4_readsItem 43 = some (.aload_n 0, 1, 0, 0, 0, 0) := rfl
theorem fX4_readsItem_44 : fetch tX4_readsItem 44 = some (.bipush 61, 2, 0, 0, 61, 0) := rfl
theorem fX4_readsItem_46 : fetch tX4_readsItem 46 = some (.invokevirtual 118, 3, 2, 4, 0, 0) := rfl
theorem fX4_readsItem_49 : fetch tX4_readsItem 49 = some (.ifCond .ne 5, 3, 54, 0, 0, 0) := rfl
theorem fX4_readsItem_52 : fetch tX4_readsItem 52 = some (.iconst 0, 1, 0, 0, 0, 0) := rfl
theorem fX4_readsItem_53 : fetch tX4_readsItem 53 = some (.ireturn, 1, 0, 0, 0, 0) := rfl
theorem fX4_readsItem_54 : fetch tX4_readsItem 54 = some (.aload_n 0, 1, 0, 0, 0, 0) := rfl
theorem fX4_readsItem_55 : fetch tX4_readsItem 55 = some (.bipush 45, 2, 0, 0, 45, 0) := rfl
theorem fX4_readsItem_57 : fetch tX4_readsItem 57 = some (.invokevirtual 118, 3, 2, 4, 0, 0) := rfl
theorem fX4_readsItem_60 : fetch tX4_readsItem 60 = some (.istore_n 3, 1, 3, 0, 0, 0) := rfl
theorem fX4_readsItem_61 : fetch tX4_readsItem 61 = some (.iload_n 3, 1, 3, 0, 0, 0) := rfl
theorem fX4_readsItem_62 : fetch tX4_readsItem 62 = some (.ifCond .eq 7, 3, 69, 0, 0, 0) := rfl
theorem fX4_readsItem_65 : fetch tX4_readsItem 65 = some (.iconst (-1), 1, 0, 0, (-1), 0) := rfl
theorem fX4_readsItem_66 : fetch tX4_readsItem 66 = some (.goto 10, 3, 76, 0, 0, 0) := rfl
theorem fX4_readsItem_69 : fetch tX4_readsItem 69 = some (.aload_n 0, 1, 0, 0, 0, 0) := rfl
theorem fX4_readsItem_70 : fetch tX4_readsItem 70 = some (.iconst 0, 1, 0, 0, 0, 0) := rfl
theorem fX4_readsItem_71 : fetch tX4_readsItem 71 = some (.bipush 30, 2, 0, 0, 30, 0) := rfl
theorem fX4_readsItem_73 : fetch tX4_readsItem 73 = some (.invokevirtual 121, 3, 4, 4, 0, 0) := rfl
theorem fX4_readsItem_76 : fetch tX4_readsItem 76 = some (.istore 4, 2, 4, 0, 0, 0) := rfl
theorem fX4_readsItem_78 : fetch tX4_readsItem 78 = some (.iload_n 3, 1, 3, 0, 0, 0) := rfl
theorem fX4_readsItem_79 : fetch tX4_readsItem 79 = some (.ifCond .ne 11, 3, 90, 0, 0, 0) := rfl
theorem fX4_readsItem_82 : fetch tX4_readsItem 82 = some (.iload 4, 2, 4, 0, 0, 0) := rfl
theorem fX4_readsItem_84 : fetch tX4_readsItem 84 = some (.iconst (-1), 1, 0, 0, (-1), 0) := rfl
theorem fX4_readsItem_85 : fetch tX4_readsItem 85 = some (.if_icmp .ne 5, 3, 90, 0, 0, 0) := rfl
theorem fX4_readsItem_88 : fetch tX4_readsItem 88 = some (.iconst 0, 1, 0, 0, 0, 0) := rfl
theorem fX4_readsItem_89 : fetch tX4_readsItem 89 = some (.ireturn, 1, 0, 0, 0, 0) := rfl
theorem fX4_readsItem_90 : fetch tX4_readsItem 90 = some (.aload_n 0, 1, 0, 0, 0, 0) := rfl
theorem fX4_readsItem_91 : fetch tX4_readsItem 91 = some (.getfield 7, 3, 4, 0, 0, 0) := rfl
theorem fX4_readsItem_94 : fetch tX4_readsItem 94 = some (.bipush 51, 2, 0, 0, 51, 0) := rfl
theorem fX4_readsItem_96 : fetch tX4_readsItem 96 = some (.iload_n 2, 1, 2, 0, 0, 0) := rfl
theorem fX4_readsItem_97 : fetch tX4_readsItem 97 = some (.iadd, 1, 0, 0, 0, 0) := rfl
theorem fX4_readsItem_98 : fetch tX4_readsItem 98 = some (.iload_n 1, 1, 1, 0, 0, 0) := rfl
theorem fX4_readsItem_99 : fetch tX4_readsItem 99 = some (.ifCond .eq 8, 3, 107, 0, 0, 0) := rfl
theorem fX4_readsItem_102 : fetch tX4_readsItem 102 = some (.iload 4, 2, 4, 0, 0, 0) := rfl
theorem fX4_readsItem_104 : fetch tX4_readsItem 104 = some (.goto 12, 3, 116, 0, 0, 0) := rfl
theorem fX4_readsItem_107 : fetch tX4_readsItem 107 = some (.aload_n 0, 1, 0, 0, 0, 0) := rfl
theorem fX4_readsItem_108 : fetch tX4_readsItem 108 = some (.getfield 7, 3, 4, 0, 0, 0) := rfl
theorem fX4_readsItem_111 : fetch tX4_readsItem 111 = some (.bipush 51, 2, 0, 0, 51, 0) := rfl
theorem fX4_readsItem_113 : fetch tX4_readsItem 113 = some (.iload_n 2, 1, 2, 0, 0, 0) := rfl
theorem fX4_readsItem_114 : fetch tX4_readsItem 114 = some (.iadd, 1, 0, 0, 0, 0) := rfl
theorem fX4_readsItem_115 : fetch tX4_readsItem 115 = some (.iaload, 1, 0, 0, 0, 0) := rfl
theorem fX4_readsItem_116 : fetch tX4_readsItem 116 = some (.iastore, 1, 0, 0, 0, 0) := rfl
theorem fX4_readsItem_117 : fetch tX4_readsItem 117 = some (.iconst 1, 1, 0, 0, 1, 0) := rfl
theorem fX4_readsItem_118 : fetch tX4_readsItem 118 = some (.ireturn, 1, 0, 0, 0, 0) := rfl
def tX4_readsAll : List (Nat × TE) := [(0, .aload_n 0, 1, 0, 0, 0, 0), (1, .iconst 0, 1, 0, 0, 0, 0), (2, .putfield 108, 3, 4, 8, 0, 0), (5, .aload_n 0, 1, 0, 0, 0, 0), (6, .aload_n 0, 1, 0, 0, 0, 0), (7, .getfield 7, 3, 4, 0, 0, 0), (10, .iconst 0, 1, 0, 0, 0, 0), (11, .iaload, 1, 0, 0, 0, 0), (12, .putfield 115, 3, 4, 10, 0, 0), (15, .iconst 0, 1, 0, 0, 0, 0), (16, .istore_n 2, 1, 2, 0, 0, 0), (17, .iload_n 2, 1, 2, 0, 0, 0), (18, .bipush 64, 2, 0, 0, 64, 0), (20, .if_icmp .ge 36, 3, 56, 0, 0, 0), (23, .aload_n 0, 1, 0, 0, 0, 0), (24, .getfield 27, 3, 4, 9, 0, 0), (27, .iload_n 2, 1, 2, 0, 0, 0), (28, .aload_n 0, 1, 0, 0, 0, 0), (29, .iload_n 2, 1, 2, 0, 0, 0), (30, .bipush 8, 2, 0, 0, 8, 0), (32, .idiv, 1, 0, 0, 0, 0), (33, .iload_n 2, 1, 2, 0, 0, 0), (34, .bipush 8, 2, 0, 0, 8, 0), (36, .irem, 1, 0, 0, 0, 0), (37, .invokevirtual 54, 3, 0, 4, 0, 0), (40, .iconst (-1), 1, 0, 0, (-1), 0), (41, .if_icmp .eq 7, 3, 48, 0, 0, 0), (44, .iconst 1, 1, 0, 0, 1, 0), (45, .goto 4, 3, 49, 0, 0, 0), (48, .iconst 0, 1, 0, 0, 0, 0), (49, .bastore, 1, 0, 0, 0, 0), (50, .iinc 2 1, 3, 2, 0, 1, 0), (53, .goto (-36), 3, 17, 0, 0, 0), (56, .aload_n 0, 1, 0, 0, 0, 0), (57, .iload_n 1, 1, 1, 0, 0, 0), (58, .invokevirtual 128, 3, 1, 4, 0, 0), (61, .istore_n 2, 1, 2, 0, 0, 0), (62, .aload_n 0, 1, 0, 0, 0, 0), (63, .invokevirtual 111, 3, 2, 4, 0, 0), (66, .istore_n 3, 1, 3, 0, 0, 0), (67, .iload_n 2, 1, 2, 0, 0, 0), (68, .ifCond .eq 39, 3, 107, 0, 0, 0), (71, .iload_n 3, 1, 3, 0, 0, 0), (72, .iconst (-1), 1, 0, 0, (-1), 0), (73, .if_icmp .eq 34, 3, 107, 0, 0, 0), (76, .aload_n 0, 1, 0, 0, 0, 0), (77, .bipush 59, 2, 0, 0, 59, 0), (79, .invokevirtual 118, 3, 3, 4, 0, 0), (82, .ifCond .eq 15, 3, 97, 0, 0, 0), (85, .aload_n 0, 1, 0, 0, 0, 0), (86, .iload_n 1, 1, 1, 0, 0, 0), (87, .invokevirtual 128, 3, 1, 4, 0, 0), (90, .ifCond .eq 7, 3, 97, 0, 0, 0), (93, .iconst 1, 1, 0, 0, 1, 0), (94, .goto 4, 3, 98, 0, 0, 0), (97, .iconst 0, 1, 0, 0, 0, 0), (98, .istore_n 2, 1, 2, 0, 0, 0), (99, .aload_n 0, 1, 0, 0, 0, 0), (100, .invokevirtual 111, 3, 2, 4, 0, 0), (103, .istore_n 3, 1, 3, 0, 0, 0), (104, .goto (-37), 3, 67, 0, 0, 0), (107, .iload_n 2, 1, 2, 0, 0, 0), (108, .ireturn, 1, 0, 0, 0, 0)]
theorem tkX4_readsAll : tOk cX4_readsAll "RumourSourceModel" 4 tX4_readsAll = true := by decide +kernel
theorem fX4_readsAll_0 : fetch tX4_readsAll 0 = some (.aload_n 0, 1, 0, 0, 0, 0) := rfl
theorem fX4_readsAll_1 : fetch tX4_readsAll 1 = some (.iconst 0, 1, 0, 0, 0, 0) := rfl
theorem fX4_readsAll_2 : fetch tX4_readsAll 2 = some (.putfield 108, 3, 4, 8, 0, 0) := rfl
theorem fX4_readsAll_5 : fetch tX4_readsAll 5 = some (.aload_n 0, 1, 0, 0, 0, 0) := rfl
theorem fX4_readsAll_6 : fetch tX4_readsAll 6 = some (.aload_n 0, 1, 0, 0, 0, 0) := rfl
theorem fX4_readsAll_7 : fetch tX4_readsAll 7 = some (.getfield 7, 3, 4, 0, 0, 0) := rfl
theorem fX4_readsAll_10 : fetch tX4_readsAll 10 = some (.iconst 0, 1, 0, 0, 0, 0) := rfl
theorem fX4_readsAll_11 : fetch tX4_readsAll 11 = some (.iaload, 1, 0, 0, 0, 0) := rfl
theorem fX4_readsAll_12 : fetch tX4_readsAll 12 = some (.putfield 115, 3, 4, 10, 0, 0) := rfl
theorem fX4_readsAll_15 : fetch tX4_readsAll 15 = some (.iconst 0, 1, 0, 0, 0, 0) := rfl
theorem fX4_readsAll_16 : fetch tX4_readsAll 16 = some (.istore_n 2, 1, 2, 0, 0, 0) := rfl
theorem fX4_readsAll_17 : fetch tX4_readsAll 17 = some (.iload_n 2, 1, 2, 0, 0, 0) := rfl
theorem fX4_readsAll_18 : fetch tX4_readsAll 18 = some (.bipush 64, 2, 0, 0, 64, 0) := rfl
theorem fX4_readsAll_20 : fetch tX4_readsAll 20 = some (.if_icmp .ge 36, 3, 56, 0, 0, 0) := rfl
theorem fX4_readsAll_23 : fetch tX4_readsAll 23 = some (.aload_n 0, 1, 0, 0, 0, 0) := rfl
theorem fX4_readsAll_24 : fetch tX4_readsAll 24 = some (.getfield 27, 3, 4, 9, 0, 0) := rfl
theorem fX4_readsAll_27 : fetch tX4_readsAll 27 = some (.iload_n 2, 1, 2, 0, 0, 0) := rfl
theorem fX4_readsAll_28 : fetch tX4_readsAll 28 = some (.aload_n 0, 1, 0, 0, 0, 0) := rfl
theorem fX4_readsAll_29 : fetch tX4_readsAll 29 = some (.iload_n 2, 1, 2, 0, 0, 0) := rfl
theorem fX4_readsAll_30 : fetch tX4_readsAll 30 = some (.bipush 8, 2, 0, 0, 8, 0) := rfl
theorem fX4_readsAll_32 : fetch tX4_readsAll 32 = some (.idiv, 1, 0, 0, 0, 0) := rfl
theorem fX4_readsAll_33 : fetch tX4_readsAll 33 = some (.iload_n 2, 1, 2, 0, 0, 0) := rfl
theorem fX4_readsAll_34 : fetch tX4_readsAll 34 = some (.bipush 8, 2, 0, 0, 8, 0) := rfl
theorem fX4_readsAll_36 : fetch tX4_readsAll 36 = some (.irem, 1, 0, 0, 0, 0) := rfl
theorem fX4_readsAll_37 : fetch tX4_readsAll 37 = some (.invokevirtual 54, 3, 0, 4, 0, 0) := rfl
theorem fX4_readsAll_40 : fetch tX4_readsAll 40 = some (.iconst (-1), 1, 0, 0, (-1), 0) := rfl
theorem fX4_readsAll_41 : fetch tX4_readsAll 41 = some (.if_icmp .eq 7, 3, 48, 0, 0, 0) := rfl
theorem fX4_readsAll_44 : fetch tX4_readsAll 44 = some (.iconst 1, 1, 0, 0, 1, 0) := rfl
theorem fX4_readsAll_45 : fetch tX4_readsAll 45 = some (.goto 4, 3, 49, 0, 0, 0) := rfl
theorem fX4_readsAll_48 : fetch tX4_readsAll 48 = some (.iconst 0, 1, 0, 0, 0, 0) := rfl
theorem fX4_readsAll_49 : fetch tX4_readsAll 49 = some (.bastore, 1, 0, 0, 0, 0) := rfl
theorem fX4_readsAll_50 : fetch tX4_readsAll 50 = some (.iinc 2 1, 3, 2, 0, 1, 0) := rfl
theorem fX4_readsAll_53 : fetch tX4_readsAll 53 = some (.goto (-36), 3, 17, 0, 0, 0) := rfl
theorem fX4_readsAll_56 : fetch tX4_readsAll 56 = some (.aload_n 0, 1, 0, 0, 0, 0) := rfl
theorem fX4_readsAll_57 : fetch tX4_readsAll 57 = some (.iload_n 1, 1, 1, 0, 0, 0) := rfl
theorem fX4_readsAll_58 : fetch tX4_readsAll 58 = some (.invokevirtual 128, 3, 1, 4, 0, 0) := rfl
theorem fX4_readsAll_61 : fetch tX4_readsAll 61 = some (.istore_n 2, 1, 2, 0, 0, 0) := rfl
theorem fX4_readsAll_62 : fetch tX4_readsAll 62 = some (.aload_n 0, 1, 0, 0, 0, 0) := rfl
theorem fX4_readsAll_63 : fetch tX4_readsAll 63 = some (.invokevirtual 111, 3, 2, 4, 0, 0) := rfl
theorem fX4_readsAll_66 : fetch tX4_readsAll 66 = some (.istore_n 3, 1, 3, 0, 0, 0) := rfl
theorem fX4_readsAll_67 : fetch tX4_readsAll 67 = some (.iload_n 2, 1, 2, 0, 0, 0) := rfl
theorem fX4_readsAll_68 : fetch tX4_readsAll 68 = some (.ifCond .eq 39, 3, 107, 0, 0, 0) := rfl
theorem fX4_readsAll_71 : fetch tX4_readsAll 71 = some (.iload_n 3, 1, 3, 0, 0, 0) := rfl
theorem fX4_readsAll_72 : fetch tX4_readsAll 72 = some (.iconst (-1), 1, 0, 0, (-1), 0) := rfl
theorem fX4_readsAll_73 : fetch tX4_readsAll 73 = some (.if_icmp .eq 34, 3, 107, 0, 0, 0) := rfl
theorem fX4_readsAll_76 : fetch tX4_readsAll 76 = some (.aload_n 0, 1, 0, 0, 0, 0) := rfl
theorem fX4_readsAll_77 : fetch tX4_readsAll 77 = some (.bipush 59, 2, 0, 0, 59, 0) := rfl
theorem fX4_readsAll_79 : fetch tX4_readsAll 79 = some (.invokevirtual 118, 3, 3, 4, 0, 0) := rfl
theorem fX4_readsAll_82 : fetch tX4_readsAll 82 = some (.ifCond .eq 15, 3, 97, 0, 0, 0) := rfl
theorem fX4_readsAll_85 : fetch tX4_readsAll 85 = some (.aload_n 0, 1, 0, 0, 0, 0) := rfl
theorem fX4_readsAll_86 : fetch tX4_readsAll 86 = some (.iload_n 1, 1, 1, 0, 0, 0) := rfl
theorem fX4_readsAll_87 : fetch tX4_readsAll 87 = some (.invokevirtual 128, 3, 1, 4, 0, 0) := rfl
theorem fX4_readsAll_90 : fetch tX4_readsAll 90 = some (.ifCond .eq 7, 3, 97, 0, 0, 0) := rfl
theorem fX4_readsAll_93 : fetch tX4_readsAll 93 = some (.iconst 1, 1, 0, 0, 1, 0) := rfl
theorem fX4_readsAll_94 : fetch tX4_readsAll 94 = some (.goto 4, 3, 98, 0, 0, 0) := rfl
theorem fX4_readsAll_97 : fetch tX4_readsAll 97 = some (.iconst 0, 1, 0, 0, 0, 0) := rfl
theorem fX4_readsAll_98 : fetch tX4_readsAll 98 = some (.istore_n 2, 1, 2, 0, 0, 0) := rfl
theorem fX4_readsAll_99 : fetch tX4_readsAll 99 = some (.aload_n 0, 1, 0, 0, 0, 0) := rfl
theorem fX4_readsAll_100 : fetch tX4_readsAll 100 = some (.invokevirtual 111, 3, 2, 4, 0, 0) := rfl
theorem fX4_readsAll_103 : fetch tX4_readsAll 103 = some (.istore_n 3, 1, 3, 0, 0, 0) := rfl
theorem fX4_readsAll_104 : fetch tX4_readsAll 104 = some (.goto (-37), 3, 67, 0, 0, 0) := rfl
theorem fX4_readsAll_107 : fetch tX4_readsAll 107 = some (.iload_n 2, 1, 2, 0, 0, 0) := rfl
theorem fX4_readsAll_108 : fetch tX4_readsAll 108 = some (.ireturn, 1, 0, 0, 0, 0) := rfl
def tX4_textFault : List (Nat × TE) := [(0, .aload_n 0, 1, 0, 0, 0, 0), (1, .iconst 0, 1, 0, 0, 0, 0), (2, .invokevirtual 132, 3, 0, 4, 0, 0), (5, .ifCond .eq 7, 3, 12, 0, 0, 0), (8, .iconst (-1), 1, 0, 0, (-1), 0), (9, .goto 7, 3, 16, 0, 0, 0), (12, .aload_n 0, 1, 0, 0, 0, 0), (13, .getfield 108, 3, 4, 8, 0, 0), (16, .ireturn, 1, 0, 0, 0, 0)]
theorem tkX4_textFault : tOk cX4_textFault "RumourSourceModel" 1 tX4_textFault = true := by decide +kernel
theorem fX4_textFault_0 : fetch tX4_textFault 0 = some (.aload_n 0, 1, 0, 0, 0, 0) := rfl
theorem fX4_textFault_1 : fetch tX4_textFault 1 = some (.iconst 0, 1, 0, 0, 0, 0) := rfl
theorem fX4_textFault_2 : fetch tX4_textFault 2 = some (.invokevirtual 132, 3, 0, 4, 0, 0) := rfl
theorem fX4_textFault_5 : fetch tX4_textFault 5 = some (.ifCond .eq 7, 3, 12, 0, 0, 0) := rfl
theorem fX4_textFault_8 : fetch tX4_textFault 8 = some (.iconst (-1), 1, 0, 0, (-1), 0) := rfl
theorem fX4_textFault_9 : fetch tX4_textFault 9 = some (.goto 7, 3, 16, 0, 0, 0) := rfl
theorem fX4_textFault_12 : fetch tX4_textFault 12 = some (.aload_n 0, 1, 0, 0, 0, 0) := rfl
theorem fX4_textFault_13 : fetch tX4_textFault 13 = some (.getfield 108, 3, 4, 8, 0, 0) := rfl
theorem fX4_textFault_16 : fetch tX4_textFault 16 = some (.ireturn, 1, 0, 0, 0, 0) := rfl
def tX4_load : List (Nat × TE) := [(0, .aload_n 0, 1, 0, 0, 0, 0), (1, .iconst 0, 1, 0, 0, 0, 0), (2, .invokevirtual 132, 3, 0, 4, 0, 0), (5, .ifCond .ne 6, 3, 11, 0, 0, 0), (8, .bipush (-4), 2, 0, 0, (-4), 0), (10, .ireturn, 1, 0, 0, 0, 0), (11, .aload_n 0, 1, 0, 0, 0, 0), (12, .invokevirtual 57, 3, 1, 4, 0, 0), (15, .aload_n 0, 1, 0, 0, 0, 0), (16, .iconst 1, 1, 0, 0, 1, 0), (17, .invokevirtual 132, 3, 0, 4, 0, 0), (20, .istore_n 1, 1, 1, 0, 0, 0), (21, .aload_n 0, 1, 0, 0, 0, 0), (22, .getfield 7, 3, 4, 0, 0, 0), (25, .iconst 0, 1, 0, 0, 0, 0), (26, .iaload, 1, 0, 0, 0, 0), (27, .ireturn, 1, 0, 0, 0, 0)]
theorem tkX4_load : tOk cX4_load "RumourSourceModel" 2 tX4_load = true := by decide +kernel
theorem fX4_load_0 : fetch tX4_load 0 = some (.aload_n 0, 1, 0, 0, 0, 0) := rfl
theorem fX4_load_1 : fetch tX4_load 1 = some (.iconst 0, 1, 0, 0, 0, 0) := rfl
theorem fX4_load_2 : fetch tX4_load 2 = some (.invokevirtual 132, 3, 0, 4, 0, 0) := rfl
theorem fX4_load_5 : fetch tX4_load 5 = some (.ifCond .ne 6, 3, 11, 0, 0, 0) := rfl
theorem fX4_load_8 : fetch tX4_load 8 = some (.bipush (-4), 2, 0, 0, (-4), 0) := rfl
theorem fX4_load_10 : fetch tX4_load 10 = some (.ireturn, 1, 0, 0, 0, 0) := rfl
theorem fX4_load_11 : fetch tX4_load 11 = some (.aload_n 0, 1, 0, 0, 0, 0) := rfl
theorem fX4_load_12 : fetch tX4_load 12 = some (.invokevirtual 57, 3, 1, 4, 0, 0) := rfl
theorem fX4_load_15 : fetch tX4_load 15 = some (.aload_n 0, 1, 0, 0, 0, 0) := rfl
theorem fX4_load_16 : fetch tX4_load 16 = some (.iconst 1, 1, 0, 0, 1, 0) := rfl
theorem fX4_load_17 : fetch tX4_load 17 = some (.invokevirtual 132, 3, 0, 4, 0, 0) := rfl
theorem fX4_load_20 : fetch tX4_load 20 = some (.istore_n 1, 1, 1, 0, 0, 0) := rfl
theorem fX4_load_21 : fetch tX4_load 21 = some (.aload_n 0, 1, 0, 0, 0, 0) := rfl
theorem fX4_load_22 : fetch tX4_load 22 = some (.getfield 7, 3, 4, 0, 0, 0) := rfl
theorem fX4_load_25 : fetch tX4_load 25 = some (.iconst 0, 1, 0, 0, 0, 0) := rfl
theorem fX4_load_26 : fetch tX4_load 26 = some (.iaload, 1, 0, 0, 0, 0) := rfl
theorem fX4_load_27 : fetch tX4_load 27 = some (.ireturn, 1, 0, 0, 0, 0) := rfl
def tX4_note : List (Nat × TE) := [(0, .aload_n 0, 1, 0, 0, 0, 0), (1, .ldc2_w 135, 3, 0, 0, 0, 31), (4, .aload_n 0, 1, 0, 0, 0, 0), (5, .getfield 137, 3, 4, 11, 0, 0), (8, .lmul, 1, 0, 0, 0, 0), (9, .iload_n 1, 1, 1, 0, 0, 0), (10, .i2l, 1, 0, 0, 0, 0), (11, .ladd, 1, 0, 0, 0, 0), (12, .putfield 137, 3, 4, 11, 0, 0), (15, .return_, 1, 0, 0, 0, 0)]
theorem tkX4_note : tOk cX4_note "RumourSourceModel" 2 tX4_note = true := by decide +kernel
theorem fX4_note_0 : fetch tX4_note 0 = some (.aload_n 0, 1, 0, 0, 0, 0) := rfl
theorem fX4_note_1 : fetch tX4_note 1 = some (.ldc2_w 135, 3, 0, 0, 0, 31) := rfl
theorem fX4_note_4 : fetch tX4_note 4 = some (.aload_n 0, 1, 0, 0, 0, 0) := rfl
theorem fX4_note_5 : fetch tX4_note 5 = some (.getfield 137, 3, 4, 11, 0, 0) := rfl
theorem fX4_note_8 : fetch tX4_note 8 = some (.lmul, 1, 0, 0, 0, 0) := rfl
theorem fX4_note_9 : fetch tX4_note 9 = some (.iload_n 1, 1, 1, 0, 0, 0) := rfl
theorem fX4_note_10 : fetch tX4_note 10 = some (.i2l, 1, 0, 0, 0, 0) := rfl
theorem fX4_note_11 : fetch tX4_note 11 = some (.ladd, 1, 0, 0, 0, 0) := rfl
theorem fX4_note_12 : fetch tX4_note 12 = some (.putfield 137, 3, 4, 11, 0, 0) := rfl
theorem fX4_note_15 : fetch tX4_note 15 = some (.return_, 1, 0, 0, 0, 0) := rfl
def tX4_digest : List (Nat × TE) := [(0, .aload_n 0, 1, 0, 0, 0, 0), (1, .ldc2_w 141, 3, 0, 0, 0, 17), (4, .putfield 137, 3, 4, 11, 0, 0), (7, .aload_n 0, 1, 0, 0, 0, 0), (8, .aload_n 0, 1, 0, 0, 0, 0), (9, .getfield 7, 3, 4, 0, 0, 0), (12, .iconst 0, 1, 0, 0, 0, 0), (13, .iaload, 1, 0, 0, 0, 0), (14, .invokevirtual 143, 3, 0, 4, 0, 0), (17, .iconst 0, 1, 0, 0, 0, 0), (18, .istore_n 1, 1, 1, 0, 0, 0), (19, .iload_n 1, 1, 1, 0, 0, 0), (20, .iconst 4, 1, 0, 0, 4, 0), (21, .aload_n 0, 1, 0, 0, 0, 0), (22, .getfield 7, 3, 4, 0, 0, 0), (25, .iconst 0, 1, 0, 0, 0, 0), (26, .iaload, 1, 0, 0, 0, 0), (27, .imul, 1, 0, 0, 0, 0), (28, .if_icmp .ge 21, 3, 49, 0, 0, 0), (31, .aload_n 0, 1, 0, 0, 0, 0), (32, .aload_n 0, 1, 0, 0, 0, 0), (33, .getfield 7, 3, 4, 0, 0, 0), (36, .iconst 3, 1, 0, 0, 3, 0), (37, .iload_n 1, 1, 1, 0, 0, 0), (38, .iadd, 1, 0, 0, 0, 0), (39, .iaload, 1, 0, 0, 0, 0), (40, .invokevirtual 143, 3, 0, 4, 0, 0), (43, .iinc 1 1, 3, 1, 0, 1, 0), (46, .goto (-27), 3, 19, 0, 0, 0), (49, .aload_n 0, 1, 0, 0, 0, 0), (50, .aload_n 0, 1, 0, 0, 0, 0), (51, .getfield 7, 3, 4, 0, 0, 0), (54, .iconst 1, 1, 0, 0, 1, 0), (55, .iaload, 1, 0, 0, 0, 0), (56, .invokevirtual 143, 3, 0, 4, 0, 0), (59, .iconst 0, 1, 0, 0, 0, 0), (60, .istore_n 1, 1, 1, 0, 0, 0), (61, .iload_n 1, 1, 1, 0, 0, 0), (62, .bipush 8, 2, 0, 0, 8, 0), (64, .if_icmp .ge 22, 3, 86, 0, 0, 0), (67, .aload_n 0, 1, 0, 0, 0, 0), (68, .aload_n 0, 1, 0, 0, 0, 0), (69, .getfield 7, 3, 4, 0, 0, 0), (72, .bipush 51, 2, 0, 0, 51, 0), (74, .iload_n 1, 1, 1, 0, 0, 0), (75, .iadd, 1, 0, 0, 0, 0), (76, .iaload, 1, 0, 0, 0, 0), (77, .invokevirtual 143, 3, 0, 4, 0, 0), (80, .iinc 1 1, 3, 1, 0, 1, 0), (83, .goto (-22), 3, 61, 0, 0, 0), (86, .aload_n 0, 1, 0, 0, 0, 0), (87, .aload_n 0, 1, 0, 0, 0, 0), (88, .getfield 7, 3, 4, 0, 0, 0), (91, .iconst 2, 1, 0, 0, 2, 0), (92, .iaload, 1, 0, 0, 0, 0), (93, .invokevirtual 143, 3, 0, 4, 0, 0), (96, .aload_n 0, 1, 0, 0, 0, 0), (97, .getfield 137, 3, 4, 11, 0, 0), (100, .lreturn, 1, 0, 0, 0, 0)]
theorem tkX4_digest : tOk cX4_digest "RumourSourceModel" 2 tX4_digest = true := by decide +kernel
theorem fX4_digest_0 : fetch tX4_digest 0 = some (.aload_n 0, 1, 0, 0, 0, 0) := rfl
theorem fX4_digest_1 : fetch tX4_digest 1 = some (.ldc2_w 141, 3, 0, 0, 0, 17) := rfl
theorem fX4_digest_4 : fetch tX4_digest 4 = some (.putfield 137, 3, 4, 11, 0, 0) := rfl
theorem fX4_digest_7 : fetch tX4_digest 7 = some (.aload_n 0, 1, 0, 0, 0, 0) := rfl
theorem fX4_digest_8 : fetch tX4_digest 8 = some (.aload_n 0, 1, 0, 0, 0, 0) := rfl
theorem fX4_digest_9 : fetch tX4_digest 9 = some (.getfield 7, 3, 4, 0, 0, 0) := rfl
theorem fX4_digest_12 : fetch tX4_digest 12 = some (.iconst 0, 1, 0, 0, 0, 0) := rfl
theorem fX4_digest_13 : fetch tX4_digest 13 = some (.iaload, 1, 0, 0, 0, 0) := rfl
theorem fX4_digest_14 : fetch tX4_digest 14 = some (.invokevirtual 143, 3, 0, 4, 0, 0) := rfl
theorem fX4_digest_17 : fetch tX4_digest 17 = some (.iconst 0, 1, 0, 0, 0, 0) := rfl
theorem fX4_digest_18 : fetch tX4_digest 18 = some (.istore_n 1, 1, 1, 0, 0, 0) := rfl
theorem fX4_digest_19 : fetch tX4_digest 19 = some (.iload_n 1, 1, 1, 0, 0, 0) := rfl
theorem fX4_digest_20 : fetch tX4_digest 20 = some (.iconst 4, 1, 0, 0, 4, 0) := rfl
theorem fX4_digest_21 : fetch tX4_digest 21 = some (.aload_n 0, 1, 0, 0, 0, 0) := rfl
theorem fX4_digest_22 : fetch tX4_digest 22 = some (.getfield 7, 3, 4, 0, 0, 0) := rfl
theorem fX4_digest_25 : fetch tX4_digest 25 = some (.iconst 0, 1, 0, 0, 0, 0) := rfl
theorem fX4_digest_26 : fetch tX4_digest 26 = some (.iaload, 1, 0, 0, 0, 0) := rfl
theorem fX4_digest_27 : fetch tX4_digest 27 = some (.imul, 1, 0, 0, 0, 0) := rfl
theorem fX4_digest_28 : fetch tX4_digest 28 = some (.if_icmp .ge 21, 3, 49, 0, 0, 0) := rfl
theorem fX4_digest_31 : fetch tX4_digest 31 = some (.aload_n 0, 1, 0, 0, 0, 0) := rfl
theorem fX4_digest_32 : fetch tX4_digest 32 = some (.aload_n 0, 1, 0, 0, 0, 0) := rfl
theorem fX4_digest_33 : fetch tX4_digest 33 = some (.getfield 7, 3, 4, 0, 0, 0) := rfl
theorem fX4_digest_36 : fetch tX4_digest 36 = some (.iconst 3, 1, 0, 0, 3, 0) := rfl
theorem fX4_digest_37 : fetch tX4_digest 37 = some (.iload_n 1, 1, 1, 0, 0, 0) := rfl
theorem fX4_digest_38 : fetch tX4_digest 38 = some (.iadd, 1, 0, 0, 0, 0) := rfl
theorem fX4_digest_39 : fetch tX4_digest 39 = some (.iaload, 1, 0, 0, 0, 0) := rfl
theorem fX4_digest_40 : fetch tX4_digest 40 = some (.invokevirtual 143, 3, 0, 4, 0, 0) := rfl
theorem fX4_digest_43 : fetch tX4_digest 43 = some (.iinc 1 1, 3, 1, 0, 1, 0) := rfl
theorem fX4_digest_46 : fetch tX4_digest 46 = some (.goto (-27), 3, 19, 0, 0, 0) := rfl
theorem fX4_digest_49 : fetch tX4_digest 49 = some (.aload_n 0, 1, 0, 0, 0, 0) := rfl
theorem fX4_digest_50 : fetch tX4_digest 50 = some (.aload_n 0, 1, 0, 0, 0, 0) := rfl
theorem fX4_digest_51 : fetch tX4_digest 51 = some (.getfield 7, 3, 4, 0, 0, 0) := rfl
theorem fX4_digest_54 : fetch tX4_digest 54 = some (.iconst 1, 1, 0, 0, 1, 0) := rfl
theorem fX4_digest_55 : fetch tX4_digest 55 = some (.iaload, 1, 0, 0, 0, 0) := rfl
theorem fX4_digest_56 : fetch tX4_digest 56 = some (.invokevirtual 143, 3, 0, 4, 0, 0) := rfl
theorem fX4_digest_59 : fetch tX4_digest 59 = some (.iconst 0, 1, 0, 0, 0, 0) := rfl
theorem fX4_digest_60 : fetch tX4_digest 60 = some (.istore_n 1, 1, 1, 0, 0, 0) := rfl
theorem fX4_digest_61 : fetch tX4_digest 61 = some (.iload_n 1, 1, 1, 0, 0, 0) := rfl
theorem fX4_digest_62 : fetch tX4_digest 62 = some (.bipush 8, 2, 0, 0, 8, 0) := rfl
theorem fX4_digest_64 : fetch tX4_digest 64 = some (.if_icmp .ge 22, 3, 86, 0, 0, 0) := rfl
theorem fX4_digest_67 : fetch tX4_digest 67 = some (.aload_n 0, 1, 0, 0, 0, 0) := rfl
theorem fX4_digest_68 : fetch tX4_digest 68 = some (.aload_n 0, 1, 0, 0, 0, 0) := rfl
theorem fX4_digest_69 : fetch tX4_digest 69 = some (.getfield 7, 3, 4, 0, 0, 0) := rfl
theorem fX4_digest_72 : fetch tX4_digest 72 = some (.bipush 51, 2, 0, 0, 51, 0) := rfl
theorem fX4_digest_74 : fetch tX4_digest 74 = some (.iload_n 1, 1, 1, 0, 0, 0) := rfl
theorem fX4_digest_75 : fetch tX4_digest 75 = some (.iadd, 1, 0, 0, 0, 0) := rfl
theorem fX4_digest_76 : fetch tX4_digest 76 = some (.iaload, 1, 0, 0, 0, 0) := rfl
theorem fX4_digest_77 : fetch tX4_digest 77 = some (.invokevirtual 143, 3, 0, 4, 0, 0) := rfl
theorem fX4_digest_80 : fetch tX4_digest 80 = some (.iinc 1 1, 3, 1, 0, 1, 0) := rfl
theorem fX4_digest_83 : fetch tX4_digest 83 = some (.goto (-22), 3, 61, 0, 0, 0) := rfl
theorem fX4_digest_86 : fetch tX4_digest 86 = some (.aload_n 0, 1, 0, 0, 0, 0) := rfl
theorem fX4_digest_87 : fetch tX4_digest 87 = some (.aload_n 0, 1, 0, 0, 0, 0) := rfl
theorem fX4_digest_88 : fetch tX4_digest 88 = some (.getfield 7, 3, 4, 0, 0, 0) := rfl
theorem fX4_digest_91 : fetch tX4_digest 91 = some (.iconst 2, 1, 0, 0, 2, 0) := rfl
theorem fX4_digest_92 : fetch tX4_digest 92 = some (.iaload, 1, 0, 0, 0, 0) := rfl
theorem fX4_digest_93 : fetch tX4_digest 93 = some (.invokevirtual 143, 3, 0, 4, 0, 0) := rfl
theorem fX4_digest_96 : fetch tX4_digest 96 = some (.aload_n 0, 1, 0, 0, 0, 0) := rfl
theorem fX4_digest_97 : fetch tX4_digest 97 = some (.getfield 137, 3, 4, 11, 0, 0) := rfl
theorem fX4_digest_100 : fetch tX4_digest 100 = some (.lreturn, 1, 0, 0, 0, 0) := rfl
def tJ13_bitCount_95d88 : List (Nat × TE) := [(0, .lload_n 0, 1, 0, 0, 0, 0), (1, .lload_n 0, 1, 0, 0, 0, 0), (2, .iconst 1, 1, 0, 0, 1, 0), (3, .lushr, 1, 0, 0, 0, 0), (4, .ldc2_w 314, 3, 0, 0, 0, 6148914691236517205), (7, .land, 1, 0, 0, 0, 0), (8, .lsub, 1, 0, 0, 0, 0), (9, .lstore_n 0, 1, 0, 0, 0, 0), (10, .lload_n 0, 1, 0, 0, 0, 0), (11, .ldc2_w 316, 3, 0, 0, 0, 3689348814741910323), (14, .land, 1, 0, 0, 0, 0), (15, .lload_n 0, 1, 0, 0, 0, 0), (16, .iconst 2, 1, 0, 0, 2, 0), (17, .lushr, 1, 0, 0, 0, 0), (18, .ldc2_w 316, 3, 0, 0, 0, 3689348814741910323), (21, .land, 1, 0, 0, 0, 0), (22, .ladd, 1, 0, 0, 0, 0), (23, .lstore_n 0, 1, 0, 0, 0, 0), (24, .lload_n 0, 1, 0, 0, 0, 0), (25, .lload_n 0, 1, 0, 0, 0, 0), (26, .iconst 4, 1, 0, 0, 4, 0), (27, .lushr, 1, 0, 0, 0, 0), (28, .ladd, 1, 0, 0, 0, 0), (29, .ldc2_w 318, 3, 0, 0, 0, 1085102592571150095), (32, .land, 1, 0, 0, 0, 0), (33, .lstore_n 0, 1, 0, 0, 0, 0), (34, .lload_n 0, 1, 0, 0, 0, 0), (35, .lload_n 0, 1, 0, 0, 0, 0), (36, .bipush 8, 2, 0, 0, 8, 0), (38, .lushr, 1, 0, 0, 0, 0), (39, .ladd, 1, 0, 0, 0, 0), (40, .lstore_n 0, 1, 0, 0, 0, 0), (41, .lload_n 0, 1, 0, 0, 0, 0), (42, .lload_n 0, 1, 0, 0, 0, 0), (43, .bipush 16, 2, 0, 0, 16, 0), (45, .lushr, 1, 0, 0, 0, 0), (46, .ladd, 1, 0, 0, 0, 0), (47, .lstore_n 0, 1, 0, 0, 0, 0), (48, .lload_n 0, 1, 0, 0, 0, 0), (49, .lload_n 0, 1, 0, 0, 0, 0), (50, .bipush 32, 2, 0, 0, 32, 0), (52, .lushr, 1, 0, 0, 0, 0), (53, .ladd, 1, 0, 0, 0, 0), (54, .lstore_n 0, 1, 0, 0, 0, 0), (55, .lload_n 0, 1, 0, 0, 0, 0), (56, .l2i, 1, 0, 0, 0, 0), (57, .bipush 127, 2, 0, 0, 127, 0), (59, .iand, 1, 0, 0, 0, 0), (60, .ireturn, 1, 0, 0, 0, 0)]
theorem tkJ13_bitCount_95d88 : tOk cJ13_bitCount_95d88 "java/lang/Long" 2 tJ13_bitCount_95d88 = true := by decide +kernel
theorem fJ13_bitCount_95d88_0 : fetch tJ13_bitCount_95d88 0 = some (.lload_n 0, 1, 0, 0, 0, 0) := rfl
theorem fJ13_bitCount_95d88_1 : fetch tJ13_bitCount_95d88 1 = some (.lload_n 0, 1, 0, 0, 0, 0) := rfl
theorem fJ13_bitCount_95d88_2 : fetch tJ13_bitCount_95d88 2 = some (.iconst 1, 1, 0, 0, 1, 0) := rfl
theorem fJ13_bitCount_95d88_3 : fetch tJ13_bitCount_95d88 3 = some (.lushr, 1, 0, 0, 0, 0) := rfl
theorem fJ13_bitCount_95d88_4 : fetch tJ13_bitCount_95d88 4 = some (.ldc2_w 314, 3, 0, 0, 0, 6148914691236517205) := rfl
theorem fJ13_bitCount_95d88_7 : fetch tJ13_bitCount_95d88 7 = some (.land, 1, 0, 0, 0, 0) := rfl
theorem fJ13_bitCount_95d88_8 : fetch tJ13_bitCount_95d88 8 = some (.lsub, 1, 0, 0, 0, 0) := rfl
theorem fJ13_bitCount_95d88_9 : fetch tJ13_bitCount_95d88 9 = some (.lstore_n 0, 1, 0, 0, 0, 0) := rfl
theorem fJ13_bitCount_95d88_10 : fetch tJ13_bitCount_95d88 10 = some (.lload_n 0, 1, 0, 0, 0, 0) := rfl
theorem fJ13_bitCount_95d88_11 : fetch tJ13_bitCount_95d88 11 = some (.ldc2_w 316, 3, 0, 0, 0, 3689348814741910323) := rfl
theorem fJ13_bitCount_95d88_14 : fetch tJ13_bitCount_95d88 14 = some (.land, 1, 0, 0, 0, 0) := rfl
theorem fJ13_bitCount_95d88_15 : fetch tJ13_bitCount_95d88 15 = some (.lload_n 0, 1, 0, 0, 0, 0) := rfl
theorem fJ13_bitCount_95d88_16 : fetch tJ13_bitCount_95d88 16 = some (.iconst 2, 1, 0, 0, 2, 0) := rfl
theorem fJ13_bitCount_95d88_17 : fetch tJ13_bitCount_95d88 17 = some (.lushr, 1, 0, 0, 0, 0) := rfl
theorem fJ13_bitCount_95d88_18 : fetch tJ13_bitCount_95d88 18 = some (.ldc2_w 316, 3, 0, 0, 0, 3689348814741910323) := rfl
theorem fJ13_bitCount_95d88_21 : fetch tJ13_bitCount_95d88 21 = some (.land, 1, 0, 0, 0, 0) := rfl
theorem fJ13_bitCount_95d88_22 : fetch tJ13_bitCount_95d88 22 = some (.ladd, 1, 0, 0, 0, 0) := rfl
theorem fJ13_bitCount_95d88_23 : fetch tJ13_bitCount_95d88 23 = some (.lstore_n 0, 1, 0, 0, 0, 0) := rfl
theorem fJ13_bitCount_95d88_24 : fetch tJ13_bitCount_95d88 24 = some (.lload_n 0, 1, 0, 0, 0, 0) := rfl
theorem fJ13_bitCount_95d88_25 : fetch tJ13_bitCount_95d88 25 = some (.lload_n 0, 1, 0, 0, 0, 0) := rfl
theorem fJ13_bitCount_95d88_26 : fetch tJ13_bitCount_95d88 26 = some (.iconst 4, 1, 0, 0, 4, 0) := rfl
theorem fJ13_bitCount_95d88_27 : fetch tJ13_bitCount_95d88 27 = some (.lushr, 1, 0, 0, 0, 0) := rfl
theorem fJ13_bitCount_95d88_28 : fetch tJ13_bitCount_95d88 28 = some (.ladd, 1, 0, 0, 0, 0) := rfl
theorem fJ13_bitCount_95d88_29 : fetch tJ13_bitCount_95d88 29 = some (.ldc2_w 318, 3, 0, 0, 0, 1085102592571150095) := rfl
theorem fJ13_bitCount_95d88_32 : fetch tJ13_bitCount_95d88 32 = some (.land, 1, 0, 0, 0, 0) := rfl
theorem fJ13_bitCount_95d88_33 : fetch tJ13_bitCount_95d88 33 = some (.lstore_n 0, 1, 0, 0, 0, 0) := rfl
theorem fJ13_bitCount_95d88_34 : fetch tJ13_bitCount_95d88 34 = some (.lload_n 0, 1, 0, 0, 0, 0) := rfl
theorem fJ13_bitCount_95d88_35 : fetch tJ13_bitCount_95d88 35 = some (.lload_n 0, 1, 0, 0, 0, 0) := rfl
theorem fJ13_bitCount_95d88_36 : fetch tJ13_bitCount_95d88 36 = some (.bipush 8, 2, 0, 0, 8, 0) := rfl
theorem fJ13_bitCount_95d88_38 : fetch tJ13_bitCount_95d88 38 = some (.lushr, 1, 0, 0, 0, 0) := rfl
theorem fJ13_bitCount_95d88_39 : fetch tJ13_bitCount_95d88 39 = some (.ladd, 1, 0, 0, 0, 0) := rfl
theorem fJ13_bitCount_95d88_40 : fetch tJ13_bitCount_95d88 40 = some (.lstore_n 0, 1, 0, 0, 0, 0) := rfl
theorem fJ13_bitCount_95d88_41 : fetch tJ13_bitCount_95d88 41 = some (.lload_n 0, 1, 0, 0, 0, 0) := rfl
theorem fJ13_bitCount_95d88_42 : fetch tJ13_bitCount_95d88 42 = some (.lload_n 0, 1, 0, 0, 0, 0) := rfl
theorem fJ13_bitCount_95d88_43 : fetch tJ13_bitCount_95d88 43 = some (.bipush 16, 2, 0, 0, 16, 0) := rfl
theorem fJ13_bitCount_95d88_45 : fetch tJ13_bitCount_95d88 45 = some (.lushr, 1, 0, 0, 0, 0) := rfl
theorem fJ13_bitCount_95d88_46 : fetch tJ13_bitCount_95d88 46 = some (.ladd, 1, 0, 0, 0, 0) := rfl
theorem fJ13_bitCount_95d88_47 : fetch tJ13_bitCount_95d88 47 = some (.lstore_n 0, 1, 0, 0, 0, 0) := rfl
theorem fJ13_bitCount_95d88_48 : fetch tJ13_bitCount_95d88 48 = some (.lload_n 0, 1, 0, 0, 0, 0) := rfl
theorem fJ13_bitCount_95d88_49 : fetch tJ13_bitCount_95d88 49 = some (.lload_n 0, 1, 0, 0, 0, 0) := rfl
theorem fJ13_bitCount_95d88_50 : fetch tJ13_bitCount_95d88 50 = some (.bipush 32, 2, 0, 0, 32, 0) := rfl
theorem fJ13_bitCount_95d88_52 : fetch tJ13_bitCount_95d88 52 = some (.lushr, 1, 0, 0, 0, 0) := rfl
theorem fJ13_bitCount_95d88_53 : fetch tJ13_bitCount_95d88 53 = some (.ladd, 1, 0, 0, 0, 0) := rfl
theorem fJ13_bitCount_95d88_54 : fetch tJ13_bitCount_95d88 54 = some (.lstore_n 0, 1, 0, 0, 0, 0) := rfl
theorem fJ13_bitCount_95d88_55 : fetch tJ13_bitCount_95d88 55 = some (.lload_n 0, 1, 0, 0, 0, 0) := rfl
theorem fJ13_bitCount_95d88_56 : fetch tJ13_bitCount_95d88 56 = some (.l2i, 1, 0, 0, 0, 0) := rfl
theorem fJ13_bitCount_95d88_57 : fetch tJ13_bitCount_95d88 57 = some (.bipush 127, 2, 0, 0, 127, 0) := rfl
theorem fJ13_bitCount_95d88_59 : fetch tJ13_bitCount_95d88 59 = some (.iand, 1, 0, 0, 0, 0) := rfl
theorem fJ13_bitCount_95d88_60 : fetch tJ13_bitCount_95d88 60 = some (.ireturn, 1, 0, 0, 0, 0) := rfl
def tL_law : List (Nat × TE) := [(0, .new 7, 3, 0, 0, 0, 0), (3, .dup, 1, 0, 0, 0, 0), (4, .invokespecial 9, 3, 0, 0, 0, 0), (7, .astore_n 1, 1, 1, 0, 0, 0), (8, .new 10, 3, 0, 0, 0, 0), (11, .dup, 1, 0, 0, 0, 0), (12, .invokespecial 12, 3, 0, 0, 0, 0), (15, .astore_n 2, 1, 2, 0, 0, 0), (16, .iconst 0, 1, 0, 0, 0, 0), (17, .istore_n 3, 1, 3, 0, 0, 0), (18, .iload_n 3, 1, 3, 0, 0, 0), (19, .aload_n 0, 1, 0, 0, 0, 0), (20, .arraylength, 1, 0, 0, 0, 0), (21, .iconst 5, 1, 0, 0, 5, 0), (22, .isub, 1, 0, 0, 0, 0), (23, .if_icmp .gt 933, 3, 956, 0, 0, 0), (26, .aload_n 0, 1, 0, 0, 0, 0), (27, .iload_n 3, 1, 3, 0, 0, 0), (28, .iaload, 1, 0, 0, 0, 0), (29, .bipush 31, 2, 0, 0, 31, 0), (31, .iand, 1, 0, 0, 0, 0), (32, .tableswitch 918 0 30 #[140, 193, 236, 259, 272, 305, 338, 361, 394, 417, 440, 463, 496, 539, 563, 596, 640, 664, 688, 701, 724, 747, 770, 783, 806, 829, 842, 865, 878, 891, 904], 140, 0, 0, 0, 0), (172, .aload_n 1, 1, 1, 0, 0, 0), (173, .aload_n 0, 1, 0, 0, 0, 0), (174, .iload_n 3, 1, 3, 0, 0, 0), (175, .iconst 1, 1, 0, 0, 1, 0), (176, .iadd, 1, 0, 0, 0, 0), (177, .iaload, 1, 0, 0, 0, 0), (178, .aload_n 0, 1, 0, 0, 0, 0), (179, .iload_n 3, 1, 3, 0, 0, 0), (180, .iconst 2, 1, 0, 0, 2, 0), (181, .iadd, 1, 0, 0, 0, 0), (182, .iaload, 1, 0, 0, 0, 0), (183, .aload_n 0, 1, 0, 0, 0, 0), (184, .iload_n 3, 1, 3, 0, 0, 0), (185, .iconst 3, 1, 0, 0, 3, 0), (186, .iadd, 1, 0, 0, 0, 0), (187, .iaload, 1, 0, 0, 0, 0), (188, .aload_n 0, 1, 0, 0, 0, 0), (189, .iload_n 3, 1, 3, 0, 0, 0), (190, .iconst 4, 1, 0, 0, 4, 0), (191, .iadd, 1, 0, 0, 0, 0), (192, .iaload, 1, 0, 0, 0, 0), (193, .invokevirtual 13, 3, 0, 3, 0, 0), (196, .aload_n 2, 1, 2, 0, 0, 0), (197, .aload_n 0, 1, 0, 0, 0, 0), (198, .iload_n 3, 1, 3, 0, 0, 0), (199, .iconst 1, 1, 0, 0, 1, 0), (200, .iadd, 1, 0, 0, 0, 0), (201, .iaload, 1, 0, 0, 0, 0), (202, .aload_n 0, 1, 0, 0, 0, 0), (203, .iload_n 3, 1, 3, 0, 0, 0), (204, .iconst 2, 1, 0, 0, 2, 0), (205, .iadd, 1, 0, 0, 0, 0), (206, .iaload, 1, 0, 0, 0, 0), (207, .aload_n 0, 1, 0, 0, 0, 0), (208, .iload_n 3, 1, 3, 0, 0, 0), (209, .iconst 3, 1, 0, 0, 3, 0), (210, .iadd, 1, 0, 0, 0, 0), (211, .iaload, 1, 0, 0, 0, 0), (212, .aload_n 0, 1, 0, 0, 0, 0), (213, .iload_n 3, 1, 3, 0, 0, 0), (214, .iconst 4, 1, 0, 0, 4, 0), (215, .iadd, 1, 0, 0, 0, 0), (216, .iaload, 1, 0, 0, 0, 0), (217, .invokevirtual 17, 3, 1, 4, 0, 0), (220, .if_icmp .eq 730, 3, 950, 0, 0, 0), (223, .iconst 0, 1, 0, 0, 0, 0), (224, .ireturn, 1, 0, 0, 0, 0), (225, .aload_n 1, 1, 1, 0, 0, 0), (226, .aload_n 0, 1, 0, 0, 0, 0), (227, .iload_n 3, 1, 3, 0, 0, 0), (228, .iconst 1, 1, 0, 0, 1, 0), (229, .iadd, 1, 0, 0, 0, 0), (230, .iaload, 1, 0, 0, 0, 0), (231, .aload_n 0, 1, 0, 0, 0, 0), (232, .iload_n 3, 1, 3, 0, 0, 0), (233, .iconst 2, 1, 0, 0, 2, 0), (234, .iadd, 1, 0, 0, 0, 0), (235, .iaload, 1, 0, 0, 0, 0), (236, .aload_n 0, 1, 0, 0, 0, 0), (237, .iload_n 3, 1, 3, 0, 0, 0), (238, .iconst 3, 1, 0, 0, 3, 0), (239, .iadd, 1, 0, 0, 0, 0), (240, .iaload, 1, 0, 0, 0, 0), (241, .invokevirtual 18, 3, 2, 3, 0, 0), (244, .aload_n 2, 1, 2, 0, 0, 0), (245, .aload_n 0, 1, 0, 0, 0, 0), (246, .iload_n 3, 1, 3, 0, 0, 0), (247, .iconst 1, 1, 0, 0, 1, 0), (248, .iadd, 1, 0, 0, 0, 0), (249, .iaload, 1, 0, 0, 0, 0), (250, .aload_n 0, 1, 0, 0, 0, 0), (251, .iload_n 3, 1, 3, 0, 0, 0), (252, .iconst 2, 1, 0, 0, 2, 0), (253, .iadd, 1, 0, 0, 0, 0), (254, .iaload, 1, 0, 0, 0, 0), (255, .aload_n 0, 1, 0, 0, 0, 0), (256, .iload_n 3, 1, 3, 0, 0, 0), (257, .iconst 3, 1, 0, 0, 3, 0), (258, .iadd, 1, 0, 0, 0, 0), (259, .iaload, 1, 0, 0, 0, 0), (260, .invokevirtual 22, 3, 3, 4, 0, 0), (263, .if_icmp .eq 687, 3, 950, 0, 0, 0), (266, .iconst 0, 1, 0, 0, 0, 0), (267, .ireturn, 1, 0, 0, 0, 0), (268, .aload_n 1, 1, 1, 0, 0, 0), (269, .aload_n 0, 1, 0, 0, 0, 0), (270, .iload_n 3, 1, 3, 0, 0, 0), (271, .iconst 1, 1, 0, 0, 1, 0), (272, .iadd, 1, 0, 0, 0, 0), (273, .iaload, 1, 0, 0, 0, 0), (274, .invokevirtual 23, 3, 4, 3, 0, 0), (277, .aload_n 2, 1, 2, 0, 0, 0), (278, .aload_n 0, 1, 0, 0, 0, 0), (279, .iload_n 3, 1, 3, 0, 0, 0), (280, .iconst 1, 1, 0, 0, 1, 0), (281, .iadd, 1, 0, 0, 0, 0), (282, .iaload, 1, 0, 0, 0, 0), (283, .invokevirtual 27, 3, 5, 4, 0, 0), (286, .if_icmp .eq 664, 3, 950, 0, 0, 0), (289, .iconst 0, 1, 0, 0, 0, 0), (290, .ireturn, 1, 0, 0, 0, 0), (291, .aload_n 1, 1, 1, 0, 0, 0), (292, .invokevirtual 28, 3, 6, 3, 0, 0), (295, .aload_n 2, 1, 2, 0, 0, 0), (296, .invokevirtual 32, 3, 7, 4, 0, 0), (299, .if_icmp .eq 651, 3, 950, 0, 0, 0), (302, .iconst 0, 1, 0, 0, 0, 0), (303, .ireturn, 1, 0, 0, 0, 0), (304, .aload_n 1, 1, 1, 0, 0, 0), (305, .aload_n 0, 1, 0, 0, 0, 0), (306, .iload_n 3, 1, 3, 0, 0, 0), (307, .iconst 1, 1, 0, 0, 1, 0), (308, .iadd, 1, 0, 0, 0, 0), (309, .iaload, 1, 0, 0, 0, 0), (310, .aload_n 0, 1, 0, 0, 0, 0), (311, .iload_n 3, 1, 3, 0, 0, 0), (312, .iconst 2, 1, 0, 0, 2, 0), (313, .iadd, 1, 0, 0, 0, 0), (314, .iaload, 1, 0, 0, 0, 0), (315, .invokevirtual 33, 3, 8, 3, 0, 0), (318, .aload_n 2, 1, 2, 0, 0, 0), (319, .aload_n 0, 1, 0, 0, 0, 0), (320, .iload_n 3, 1, 3, 0, 0, 0), (321, .iconst 1, 1, 0, 0, 1, 0), (322, .iadd, 1, 0, 0, 0, 0), (323, .iaload, 1, 0, 0, 0, 0), (324, .aload_n 0, 1, 0, 0, 0, 0), (325, .iload_n 3, 1, 3, 0, 0, 0), (326, .iconst 2, 1, 0, 0, 2, 0), (327, .iadd, 1, 0, 0, 0, 0), (328, .iaload, 1, 0, 0, 0, 0), (329, .invokevirtual 37, 3, 9, 4, 0, 0), (332, .if_icmp .eq 618, 3, 950, 0, 0, 0), (335, .iconst 0, 1, 0, 0, 0, 0), (336, .ireturn, 1, 0, 0, 0, 0), (337, .aload_n 1, 1, 1, 0, 0, 0), (338, .aload_n 0, 1, 0, 0, 0, 0), (339, .iload_n 3, 1, 3, 0, 0, 0), (340, .iconst 1, 1, 0, 0, 1, 0), (341, .iadd, 1, 0, 0, 0, 0), (342, .iaload, 1, 0, 0, 0, 0), (343, .aload_n 0, 1, 0, 0, 0, 0), (344, .iload_n 3, 1, 3, 0, 0, 0), (345, .iconst 2, 1, 0, 0, 2, 0), (346, .iadd, 1, 0, 0, 0, 0), (347, .iaload, 1, 0, 0, 0, 0), (348, .invokevirtual 38, 3, 10, 3, 0, 0), (351, .aload_n 2, 1, 2, 0, 0, 0), (352, .aload_n 0, 1, 0, 0, 0, 0), (353, .iload_n 3, 1, 3, 0, 0, 0), (354, .iconst 1, 1, 0, 0, 1, 0), (355, .iadd, 1, 0, 0, 0, 0), (356, .iaload, 1, 0, 0, 0, 0), (357, .aload_n 0, 1, 0, 0, 0, 0), (358, .iload_n 3, 1, 3, 0, 0, 0), (359, .iconst 2, 1, 0, 0, 2, 0), (360, .iadd, 1, 0, 0, 0, 0), (361, .iaload, 1, 0, 0, 0, 0), (362, .invokevirtual 41, 3, 11, 4, 0, 0), (365, .if_icmp .eq 585, 3, 950, 0, 0, 0), (368, .iconst 0, 1, 0, 0, 0, 0), (369, .ireturn, 1, 0, 0, 0, 0), (370, .aload_n 1, 1, 1, 0, 0, 0), (371, .aload_n 0, 1, 0, 0, 0, 0), (372, .iload_n 3, 1, 3, 0, 0, 0), (373, .iconst 1, 1, 0, 0, 1, 0), (374, .iadd, 1, 0, 0, 0, 0), (375, .iaload, 1, 0, 0, 0, 0), (376, .invokevirtual 42, 3, 12, 3, 0, 0), (379, .aload_n 2, 1, 2, 0, 0, 0), (380, .aload_n 0, 1, 0, 0, 0, 0), (381, .iload_n 3, 1, 3, 0, 0, 0), (382, .iconst 1, 1, 0, 0, 1, 0), (383, .iadd, 1, 0, 0, 0, 0), (384, .iaload, 1, 0, 0, 0, 0), (385, .invokevirtual 45, 3, 13, 4, 0, 0), (388, .if_icmp .eq 562, 3, 950, 0, 0, 0), (391, .iconst 0, 1, 0, 0, 0, 0), (392, .ireturn, 1, 0, 0, 0, 0), (393, .aload_n 1, 1, 1, 0, 0, 0), (394, .aload_n 0, 1, 0, 0, 0, 0), (395, .iload_n 3, 1, 3, 0, 0, 0), (396, .iconst 1, 1, 0, 0, 1, 0), (397, .iadd, 1, 0, 0, 0, 0), (398, .iaload, 1, 0, 0, 0, 0), (399, .aload_n 0, 1, 0, 0, 0, 0), (400, .iload_n 3, 1, 3, 0, 0, 0), (401, .iconst 2, 1, 0, 0, 2, 0), (402, .iadd, 1, 0, 0, 0, 0), (403, .iaload, 1, 0, 0, 0, 0), (404, .invokevirtual 46, 3, 14, 3, 0, 0), (407, .aload_n 2, 1, 2, 0, 0, 0), (408, .aload_n 0, 1, 0, 0, 0, 0), (409, .iload_n 3, 1, 3, 0, 0, 0), (410, .iconst 1, 1, 0, 0, 1, 0), (411, .iadd, 1, 0, 0, 0, 0), (412, .iaload, 1, 0, 0, 0, 0), (413, .aload_n 0, 1, 0, 0, 0, 0), (414, .iload_n 3, 1, 3, 0, 0, 0), (415, .iconst 2, 1, 0, 0, 2, 0), (416, .iadd, 1, 0, 0, 0, 0), (417, .iaload, 1, 0, 0, 0, 0), (418, .invokevirtual 49, 3, 15, 4, 0, 0), (421, .if_icmp .eq 529, 3, 950, 0, 0, 0), (424, .iconst 0, 1, 0, 0, 0, 0), (425, .ireturn, 1, 0, 0, 0, 0), (426, .aload_n 1, 1, 1, 0, 0, 0), (427, .aload_n 0, 1, 0, 0, 0, 0), (428, .iload_n 3, 1, 3, 0, 0, 0), (429, .iconst 1, 1, 0, 0, 1, 0), (430, .iadd, 1, 0, 0, 0, 0), (431, .iaload, 1, 0, 0, 0, 0), (432, .invokevirtual 50, 3, 16, 3, 0, 0), (435, .aload_n 2, 1, 2, 0, 0, 0), (436, .aload_n 0, 1, 0, 0, 0, 0), (437, .iload_n 3, 1, 3, 0, 0, 0), (438, .iconst 1, 1, 0, 0, 1, 0), (439, .iadd, 1, 0, 0, 0, 0), (440, .iaload, 1, 0, 0, 0, 0), (441, .invokevirtual 53, 3, 17, 4, 0, 0), (444, .if_icmp .eq 506, 3, 950, 0, 0, 0), (447, .iconst 0, 1, 0, 0, 0, 0), (448, .ireturn, 1, 0, 0, 0, 0), (449, .aload_n 1, 1, 1, 0, 0, 0), (450, .aload_n 0, 1, 0, 0, 0, 0), (451, .iload_n 3, 1, 3, 0, 0, 0), (452, .iconst 1, 1, 0, 0, 1, 0), (453, .iadd, 1, 0, 0, 0, 0), (454, .iaload, 1, 0, 0, 0, 0), (455, .invokevirtual 54, 3, 18, 3, 0, 0), (458, .aload_n 2, 1, 2, 0, 0, 0), (459, .aload_n 0, 1, 0, 0, 0, 0), (460, .iload_n 3, 1, 3, 0, 0, 0), (461, .iconst 1, 1, 0, 0, 1, 0), (462, .iadd, 1, 0, 0, 0, 0), (463, .iaload, 1, 0, 0, 0, 0), (464, .invokevirtual 57, 3, 19, 4, 0, 0), (467, .if_icmp .eq 483, 3, 950, 0, 0, 0), (470, .iconst 0, 1, 0, 0, 0, 0), (471, .ireturn, 1, 0, 0, 0, 0), (472, .aload_n 1, 1, 1, 0, 0, 0), (473, .aload_n 0, 1, 0, 0, 0, 0), (474, .iload_n 3, 1, 3, 0, 0, 0), (475, .iconst 1, 1, 0, 0, 1, 0), (476, .iadd, 1, 0, 0, 0, 0), (477, .iaload, 1, 0, 0, 0, 0), (478, .invokevirtual 58, 3, 20, 3, 0, 0), (481, .aload_n 2, 1, 2, 0, 0, 0), (482, .aload_n 0, 1, 0, 0, 0, 0), (483, .iload_n 3, 1, 3, 0, 0, 0), (484, .iconst 1, 1, 0, 0, 1, 0), (485, .iadd, 1, 0, 0, 0, 0), (486, .iaload, 1, 0, 0, 0, 0), (487, .invokevirtual 61, 3, 21, 4, 0, 0), (490, .if_icmp .eq 460, 3, 950, 0, 0, 0), (493, .iconst 0, 1, 0, 0, 0, 0), (494, .ireturn, 1, 0, 0, 0, 0), (495, .aload_n 1, 1, 1, 0, 0, 0), (496, .aload_n 0, 1, 0, 0, 0, 0), (497, .iload_n 3, 1, 3, 0, 0, 0), (498, .iconst 1, 1, 0, 0, 1, 0), (499, .iadd, 1, 0, 0, 0, 0), (500, .iaload, 1, 0, 0, 0, 0), (501, .aload_n 0, 1, 0, 0, 0, 0), (502, .iload_n 3, 1, 3, 0, 0, 0), (503, .iconst 2, 1, 0, 0, 2, 0), (504, .iadd, 1, 0, 0, 0, 0), (505, .iaload, 1, 0, 0, 0, 0), (506, .invokevirtual 62, 3, 22, 3, 0, 0), (509, .aload_n 2, 1, 2, 0, 0, 0), (510, .aload_n 0, 1, 0, 0, 0, 0), (511, .iload_n 3, 1, 3, 0, 0, 0), (512, .iconst 1, 1, 0, 0, 1, 0), (513, .iadd, 1, 0, 0, 0, 0), (514, .iaload, 1, 0, 0, 0, 0), (515, .aload_n 0, 1, 0, 0, 0, 0), (516, .iload_n 3, 1, 3, 0, 0, 0), (517, .iconst 2, 1, 0, 0, 2, 0), (518, .iadd, 1, 0, 0, 0, 0), (519, .iaload, 1, 0, 0, 0, 0), (520, .invokevirtual 65, 3, 23, 4, 0, 0), (523, .if_icmp .eq 427, 3, 950, 0, 0, 0), (526, .iconst 0, 1, 0, 0, 0, 0), (527, .ireturn, 1, 0, 0, 0, 0), (528, .aload_n 1, 1, 1, 0, 0, 0), (529, .aload_n 0, 1, 0, 0, 0, 0), (530, .iload_n 3, 1, 3, 0, 0, 0), (531, .iconst 1, 1, 0, 0, 1, 0), (532, .iadd, 1, 0, 0, 0, 0), (533, .iaload, 1, 0, 0, 0, 0), (534, .aload_n 0, 1, 0, 0, 0, 0), (535, .iload_n 3, 1, 3, 0, 0, 0), (536, .iconst 2, 1, 0, 0, 2, 0), (537, .iadd, 1, 0, 0, 0, 0), (538, .iaload, 1, 0, 0, 0, 0), (539, .aload_n 0, 1, 0, 0, 0, 0), (540, .iload_n 3, 1, 3, 0, 0, 0), (541, .iconst 3, 1, 0, 0, 3, 0), (542, .iadd, 1, 0, 0, 0, 0), (543, .iaload, 1, 0, 0, 0, 0), (544, .invokevirtual 66, 3, 24, 3, 0, 0), (547, .aload_n 2, 1, 2, 0, 0, 0), (548, .aload_n 0, 1, 0, 0, 0, 0), (549, .iload_n 3, 1, 3, 0, 0, 0), (550, .iconst 1, 1, 0, 0, 1, 0), (551, .iadd, 1, 0, 0, 0, 0), (552, .iaload, 1, 0, 0, 0, 0), (553, .aload_n 0, 1, 0, 0, 0, 0), (554, .iload_n 3, 1, 3, 0, 0, 0), (555, .iconst 2, 1, 0, 0, 2, 0), (556, .iadd, 1, 0, 0, 0, 0), (557, .iaload, 1, 0, 0, 0, 0), (558, .aload_n 0, 1, 0, 0, 0, 0), (559, .iload_n 3, 1, 3, 0, 0, 0), (560, .iconst 3, 1, 0, 0, 3, 0), (561, .iadd, 1, 0, 0, 0, 0), (562, .iaload, 1, 0, 0, 0, 0), (563, .invokevirtual 69, 3, 25, 4, 0, 0), (566, .if_icmp .eq 384, 3, 950, 0, 0, 0), (569, .iconst 0, 1, 0, 0, 0, 0), (570, .ireturn, 1, 0, 0, 0, 0), (571, .aload_n 1, 1, 1, 0, 0, 0), (572, .aload_n 0, 1, 0, 0, 0, 0), (573, .iload_n 3, 1, 3, 0, 0, 0), (574, .iconst 1, 1, 0, 0, 1, 0), (575, .iadd, 1, 0, 0, 0, 0), (576, .iaload, 1, 0, 0, 0, 0), (577, .invokevirtual 70, 3, 26, 3, 0, 0), (580, .aload_n 2, 1, 2, 0, 0, 0), (581, .aload_n 0, 1, 0, 0, 0, 0), (582, .iload_n 3, 1, 3, 0, 0, 0), (583, .iconst 1, 1, 0, 0, 1, 0), (584, .iadd, 1, 0, 0, 0, 0), (585, .iaload, 1, 0, 0, 0, 0), (586, .invokevirtual 74, 3, 27, 4, 0, 0), (589, .lcmp, 1, 0, 0, 0, 0), (590, .ifCond .eq 360, 3, 950, 0, 0, 0), (593, .iconst 0, 1, 0, 0, 0, 0), (594, .ireturn, 1, 0, 0, 0, 0), (595, .aload_n 1, 1, 1, 0, 0, 0), (596, .aload_n 0, 1, 0, 0, 0, 0), (597, .iload_n 3, 1, 3, 0, 0, 0), (598, .iconst 1, 1, 0, 0, 1, 0), (599, .iadd, 1, 0, 0, 0, 0), (600, .iaload, 1, 0, 0, 0, 0), (601, .aload_n 0, 1, 0, 0, 0, 0), (602, .iload_n 3, 1, 3, 0, 0, 0), (603, .iconst 2, 1, 0, 0, 2, 0), (604, .iadd, 1, 0, 0, 0, 0), (605, .iaload, 1, 0, 0, 0, 0), (606, .invokevirtual 75, 3, 28, 3, 0, 0), (609, .aload_n 2, 1, 2, 0, 0, 0), (610, .aload_n 0, 1, 0, 0, 0, 0), (611, .iload_n 3, 1, 3, 0, 0, 0), (612, .iconst 1, 1, 0, 0, 1, 0), (613, .iadd, 1, 0, 0, 0, 0), (614, .iaload, 1, 0, 0, 0, 0), (615, .aload_n 0, 1, 0, 0, 0, 0), (616, .iload_n 3, 1, 3, 0, 0, 0), (617, .iconst 2, 1, 0, 0, 2, 0), (618, .iadd, 1, 0, 0, 0, 0), (619, .iaload, 1, 0, 0, 0, 0), (620, .invokevirtual 78, 3, 29, 4, 0, 0), (623, .if_icmp .eq 327, 3, 950, 0, 0, 0), (626, .iconst 0, 1, 0, 0, 0, 0), (627, .ireturn, 1, 0, 0, 0, 0), (628, .aload_n 1, 1, 1, 0, 0, 0), (629, .aload_n 0, 1, 0, 0, 0, 0), (630, .iload_n 3, 1, 3, 0, 0, 0), (631, .iconst 1, 1, 0, 0, 1, 0), (632, .iadd, 1, 0, 0, 0, 0), (633, .iaload, 1, 0, 0, 0, 0), (634, .aload_n 0, 1, 0, 0, 0, 0), (635, .iload_n 3, 1, 3, 0, 0, 0), (636, .iconst 2, 1, 0, 0, 2, 0), (637, .iadd, 1, 0, 0, 0, 0), (638, .iaload, 1, 0, 0, 0, 0), (639, .aload_n 0, 1, 0, 0, 0, 0), (640, .iload_n 3, 1, 3, 0, 0, 0), (641, .iconst 3, 1, 0, 0, 3, 0), (642, .iadd, 1, 0, 0, 0, 0), (643, .iaload, 1, 0, 0, 0, 0), (644, .invokevirtual 79, 3, 30, 3, 0, 0), (647, .aload_n 2, 1, 2, 0, 0, 0), (648, .aload_n 0, 1, 0, 0, 0, 0), (649, .iload_n 3, 1, 3, 0, 0, 0), (650, .iconst 1, 1, 0, 0, 1, 0), (651, .iadd, 1, 0, 0, 0, 0), (652, .iaload, 1, 0, 0, 0, 0), (653, .aload_n 0, 1, 0, 0, 0, 0), (654, .iload_n 3, 1, 3, 0, 0, 0), (655, .iconst 2, 1, 0, 0, 2, 0), (656, .iadd, 1, 0, 0, 0, 0), (657, .iaload, 1, 0, 0, 0, 0), (658, .aload_n 0, 1, 0, 0, 0, 0), (659, .iload_n 3, 1, 3, 0, 0, 0), (660, .iconst 3, 1, 0, 0, 3, 0), (661, .iadd, 1, 0, 0, 0, 0), (662, .iaload, 1, 0, 0, 0, 0), (663, .invokevirtual 83, 3, 31, 4, 0, 0), (666, .lcmp, 1, 0, 0, 0, 0), (667, .ifCond .eq 283, 3, 950, 0, 0, 0), (670, .iconst 0, 1, 0, 0, 0, 0), (671, .ireturn, 1, 0, 0, 0, 0), (672, .aload_n 1, 1, 1, 0, 0, 0), (673, .aload_n 0, 1, 0, 0, 0, 0), (674, .iload_n 3, 1, 3, 0, 0, 0), (675, .iconst 1, 1, 0, 0, 1, 0), (676, .iadd, 1, 0, 0, 0, 0), (677, .iaload, 1, 0, 0, 0, 0), (678, .invokevirtual 84, 3, 32, 3, 0, 0), (681, .aload_n 2, 1, 2, 0, 0, 0), (682, .aload_n 0, 1, 0, 0, 0, 0), (683, .iload_n 3, 1, 3, 0, 0, 0), (684, .iconst 1, 1, 0, 0, 1, 0), (685, .iadd, 1, 0, 0, 0, 0), (686, .iaload, 1, 0, 0, 0, 0), (687, .invokevirtual 87, 3, 33, 4, 0, 0), (690, .lcmp, 1, 0, 0, 0, 0), (691, .ifCond .eq 259, 3, 950, 0, 0, 0), (694, .iconst 0, 1, 0, 0, 0, 0), (695, .ireturn, 1, 0, 0, 0, 0), (696, .aload_n 1, 1, 1, 0, 0, 0), (697, .aload_n 0, 1, 0, 0, 0, 0), (698, .iload_n 3, 1, 3, 0, 0, 0), (699, .iconst 1, 1, 0, 0, 1, 0), (700, .iadd, 1, 0, 0, 0, 0), (701, .iaload, 1, 0, 0, 0, 0), (702, .invokevirtual 88, 3, 34, 3, 0, 0), (705, .aload_n 2, 1, 2, 0, 0, 0), (706, .aload_n 0, 1, 0, 0, 0, 0), (707, .iload_n 3, 1, 3, 0, 0, 0), (708, .iconst 1, 1, 0, 0, 1, 0), (709, .iadd, 1, 0, 0, 0, 0), (710, .iaload, 1, 0, 0, 0, 0), (711, .invokevirtual 91, 3, 35, 4, 0, 0), (714, .lcmp, 1, 0, 0, 0, 0), (715, .ifCond .eq 235, 3, 950, 0, 0, 0), (718, .iconst 0, 1, 0, 0, 0, 0), (719, .ireturn, 1, 0, 0, 0, 0), (720, .aload_n 1, 1, 1, 0, 0, 0), (721, .invokevirtual 92, 3, 36, 3, 0, 0), (724, .aload_n 2, 1, 2, 0, 0, 0), (725, .invokevirtual 95, 3, 37, 4, 0, 0), (728, .if_icmp .eq 222, 3, 950, 0, 0, 0), (731, .iconst 0, 1, 0, 0, 0, 0), (732, .ireturn, 1, 0, 0, 0, 0), (733, .aload_n 1, 1, 1, 0, 0, 0), (734, .aload_n 0, 1, 0, 0, 0, 0), (735, .iload_n 3, 1, 3, 0, 0, 0), (736, .iconst 1, 1, 0, 0, 1, 0), (737, .iadd, 1, 0, 0, 0, 0), (738, .iaload, 1, 0, 0, 0, 0), (739, .invokevirtual 96, 3, 38, 3, 0, 0), (742, .aload_n 2, 1, 2, 0, 0, 0), (743, .aload_n 0, 1, 0, 0, 0, 0), (744, .iload_n 3, 1, 3, 0, 0, 0), (745, .iconst 1, 1, 0, 0, 1, 0), (746, .iadd, 1, 0, 0, 0, 0), (747, .iaload, 1, 0, 0, 0, 0), (748, .invokevirtual 99, 3, 39, 4, 0, 0), (751, .if_icmp .eq 199, 3, 950, 0, 0, 0), (754, .iconst 0, 1, 0, 0, 0, 0), (755, .ireturn, 1, 0, 0, 0, 0), (756, .aload_n 1, 1, 1, 0, 0, 0), (757, .aload_n 0, 1, 0, 0, 0, 0), (758, .iload_n 3, 1, 3, 0, 0, 0), (759, .iconst 1, 1, 0, 0, 1, 0), (760, .iadd, 1, 0, 0, 0, 0), (761, .iaload, 1, 0, 0, 0, 0), (762, .invokevirtual 100, 3, 40, 3, 0, 0), (765, .aload_n 2, 1, 2, 0, 0, 0), (766, .aload_n 0, 1, 0, 0, 0, 0), (767, .iload_n 3, 1, 3, 0, 0, 0), (768, .iconst 1, 1, 0, 0, 1, 0), (769, .iadd, 1, 0, 0, 0, 0), (770, .iaload, 1, 0, 0, 0, 0), (771, .invokevirtual 103, 3, 41, 4, 0, 0), (774, .if_icmp .eq 176, 3, 950, 0, 0, 0), (777, .iconst 0, 1, 0, 0, 0, 0), (778, .ireturn, 1, 0, 0, 0, 0), (779, .aload_n 1, 1, 1, 0, 0, 0), (780, .aload_n 0, 1, 0, 0, 0, 0), (781, .iload_n 3, 1, 3, 0, 0, 0), (782, .iconst 1, 1, 0, 0, 1, 0), (783, .iadd, 1, 0, 0, 0, 0), (784, .iaload, 1, 0, 0, 0, 0), (785, .invokevirtual 104, 3, 42, 3, 0, 0), (788, .aload_n 2, 1, 2, 0, 0, 0), (789, .aload_n 0, 1, 0, 0, 0, 0), (790, .iload_n 3, 1, 3, 0, 0, 0), (791, .iconst 1, 1, 0, 0, 1, 0), (792, .iadd, 1, 0, 0, 0, 0), (793, .iaload, 1, 0, 0, 0, 0), (794, .invokevirtual 107, 3, 43, 4, 0, 0), (797, .if_icmp .eq 153, 3, 950, 0, 0, 0), (800, .iconst 0, 1, 0, 0, 0, 0), (801, .ireturn, 1, 0, 0, 0, 0), (802, .aload_n 1, 1, 1, 0, 0, 0), (803, .invokevirtual 108, 3, 44, 3, 0, 0), (806, .aload_n 2, 1, 2, 0, 0, 0), (807, .invokevirtual 111, 3, 45, 4, 0, 0), (810, .if_icmp .eq 140, 3, 950, 0, 0, 0), (813, .iconst 0, 1, 0, 0, 0, 0), (814, .ireturn, 1, 0, 0, 0, 0), (815, .aload_n 1, 1, 1, 0, 0, 0), (816, .aload_n 0, 1, 0, 0, 0, 0), (817, .iload_n 3, 1, 3, 0, 0, 0), (818, .iconst 1, 1, 0, 0, 1, 0), (819, .iadd, 1, 0, 0, 0, 0), (820, .iaload, 1, 0, 0, 0, 0), (821, .invokevirtual 112, 3, 46, 3, 0, 0), (824, .aload_n 2, 1, 2, 0, 0, 0), (825, .aload_n 0, 1, 0, 0, 0, 0), (826, .iload_n 3, 1, 3, 0, 0, 0), (827, .iconst 1, 1, 0, 0, 1, 0), (828, .iadd, 1, 0, 0, 0, 0), (829, .iaload, 1, 0, 0, 0, 0), (830, .invokevirtual 115, 3, 47, 4, 0, 0), (833, .if_icmp .eq 117, 3, 950, 0, 0, 0), (836, .iconst 0, 1, 0, 0, 0, 0), (837, .ireturn, 1, 0, 0, 0, 0), (838, .aload_n 1, 1, 1, 0, 0, 0), (839, .aload_n 0, 1, 0, 0, 0, 0), (840, .iload_n 3, 1, 3, 0, 0, 0), (841, .iconst 1, 1, 0, 0, 1, 0), (842, .iadd, 1, 0, 0, 0, 0), (843, .iaload, 1, 0, 0, 0, 0), (844, .invokevirtual 116, 3, 48, 3, 0, 0), (847, .aload_n 2, 1, 2, 0, 0, 0), (848, .aload_n 0, 1, 0, 0, 0, 0), (849, .iload_n 3, 1, 3, 0, 0, 0), (850, .iconst 1, 1, 0, 0, 1, 0), (851, .iadd, 1, 0, 0, 0, 0), (852, .iaload, 1, 0, 0, 0, 0), (853, .invokevirtual 119, 3, 49, 4, 0, 0), (856, .if_icmp .eq 94, 3, 950, 0, 0, 0), (859, .iconst 0, 1, 0, 0, 0, 0), (860, .ireturn, 1, 0, 0, 0, 0), (861, .aload_n 1, 1, 1, 0, 0, 0), (862, .invokevirtual 120, 3, 50, 3, 0, 0), (865, .aload_n 2, 1, 2, 0, 0, 0), (866, .invokevirtual 123, 3, 51, 4, 0, 0), (869, .if_icmp .eq 81, 3, 950, 0, 0, 0), (872, .iconst 0, 1, 0, 0, 0, 0), (873, .ireturn, 1, 0, 0, 0, 0), (874, .aload_n 1, 1, 1, 0, 0, 0), (875, .aload_n 0, 1, 0, 0, 0, 0), (876, .iload_n 3, 1, 3, 0, 0, 0), (877, .iconst 1, 1, 0, 0, 1, 0), (878, .iadd, 1, 0, 0, 0, 0), (879, .iaload, 1, 0, 0, 0, 0), (880, .invokevirtual 124, 3, 52, 3, 0, 0), (883, .aload_n 2, 1, 2, 0, 0, 0), (884, .aload_n 0, 1, 0, 0, 0, 0), (885, .iload_n 3, 1, 3, 0, 0, 0), (886, .iconst 1, 1, 0, 0, 1, 0), (887, .iadd, 1, 0, 0, 0, 0), (888, .iaload, 1, 0, 0, 0, 0), (889, .invokevirtual 127, 3, 53, 4, 0, 0), (892, .if_icmp .eq 58, 3, 950, 0, 0, 0), (895, .iconst 0, 1, 0, 0, 0, 0), (896, .ireturn, 1, 0, 0, 0, 0), (897, .aload_n 1, 1, 1, 0, 0, 0), (898, .invokevirtual 128, 3, 54, 3, 0, 0), (901, .aload_n 2, 1, 2, 0, 0, 0), (902, .invokevirtual 131, 3, 55, 4, 0, 0), (905, .if_icmp .eq 45, 3, 950, 0, 0, 0), (908, .iconst 0, 1, 0, 0, 0, 0), (909, .ireturn, 1, 0, 0, 0, 0), (910, .aload_n 1, 1, 1, 0, 0, 0), (911, .invokevirtual 132, 3, 56, 3, 0, 0), (914, .aload_n 2, 1, 2, 0, 0, 0), (915, .invokevirtual 135, 3, 57, 4, 0, 0), (918, .if_icmp .eq 32, 3, 950, 0, 0, 0), (921, .iconst 0, 1, 0, 0, 0, 0), (922, .ireturn, 1, 0, 0, 0, 0), (923, .aload_n 1, 1, 1, 0, 0, 0), (924, .invokevirtual 136, 3, 58, 3, 0, 0), (927, .aload_n 2, 1, 2, 0, 0, 0), (928, .invokevirtual 139, 3, 59, 4, 0, 0), (931, .if_icmp .eq 19, 3, 950, 0, 0, 0), (934, .iconst 0, 1, 0, 0, 0, 0), (935, .ireturn, 1, 0, 0, 0, 0), (936, .aload_n 1, 1, 1, 0, 0, 0), (937, .invokevirtual 140, 3, 60, 3, 0, 0), (940, .aload_n 2, 1, 2, 0, 0, 0), (941, .invokevirtual 144, 3, 61, 4, 0, 0), (944, .lcmp, 1, 0, 0, 0, 0), (945, .ifCond .eq 5, 3, 950, 0, 0, 0), (948, .iconst 0, 1, 0, 0, 0, 0), (949, .ireturn, 1, 0, 0, 0, 0), (950, .iinc 3 5, 3, 3, 0, 5, 0), (953, .goto (-935), 3, 18, 0, 0, 0), (956, .iconst 1, 1, 0, 0, 1, 0), (957, .ireturn, 1, 0, 0, 0, 0)]
theorem tkL_law : tOk cL_law "RumourSourceLaw" 4 tL_law = true := by decide +kernel
theorem fL_law_0 : fetch tL_law 0 = some (.new 7, 3, 0, 0, 0, 0) := rfl
theorem fL_law_3 : fetch tL_law 3 = some (.dup, 1, 0, 0, 0, 0) := rfl
theorem fL_law_4 : fetch tL_law 4 = some (.invokespecial 9, 3, 0, 0, 0, 0) := rfl
theorem fL_law_7 : fetch tL_law 7 = some (.astore_n 1, 1, 1, 0, 0, 0) := rfl
theorem fL_law_8 : fetch tL_law 8 = some (.new 10, 3, 0, 0, 0, 0) := rfl
theorem fL_law_11 : fetch tL_law 11 = some (.dup, 1, 0, 0, 0, 0) := rfl
theorem fL_law_12 : fetch tL_law 12 = some (.invokespecial 12, 3, 0, 0, 0, 0) := rfl
theorem fL_law_15 : fetch tL_law 15 = some (.astore_n 2, 1, 2, 0, 0, 0) := rfl
theorem fL_law_16 : fetch tL_law 16 = some (.iconst 0, 1, 0, 0, 0, 0) := rfl
theorem fL_law_17 : fetch tL_law 17 = some (.istore_n 3, 1, 3, 0, 0, 0) := rfl
theorem fL_law_18 : fetch tL_law 18 = some (.iload_n 3, 1, 3, 0, 0, 0) := rfl
theorem fL_law_19 : fetch tL_law 19 = some (.aload_n 0, 1, 0, 0, 0, 0) := rfl
theorem fL_law_20 : fetch tL_law 20 = some (.arraylength, 1, 0, 0, 0, 0) := rfl
theorem fL_law_21 : fetch tL_law 21 = some (.iconst 5, 1, 0, 0, 5, 0) := rfl
theorem fL_law_22 : fetch tL_law 22 = some (.isub, 1, 0, 0, 0, 0) := rfl
theorem fL_law_23 : fetch tL_law 23 = some (.if_icmp .gt 933, 3, 956, 0, 0, 0) := rfl
theorem fL_law_26 : fetch tL_law 26 = some (.aload_n 0, 1, 0, 0, 0, 0) := rfl
theorem fL_law_27 : fetch tL_law 27 = some (.iload_n 3, 1, 3, 0, 0, 0) := rfl
theorem fL_law_28 : fetch tL_law 28 = some (.iaload, 1, 0, 0, 0, 0) := rfl
theorem fL_law_29 : fetch tL_law 29 = some (.bipush 31, 2, 0, 0, 31, 0) := rfl
theorem fL_law_31 : fetch tL_law 31 = some (.iand, 1, 0, 0, 0, 0) := rfl
theorem fL_law_32 : fetch tL_law 32 = some (.tableswitch 918 0 30 #[140, 193, 236, 259, 272, 305, 338, 361, 394, 417, 440, 463, 496, 539, 563, 596, 640, 664, 688, 701, 724, 747, 770, 783, 806, 829, 842, 865, 878, 891, 904], 140, 0, 0, 0, 0) := rfl
theorem fL_law_172 : fetch tL_law 172 = some (.aload_n 1, 1, 1, 0, 0, 0) := rfl
theorem fL_law_173 : fetch tL_law 173 = some (.aload_n 0, 1, 0, 0, 0, 0) := rfl
theorem fL_law_174 : fetch tL_law 174 = some (.iload_n 3, 1, 3, 0, 0, 0) := rfl
theorem fL_law_175 : fetch tL_law 175 = some (.iconst 1, 1, 0, 0, 1, 0) := rfl
theorem fL_law_176 : fetch tL_law 176 = some (.iadd, 1, 0, 0, 0, 0) := rfl
theorem fL_law_177 : fetch tL_law 177 = some (.iaload, 1, 0, 0, 0, 0) := rfl
theorem fL_law_178 : fetch tL_law 178 = some (.aload_n 0, 1, 0, 0, 0, 0) := rfl
theorem fL_law_179 : fetch tL_law 179 = some (.iload_n 3, 1, 3, 0, 0, 0) := rfl
theorem fL_law_180 : fetch tL_law 180 = some (.iconst 2, 1, 0, 0, 2, 0) := rfl
theorem fL_law_181 : fetch tL_law 181 = some (.iadd, 1, 0, 0, 0, 0) := rfl
theorem fL_law_182 : fetch tL_law 182 = some (.iaload, 1, 0, 0, 0, 0) := rfl
theorem fL_law_183 : fetch tL_law 183 = some (.aload_n 0, 1, 0, 0, 0, 0) := rfl
theorem fL_law_184 : fetch tL_law 184 = some (.iload_n 3, 1, 3, 0, 0, 0) := rfl
theorem fL_law_185 : fetch tL_law 185 = some (.iconst 3, 1, 0, 0, 3, 0) := rfl
theorem fL_law_186 : fetch tL_law 186 = some (.iadd, 1, 0, 0, 0, 0) := rfl
theorem fL_law_187 : fetch tL_law 187 = some (.iaload, 1, 0, 0, 0, 0) := rfl
theorem fL_law_188 : fetch tL_law 188 = some (.aload_n 0, 1, 0, 0, 0, 0) := rfl
theorem fL_law_189 : fetch tL_law 189 = some (.iload_n 3, 1, 3, 0, 0, 0) := rfl
theorem fL_law_190 : fetch tL_law 190 = some (.iconst 4, 1, 0, 0, 4, 0) := rfl
theorem fL_law_191 : fetch tL_law 191 = some (.iadd, 1, 0, 0, 0, 0) := rfl
theorem fL_law_192 : fetch tL_law 192 = some (.iaload, 1, 0, 0, 0, 0) := rfl
theorem fL_law_193 : fetch tL_law 193 = some (.invokevirtual 13, 3, 0, 3, 0, 0) := rfl
theorem fL_law_196 : fetch tL_law 196 = some (.aload_n 2, 1, 2, 0, 0, 0) := rfl
theorem fL_law_197 : fetch tL_law 197 = some (.aload_n 0, 1, 0, 0, 0, 0) := rfl
theorem fL_law_198 : fetch tL_law 198 = some (.iload_n 3, 1, 3, 0, 0, 0) := rfl
theorem fL_law_199 : fetch tL_law 199 = some (.iconst 1, 1, 0, 0, 1, 0) := rfl
theorem fL_law_200 : fetch tL_law 200 = some (.iadd, 1, 0, 0, 0, 0) := rfl
theorem fL_law_201 : fetch tL_law 201 = some (.iaload, 1, 0, 0, 0, 0) := rfl
theorem fL_law_202 : fetch tL_law 202 = some (.aload_n 0, 1, 0, 0, 0, 0) := rfl
theorem fL_law_203 : fetch tL_law 203 = some (.iload_n 3, 1, 3, 0, 0, 0) := rfl
theorem fL_law_204 : fetch tL_law 204 = some (.iconst 2, 1, 0, 0, 2, 0) := rfl
theorem fL_law_205 : fetch tL_law 205 = some (.iadd, 1, 0, 0, 0, 0) := rfl
theorem fL_law_206 : fetch tL_law 206 = some (.iaload, 1, 0, 0, 0, 0) := rfl
theorem fL_law_207 : fetch tL_law 207 = some (.aload_n 0, 1, 0, 0, 0, 0) := rfl
theorem fL_law_208 : fetch tL_law 208 = some (.iload_n 3, 1, 3, 0, 0, 0) := rfl
theorem fL_law_209 : fetch tL_law 209 = some (.iconst 3, 1, 0, 0, 3, 0) := rfl
theorem fL_law_210 : fetch tL_law 210 = some (.iadd, 1, 0, 0, 0, 0) := rfl
theorem fL_law_211 : fetch tL_law 211 = some (.iaload, 1, 0, 0, 0, 0) := rfl
theorem fL_law_212 : fetch tL_law 212 = some (.aload_n 0, 1, 0, 0, 0, 0) := rfl
theorem fL_law_213 : fetch tL_law 213 = some (.iload_n 3, 1, 3, 0, 0, 0) := rfl
theorem fL_law_214 : fetch tL_law 214 = some (.iconst 4, 1, 0, 0, 4, 0) := rfl
theorem fL_law_215 : fetch tL_law 215 = some (.iadd, 1, 0, 0, 0, 0) := rfl
theorem fL_law_216 : fetch tL_law 216 = some (.iaload, 1, 0, 0, 0, 0) := rfl
theorem fL_law_217 : fetch tL_law 217 = some (.invokevirtual 17, 3, 1, 4, 0, 0) := rfl
theorem fL_law_220 : fetch tL_law 220 = some (.if_icmp .eq 730, 3, 950, 0, 0, 0) := rfl
theorem fL_law_223 : fetch tL_law 223 = some (.iconst 0, 1, 0, 0, 0, 0) := rfl
theorem fL_law_224 : fetch tL_law 224 = some (.ireturn, 1, 0, 0, 0, 0) := rfl
theorem fL_law_225 : fetch tL_law 225 = some (.aload_n 1, 1, 1, 0, 0, 0) := rfl
theorem fL_law_226 : fetch tL_law 226 = some (.aload_n 0, 1, 0, 0, 0, 0) := rfl
theorem fL_law_227 : fetch tL_law 227 = some (.iload_n 3, 1, 3, 0, 0, 0) := rfl
theorem fL_law_228 : fetch tL_law 228 = some (.iconst 1, 1, 0, 0, 1, 0) := rfl
theorem fL_law_229 : fetch tL_law 229 = some (.iadd, 1, 0, 0, 0, 0) := rfl
theorem fL_law_230 : fetch tL_law 230 = some (.iaload, 1, 0, 0, 0, 0) := rfl
theorem fL_law_231 : fetch tL_law 231 = some (.aload_n 0, 1, 0, 0, 0, 0) := rfl
theorem fL_law_232 : fetch tL_law 232 = some (.iload_n 3, 1, 3, 0, 0, 0) := rfl
theorem fL_law_233 : fetch tL_law 233 = some (.iconst 2, 1, 0, 0, 2, 0) := rfl
theorem fL_law_234 : fetch tL_law 234 = some (.iadd, 1, 0, 0, 0, 0) := rfl
theorem fL_law_235 : fetch tL_law 235 = some (.iaload, 1, 0, 0, 0, 0) := rfl
theorem fL_law_236 : fetch tL_law 236 = some (.aload_n 0, 1, 0, 0, 0, 0) := rfl
theorem fL_law_237 : fetch tL_law 237 = some (.iload_n 3, 1, 3, 0, 0, 0) := rfl
theorem fL_law_238 : fetch tL_law 238 = some (.iconst 3, 1, 0, 0, 3, 0) := rfl
theorem fL_law_239 : fetch tL_law 239 = some (.iadd, 1, 0, 0, 0, 0) := rfl
theorem fL_law_240 : fetch tL_law 240 = some (.iaload, 1, 0, 0, 0, 0) := rfl
theorem fL_law_241 : fetch tL_law 241 = some (.invokevirtual 18, 3, 2, 3, 0, 0) := rfl
theorem fL_law_244 : fetch tL_law 244 = some (.aload_n 2, 1, 2, 0, 0, 0) := rfl
theorem fL_law_245 : fetch tL_law 245 = some (.aload_n 0, 1, 0, 0, 0, 0) := rfl
theorem fL_law_246 : fetch tL_law 246 = some (.iload_n 3, 1, 3, 0, 0, 0) := rfl
theorem fL_law_247 : fetch tL_law 247 = some (.iconst 1, 1, 0, 0, 1, 0) := rfl
theorem fL_law_248 : fetch tL_law 248 = some (.iadd, 1, 0, 0, 0, 0) := rfl
theorem fL_law_249 : fetch tL_law 249 = some (.iaload, 1, 0, 0, 0, 0) := rfl
theorem fL_law_250 : fetch tL_law 250 = some (.aload_n 0, 1, 0, 0, 0, 0) := rfl
theorem fL_law_251 : fetch tL_law 251 = some (.iload_n 3, 1, 3, 0, 0, 0) := rfl
theorem fL_law_252 : fetch tL_law 252 = some (.iconst 2, 1, 0, 0, 2, 0) := rfl
theorem fL_law_253 : fetch tL_law 253 = some (.iadd, 1, 0, 0, 0, 0) := rfl
theorem fL_law_254 : fetch tL_law 254 = some (.iaload, 1, 0, 0, 0, 0) := rfl
theorem fL_law_255 : fetch tL_law 255 = some (.aload_n 0, 1, 0, 0, 0, 0) := rfl
theorem fL_law_256 : fetch tL_law 256 = some (.iload_n 3, 1, 3, 0, 0, 0) := rfl
theorem fL_law_257 : fetch tL_law 257 = some (.iconst 3, 1, 0, 0, 3, 0) := rfl
theorem fL_law_258 : fetch tL_law 258 = some (.iadd, 1, 0, 0, 0, 0) := rfl
theorem fL_law_259 : fetch tL_law 259 = some (.iaload, 1, 0, 0, 0, 0) := rfl
theorem fL_law_260 : fetch tL_law 260 = some (.invokevirtual 22, 3, 3, 4, 0, 0) := rfl
theorem fL_law_263 : fetch tL_law 263 = some (.if_icmp .eq 687, 3, 950, 0, 0, 0) := rfl
theorem fL_law_266 : fetch tL_law 266 = some (.iconst 0, 1, 0, 0, 0, 0) := rfl
theorem fL_law_267 : fetch tL_law 267 = some (.ireturn, 1, 0, 0, 0, 0) := rfl
theorem fL_law_268 : fetch tL_law 268 = some (.aload_n 1, 1, 1, 0, 0, 0) := rfl
theorem fL_law_269 : fetch tL_law 269 = some (.aload_n 0, 1, 0, 0, 0, 0) := rfl
theorem fL_law_270 : fetch tL_law 270 = some (.iload_n 3, 1, 3, 0, 0, 0) := rfl
theorem fL_law_271 : fetch tL_law 271 = some (.iconst 1, 1, 0, 0, 1, 0) := rfl
theorem fL_law_272 : fetch tL_law 272 = some (.iadd, 1, 0, 0, 0, 0) := rfl
theorem fL_law_273 : fetch tL_law 273 = some (.iaload, 1, 0, 0, 0, 0) := rfl
theorem fL_law_274 : fetch tL_law 274 = some (.invokevirtual 23, 3, 4, 3, 0, 0) := rfl
theorem fL_law_277 : fetch tL_law 277 = some (.aload_n 2, 1, 2, 0, 0, 0) := rfl
theorem fL_law_278 : fetch tL_law 278 = some (.aload_n 0, 1, 0, 0, 0, 0) := rfl
theorem fL_law_279 : fetch tL_law 279 = some (.iload_n 3, 1, 3, 0, 0, 0) := rfl
theorem fL_law_280 : fetch tL_law 280 = some (.iconst 1, 1, 0, 0, 1, 0) := rfl
theorem fL_law_281 : fetch tL_law 281 = some (.iadd, 1, 0, 0, 0, 0) := rfl
theorem fL_law_282 : fetch tL_law 282 = some (.iaload, 1, 0, 0, 0, 0) := rfl
theorem fL_law_283 : fetch tL_law 283 = some (.invokevirtual 27, 3, 5, 4, 0, 0) := rfl
theorem fL_law_286 : fetch tL_law 286 = some (.if_icmp .eq 664, 3, 950, 0, 0, 0) := rfl
theorem fL_law_289 : fetch tL_law 289 = some (.iconst 0, 1, 0, 0, 0, 0) := rfl
theorem fL_law_290 : fetch tL_law 290 = some (.ireturn, 1, 0, 0, 0, 0) := rfl
theorem fL_law_291 : fetch tL_law 291 = some (.aload_n 1, 1, 1, 0, 0, 0) := rfl
theorem fL_law_292 : fetch tL_law 292 = some (.invokevirtual 28, 3, 6, 3, 0, 0) := rfl
theorem fL_law_295 : fetch tL_law 295 = some (.aload_n 2, 1, 2, 0, 0, 0) := rfl
theorem fL_law_296 : fetch tL_law 296 = some (.invokevirtual 32, 3, 7, 4, 0, 0) := rfl
theorem fL_law_299 : fetch tL_law 299 = some (.if_icmp .eq 651, 3, 950, 0, 0, 0) := rfl
theorem fL_law_302 : fetch tL_law 302 = some (.iconst 0, 1, 0, 0, 0, 0) := rfl
theorem fL_law_303 : fetch tL_law 303 = some (.ireturn, 1, 0, 0, 0, 0) := rfl
theorem fL_law_304 : fetch tL_law 304 = some (.aload_n 1, 1, 1, 0, 0, 0) := rfl
theorem fL_law_305 : fetch tL_law 305 = some (.aload_n 0, 1, 0, 0, 0, 0) := rfl
theorem fL_law_306 : fetch tL_law 306 = some (.iload_n 3, 1, 3, 0, 0, 0) := rfl
theorem fL_law_307 : fetch tL_law 307 = some (.iconst 1, 1, 0, 0, 1, 0) := rfl
theorem fL_law_308 : fetch tL_law 308 = some (.iadd, 1, 0, 0, 0, 0) := rfl
theorem fL_law_309 : fetch tL_law 309 = some (.iaload, 1, 0, 0, 0, 0) := rfl
theorem fL_law_310 : fetch tL_law 310 = some (.aload_n 0, 1, 0, 0, 0, 0) := rfl
theorem fL_law_311 : fetch tL_law 311 = some (.iload_n 3, 1, 3, 0, 0, 0) := rfl
theorem fL_law_312 : fetch tL_law 312 = some (.iconst 2, 1, 0, 0, 2, 0) := rfl
theorem fL_law_313 : fetch tL_law 313 = some (.iadd, 1, 0, 0, 0, 0) := rfl
theorem fL_law_314 : fetch tL_law 314 = some (.iaload, 1, 0, 0, 0, 0) := rfl
theorem fL_law_315 : fetch tL_law 315 = some (.invokevirtual 33, 3, 8, 3, 0, 0) := rfl
theorem fL_law_318 : fetch tL_law 318 = some (.aload_n 2, 1, 2, 0, 0, 0) := rfl
theorem fL_law_319 : fetch tL_law 319 = some (.aload_n 0, 1, 0, 0, 0, 0) := rfl
theorem fL_law_320 : fetch tL_law 320 = some (.iload_n 3, 1, 3, 0, 0, 0) := rfl
theorem fL_law_321 : fetch tL_law 321 = some (.iconst 1, 1, 0, 0, 1, 0) := rfl
theorem fL_law_322 : fetch tL_law 322 = some (.iadd, 1, 0, 0, 0, 0) := rfl
theorem fL_law_323 : fetch tL_law 323 = some (.iaload, 1, 0, 0, 0, 0) := rfl
theorem fL_law_324 : fetch tL_law 324 = some (.aload_n 0, 1, 0, 0, 0, 0) := rfl
theorem fL_law_325 : fetch tL_law 325 = some (.iload_n 3, 1, 3, 0, 0, 0) := rfl
theorem fL_law_326 : fetch tL_law 326 = some (.iconst 2, 1, 0, 0, 2, 0) := rfl
theorem fL_law_327 : fetch tL_law 327 = some (.iadd, 1, 0, 0, 0, 0) := rfl
theorem fL_law_328 : fetch tL_law 328 = some (.iaload, 1, 0, 0, 0, 0) := rfl
theorem fL_law_329 : fetch tL_law 329 = some (.invokevirtual 37, 3, 9, 4, 0, 0) := rfl
theorem fL_law_332 : fetch tL_law 332 = some (.if_icmp .eq 618, 3, 950, 0, 0, 0) := rfl
theorem fL_law_335 : fetch tL_law 335 = some (.iconst 0, 1, 0, 0, 0, 0) := rfl
theorem fL_law_336 : fetch tL_law 336 = some (.ireturn, 1, 0, 0, 0, 0) := rfl
theorem fL_law_337 : fetch tL_law 337 = some (.aload_n 1, 1, 1, 0, 0, 0) := rfl
theorem fL_law_338 : fetch tL_law 338 = some (.aload_n 0, 1, 0, 0, 0, 0) := rfl
theorem fL_law_339 : fetch tL_law 339 = some (.iload_n 3, 1, 3, 0, 0, 0) := rfl
theorem fL_law_340 : fetch tL_law 340 = some (.iconst 1, 1, 0, 0, 1, 0) := rfl
theorem fL_law_341 : fetch tL_law 341 = some (.iadd, 1, 0, 0, 0, 0) := rfl
theorem fL_law_342 : fetch tL_law 342 = some (.iaload, 1, 0, 0, 0, 0) := rfl
theorem fL_law_343 : fetch tL_law 343 = some (.aload_n 0, 1, 0, 0, 0, 0) := rfl
theorem fL_law_344 : fetch tL_law 344 = some (.iload_n 3, 1, 3, 0, 0, 0) := rfl
theorem fL_law_345 : fetch tL_law 345 = some (.iconst 2, 1, 0, 0, 2, 0) := rfl
theorem fL_law_346 : fetch tL_law 346 = some (.iadd, 1, 0, 0, 0, 0) := rfl
theorem fL_law_347 : fetch tL_law 347 = some (.iaload, 1, 0, 0, 0, 0) := rfl
theorem fL_law_348 : fetch tL_law 348 = some (.invokevirtual 38, 3, 10, 3, 0, 0) := rfl
theorem fL_law_351 : fetch tL_law 351 = some (.aload_n 2, 1, 2, 0, 0, 0) := rfl
theorem fL_law_352 : fetch tL_law 352 = some (.aload_n 0, 1, 0, 0, 0, 0) := rfl
theorem fL_law_353 : fetch tL_law 353 = some (.iload_n 3, 1, 3, 0, 0, 0) := rfl
theorem fL_law_354 : fetch tL_law 354 = some (.iconst 1, 1, 0, 0, 1, 0) := rfl
theorem fL_law_355 : fetch tL_law 355 = some (.iadd, 1, 0, 0, 0, 0) := rfl
theorem fL_law_356 : fetch tL_law 356 = some (.iaload, 1, 0, 0, 0, 0) := rfl
theorem fL_law_357 : fetch tL_law 357 = some (.aload_n 0, 1, 0, 0, 0, 0) := rfl
theorem fL_law_358 : fetch tL_law 358 = some (.iload_n 3, 1, 3, 0, 0, 0) := rfl
theorem fL_law_359 : fetch tL_law 359 = some (.iconst 2, 1, 0, 0, 2, 0) := rfl
theorem fL_law_360 : fetch tL_law 360 = some (.iadd, 1, 0, 0, 0, 0) := rfl
theorem fL_law_361 : fetch tL_law 361 = some (.iaload, 1, 0, 0, 0, 0) := rfl
theorem fL_law_362 : fetch tL_law 362 = some (.invokevirtual 41, 3, 11, 4, 0, 0) := rfl
theorem fL_law_365 : fetch tL_law 365 = some (.if_icmp .eq 585, 3, 950, 0, 0, 0) := rfl
theorem fL_law_368 : fetch tL_law 368 = some (.iconst 0, 1, 0, 0, 0, 0) := rfl
theorem fL_law_369 : fetch tL_law 369 = some (.ireturn, 1, 0, 0, 0, 0) := rfl
theorem fL_law_370 : fetch tL_law 370 = some (.aload_n 1, 1, 1, 0, 0, 0) := rfl
theorem fL_law_371 : fetch tL_law 371 = some (.aload_n 0, 1, 0, 0, 0, 0) := rfl
theorem fL_law_372 : fetch tL_law 372 = some (.iload_n 3, 1, 3, 0, 0, 0) := rfl
theorem fL_law_373 : fetch tL_law 373 = some (.iconst 1, 1, 0, 0, 1, 0) := rfl
theorem fL_law_374 : fetch tL_law 374 = some (.iadd, 1, 0, 0, 0, 0) := rfl
theorem fL_law_375 : fetch tL_law 375 = some (.iaload, 1, 0, 0, 0, 0) := rfl
theorem fL_law_376 : fetch tL_law 376 = some (.invokevirtual 42, 3, 12, 3, 0, 0) := rfl
theorem fL_law_379 : fetch tL_law 379 = some (.aload_n 2, 1, 2, 0, 0, 0) := rfl
theorem fL_law_380 : fetch tL_law 380 = some (.aload_n 0, 1, 0, 0, 0, 0) := rfl
theorem fL_law_381 : fetch tL_law 381 = some (.iload_n 3, 1, 3, 0, 0, 0) := rfl
theorem fL_law_382 : fetch tL_law 382 = some (.iconst 1, 1, 0, 0, 1, 0) := rfl
theorem fL_law_383 : fetch tL_law 383 = some (.iadd, 1, 0, 0, 0, 0) := rfl
theorem fL_law_384 : fetch tL_law 384 = some (.iaload, 1, 0, 0, 0, 0) := rfl
theorem fL_law_385 : fetch tL_law 385 = some (.invokevirtual 45, 3, 13, 4, 0, 0) := rfl
theorem fL_law_388 : fetch tL_law 388 = some (.if_icmp .eq 562, 3, 950, 0, 0, 0) := rfl
theorem fL_law_391 : fetch tL_law 391 = some (.iconst 0, 1, 0, 0, 0, 0) := rfl
theorem fL_law_392 : fetch tL_law 392 = some (.ireturn, 1, 0, 0, 0, 0) := rfl
theorem fL_law_393 : fetch tL_law 393 = some (.aload_n 1, 1, 1, 0, 0, 0) := rfl
theorem fL_law_394 : fetch tL_law 394 = some (.aload_n 0, 1, 0, 0, 0, 0) := rfl
theorem fL_law_395 : fetch tL_law 395 = some (.iload_n 3, 1, 3, 0, 0, 0) := rfl
theorem fL_law_396 : fetch tL_law 396 = some (.iconst 1, 1, 0, 0, 1, 0) := rfl
theorem fL_law_397 : fetch tL_law 397 = some (.iadd, 1, 0, 0, 0, 0) := rfl
theorem fL_law_398 : fetch tL_law 398 = some (.iaload, 1, 0, 0, 0, 0) := rfl
theorem fL_law_399 : fetch tL_law 399 = some (.aload_n 0, 1, 0, 0, 0, 0) := rfl
theorem fL_law_400 : fetch tL_law 400 = some (.iload_n 3, 1, 3, 0, 0, 0) := rfl
theorem fL_law_401 : fetch tL_law 401 = some (.iconst 2, 1, 0, 0, 2, 0) := rfl
theorem fL_law_402 : fetch tL_law 402 = some (.iadd, 1, 0, 0, 0, 0) := rfl
theorem fL_law_403 : fetch tL_law 403 = some (.iaload, 1, 0, 0, 0, 0) := rfl
theorem fL_law_404 : fetch tL_law 404 = some (.invokevirtual 46, 3, 14, 3, 0, 0) := rfl
theorem fL_law_407 : fetch tL_law 407 = some (.aload_n 2, 1, 2, 0, 0, 0) := rfl
theorem fL_law_408 : fetch tL_law 408 = some (.aload_n 0, 1, 0, 0, 0, 0) := rfl
theorem fL_law_409 : fetch tL_law 409 = some (.iload_n 3, 1, 3, 0, 0, 0) := rfl
theorem fL_law_410 : fetch tL_law 410 = some (.iconst 1, 1, 0, 0, 1, 0) := rfl
theorem fL_law_411 : fetch tL_law 411 = some (.iadd, 1, 0, 0, 0, 0) := rfl
theorem fL_law_412 : fetch tL_law 412 = some (.iaload, 1, 0, 0, 0, 0) := rfl
theorem fL_law_413 : fetch tL_law 413 = some (.aload_n 0, 1, 0, 0, 0, 0) := rfl
theorem fL_law_414 : fetch tL_law 414 = some (.iload_n 3, 1, 3, 0, 0, 0) := rfl
theorem fL_law_415 : fetch tL_law 415 = some (.iconst 2, 1, 0, 0, 2, 0) := rfl
theorem fL_law_416 : fetch tL_law 416 = some (.iadd, 1, 0, 0, 0, 0) := rfl
theorem fL_law_417 : fetch tL_law 417 = some (.iaload, 1, 0, 0, 0, 0) := rfl
theorem fL_law_418 : fetch tL_law 418 = some (.invokevirtual 49, 3, 15, 4, 0, 0) := rfl
theorem fL_law_421 : fetch tL_law 421 = some (.if_icmp .eq 529, 3, 950, 0, 0, 0) := rfl
theorem fL_law_424 : fetch tL_law 424 = some (.iconst 0, 1, 0, 0, 0, 0) := rfl
theorem fL_law_425 : fetch tL_law 425 = some (.ireturn, 1, 0, 0, 0, 0) := rfl
theorem fL_law_426 : fetch tL_law 426 = some (.aload_n 1, 1, 1, 0, 0, 0) := rfl
theorem fL_law_427 : fetch tL_law 427 = some (.aload_n 0, 1, 0, 0, 0, 0) := rfl
theorem fL_law_428 : fetch tL_law 428 = some (.iload_n 3, 1, 3, 0, 0, 0) := rfl
theorem fL_law_429 : fetch tL_law 429 = some (.iconst 1, 1, 0, 0, 1, 0) := rfl
theorem fL_law_430 : fetch tL_law 430 = some (.iadd, 1, 0, 0, 0, 0) := rfl
theorem fL_law_431 : fetch tL_law 431 = some (.iaload, 1, 0, 0, 0, 0) := rfl
theorem fL_law_432 : fetch tL_law 432 = some (.invokevirtual 50, 3, 16, 3, 0, 0) := rfl
theorem fL_law_435 : fetch tL_law 435 = some (.aload_n 2, 1, 2, 0, 0, 0) := rfl
theorem fL_law_436 : fetch tL_law 436 = some (.aload_n 0, 1, 0, 0, 0, 0) := rfl
theorem fL_law_437 : fetch tL_law 437 = some (.iload_n 3, 1, 3, 0, 0, 0) := rfl
theorem fL_law_438 : fetch tL_law 438 = some (.iconst 1, 1, 0, 0, 1, 0) := rfl
theorem fL_law_439 : fetch tL_law 439 = some (.iadd, 1, 0, 0, 0, 0) := rfl
theorem fL_law_440 : fetch tL_law 440 = some (.iaload, 1, 0, 0, 0, 0) := rfl
theorem fL_law_441 : fetch tL_law 441 = some (.invokevirtual 53, 3, 17, 4, 0, 0) := rfl
theorem fL_law_444 : fetch tL_law 444 = some (.if_icmp .eq 506, 3, 950, 0, 0, 0) := rfl
theorem fL_law_447 : fetch tL_law 447 = some (.iconst 0, 1, 0, 0, 0, 0) := rfl
theorem fL_law_448 : fetch tL_law 448 = some (.ireturn, 1, 0, 0, 0, 0) := rfl
theorem fL_law_449 : fetch tL_law 449 = some (.aload_n 1, 1, 1, 0, 0, 0) := rfl
theorem fL_law_450 : fetch tL_law 450 = some (.aload_n 0, 1, 0, 0, 0, 0) := rfl
theorem fL_law_451 : fetch tL_law 451 = some (.iload_n 3, 1, 3, 0, 0, 0) := rfl
theorem fL_law_452 : fetch tL_law 452 = some (.iconst 1, 1, 0, 0, 1, 0) := rfl
theorem fL_law_453 : fetch tL_law 453 = some (.iadd, 1, 0, 0, 0, 0) := rfl
theorem fL_law_454 : fetch tL_law 454 = some (.iaload, 1, 0, 0, 0, 0) := rfl
theorem fL_law_455 : fetch tL_law 455 = some (.invokevirtual 54, 3, 18, 3, 0, 0) := rfl
theorem fL_law_458 : fetch tL_law 458 = some (.aload_n 2, 1, 2, 0, 0, 0) := rfl
theorem fL_law_459 : fetch tL_law 459 = some (.aload_n 0, 1, 0, 0, 0, 0) := rfl
theorem fL_law_460 : fetch tL_law 460 = some (.iload_n 3, 1, 3, 0, 0, 0) := rfl
theorem fL_law_461 : fetch tL_law 461 = some (.iconst 1, 1, 0, 0, 1, 0) := rfl
theorem fL_law_462 : fetch tL_law 462 = some (.iadd, 1, 0, 0, 0, 0) := rfl
theorem fL_law_463 : fetch tL_law 463 = some (.iaload, 1, 0, 0, 0, 0) := rfl
theorem fL_law_464 : fetch tL_law 464 = some (.invokevirtual 57, 3, 19, 4, 0, 0) := rfl
theorem fL_law_467 : fetch tL_law 467 = some (.if_icmp .eq 483, 3, 950, 0, 0, 0) := rfl
theorem fL_law_470 : fetch tL_law 470 = some (.iconst 0, 1, 0, 0, 0, 0) := rfl
theorem fL_law_471 : fetch tL_law 471 = some (.ireturn, 1, 0, 0, 0, 0) := rfl
theorem fL_law_472 : fetch tL_law 472 = some (.aload_n 1, 1, 1, 0, 0, 0) := rfl
theorem fL_law_473 : fetch tL_law 473 = some (.aload_n 0, 1, 0, 0, 0, 0) := rfl
theorem fL_law_474 : fetch tL_law 474 = some (.iload_n 3, 1, 3, 0, 0, 0) := rfl
theorem fL_law_475 : fetch tL_law 475 = some (.iconst 1, 1, 0, 0, 1, 0) := rfl
theorem fL_law_476 : fetch tL_law 476 = some (.iadd, 1, 0, 0, 0, 0) := rfl
theorem fL_law_477 : fetch tL_law 477 = some (.iaload, 1, 0, 0, 0, 0) := rfl
theorem fL_law_478 : fetch tL_law 478 = some (.invokevirtual 58, 3, 20, 3, 0, 0) := rfl
theorem fL_law_481 : fetch tL_law 481 = some (.aload_n 2, 1, 2, 0, 0, 0) := rfl
theorem fL_law_482 : fetch tL_law 482 = some (.aload_n 0, 1, 0, 0, 0, 0) := rfl
theorem fL_law_483 : fetch tL_law 483 = some (.iload_n 3, 1, 3, 0, 0, 0) := rfl
theorem fL_law_484 : fetch tL_law 484 = some (.iconst 1, 1, 0, 0, 1, 0) := rfl
theorem fL_law_485 : fetch tL_law 485 = some (.iadd, 1, 0, 0, 0, 0) := rfl
theorem fL_law_486 : fetch tL_law 486 = some (.iaload, 1, 0, 0, 0, 0) := rfl
theorem fL_law_487 : fetch tL_law 487 = some (.invokevirtual 61, 3, 21, 4, 0, 0) := rfl
theorem fL_law_490 : fetch tL_law 490 = some (.if_icmp .eq 460, 3, 950, 0, 0, 0) := rfl
theorem fL_law_493 : fetch tL_law 493 = some (.iconst 0, 1, 0, 0, 0, 0) := rfl
theorem fL_law_494 : fetch tL_law 494 = some (.ireturn, 1, 0, 0, 0, 0) := rfl
theorem fL_law_495 : fetch tL_law 495 = some (.aload_n 1, 1, 1, 0, 0, 0) := rfl
theorem fL_law_496 : fetch tL_law 496 = some (.aload_n 0, 1, 0, 0, 0, 0) := rfl
theorem fL_law_497 : fetch tL_law 497 = some (.iload_n 3, 1, 3, 0, 0, 0) := rfl
theorem fL_law_498 : fetch tL_law 498 = some (.iconst 1, 1, 0, 0, 1, 0) := rfl
theorem fL_law_499 : fetch tL_law 499 = some (.iadd, 1, 0, 0, 0, 0) := rfl
theorem fL_law_500 : fetch tL_law 500 = some (.iaload, 1, 0, 0, 0, 0) := rfl
theorem fL_law_501 : fetch tL_law 501 = some (.aload_n 0, 1, 0, 0, 0, 0) := rfl
theorem fL_law_502 : fetch tL_law 502 = some (.iload_n 3, 1, 3, 0, 0, 0) := rfl
theorem fL_law_503 : fetch tL_law 503 = some (.iconst 2, 1, 0, 0, 2, 0) := rfl
theorem fL_law_504 : fetch tL_law 504 = some (.iadd, 1, 0, 0, 0, 0) := rfl
theorem fL_law_505 : fetch tL_law 505 = some (.iaload, 1, 0, 0, 0, 0) := rfl
theorem fL_law_506 : fetch tL_law 506 = some (.invokevirtual 62, 3, 22, 3, 0, 0) := rfl
theorem fL_law_509 : fetch tL_law 509 = some (.aload_n 2, 1, 2, 0, 0, 0) := rfl
theorem fL_law_510 : fetch tL_law 510 = some (.aload_n 0, 1, 0, 0, 0, 0) := rfl
theorem fL_law_511 : fetch tL_law 511 = some (.iload_n 3, 1, 3, 0, 0, 0) := rfl
theorem fL_law_512 : fetch tL_law 512 = some (.iconst 1, 1, 0, 0, 1, 0) := rfl
theorem fL_law_513 : fetch tL_law 513 = some (.iadd, 1, 0, 0, 0, 0) := rfl
theorem fL_law_514 : fetch tL_law 514 = some (.iaload, 1, 0, 0, 0, 0) := rfl
theorem fL_law_515 : fetch tL_law 515 = some (.aload_n 0, 1, 0, 0, 0, 0) := rfl
theorem fL_law_516 : fetch tL_law 516 = some (.iload_n 3, 1, 3, 0, 0, 0) := rfl
theorem fL_law_517 : fetch tL_law 517 = some (.iconst 2, 1, 0, 0, 2, 0) := rfl
theorem fL_law_518 : fetch tL_law 518 = some (.iadd, 1, 0, 0, 0, 0) := rfl
theorem fL_law_519 : fetch tL_law 519 = some (.iaload, 1, 0, 0, 0, 0) := rfl
theorem fL_law_520 : fetch tL_law 520 = some (.invokevirtual 65, 3, 23, 4, 0, 0) := rfl
theorem fL_law_523 : fetch tL_law 523 = some (.if_icmp .eq 427, 3, 950, 0, 0, 0) := rfl
theorem fL_law_526 : fetch tL_law 526 = some (.iconst 0, 1, 0, 0, 0, 0) := rfl
theorem fL_law_527 : fetch tL_law 527 = some (.ireturn, 1, 0, 0, 0, 0) := rfl
theorem fL_law_528 : fetch tL_law 528 = some (.aload_n 1, 1, 1, 0, 0, 0) := rfl
theorem fL_law_529 : fetch tL_law 529 = some (.aload_n 0, 1, 0, 0, 0, 0) := rfl
theorem fL_law_530 : fetch tL_law 530 = some (.iload_n 3, 1, 3, 0, 0, 0) := rfl
theorem fL_law_531 : fetch tL_law 531 = some (.iconst 1, 1, 0, 0, 1, 0) := rfl
theorem fL_law_532 : fetch tL_law 532 = some (.iadd, 1, 0, 0, 0, 0) := rfl
theorem fL_law_533 : fetch tL_law 533 = some (.iaload, 1, 0, 0, 0, 0) := rfl
theorem fL_law_534 : fetch tL_law 534 = some (.aload_n 0, 1, 0, 0, 0, 0) := rfl
theorem fL_law_535 : fetch tL_law 535 = some (.iload_n 3, 1, 3, 0, 0, 0) := rfl
theorem fL_law_536 : fetch tL_law 536 = some (.iconst 2, 1, 0, 0, 2, 0) := rfl
theorem fL_law_537 : fetch tL_law 537 = some (.iadd, 1, 0, 0, 0, 0) := rfl
theorem fL_law_538 : fetch tL_law 538 = some (.iaload, 1, 0, 0, 0, 0) := rfl
theorem fL_law_539 : fetch tL_law 539 = some (.aload_n 0, 1, 0, 0, 0, 0) := rfl
theorem fL_law_540 : fetch tL_law 540 = some (.iload_n 3, 1, 3, 0, 0, 0) := rfl
theorem fL_law_541 : fetch tL_law 541 = some (.iconst 3, 1, 0, 0, 3, 0) := rfl
theorem fL_law_542 : fetch tL_law 542 = some (.iadd, 1, 0, 0, 0, 0) := rfl
theorem fL_law_543 : fetch tL_law 543 = some (.iaload, 1, 0, 0, 0, 0) := rfl
theorem fL_law_544 : fetch tL_law 544 = some (.invokevirtual 66, 3, 24, 3, 0, 0) := rfl
theorem fL_law_547 : fetch tL_law 547 = some (.aload_n 2, 1, 2, 0, 0, 0) := rfl
theorem fL_law_548 : fetch tL_law 548 = some (.aload_n 0, 1, 0, 0, 0, 0) := rfl
theorem fL_law_549 : fetch tL_law 549 = some (.iload_n 3, 1, 3, 0, 0, 0) := rfl
theorem fL_law_550 : fetch tL_law 550 = some (.iconst 1, 1, 0, 0, 1, 0) := rfl
theorem fL_law_551 : fetch tL_law 551 = some (.iadd, 1, 0, 0, 0, 0) := rfl
theorem fL_law_552 : fetch tL_law 552 = some (.iaload, 1, 0, 0, 0, 0) := rfl
theorem fL_law_553 : fetch tL_law 553 = some (.aload_n 0, 1, 0, 0, 0, 0) := rfl
theorem fL_law_554 : fetch tL_law 554 = some (.iload_n 3, 1, 3, 0, 0, 0) := rfl
theorem fL_law_555 : fetch tL_law 555 = some (.iconst 2, 1, 0, 0, 2, 0) := rfl
theorem fL_law_556 : fetch tL_law 556 = some (.iadd, 1, 0, 0, 0, 0) := rfl
theorem fL_law_557 : fetch tL_law 557 = some (.iaload, 1, 0, 0, 0, 0) := rfl
theorem fL_law_558 : fetch tL_law 558 = some (.aload_n 0, 1, 0, 0, 0, 0) := rfl
theorem fL_law_559 : fetch tL_law 559 = some (.iload_n 3, 1, 3, 0, 0, 0) := rfl
theorem fL_law_560 : fetch tL_law 560 = some (.iconst 3, 1, 0, 0, 3, 0) := rfl
theorem fL_law_561 : fetch tL_law 561 = some (.iadd, 1, 0, 0, 0, 0) := rfl
theorem fL_law_562 : fetch tL_law 562 = some (.iaload, 1, 0, 0, 0, 0) := rfl
theorem fL_law_563 : fetch tL_law 563 = some (.invokevirtual 69, 3, 25, 4, 0, 0) := rfl
theorem fL_law_566 : fetch tL_law 566 = some (.if_icmp .eq 384, 3, 950, 0, 0, 0) := rfl
theorem fL_law_569 : fetch tL_law 569 = some (.iconst 0, 1, 0, 0, 0, 0) := rfl
theorem fL_law_570 : fetch tL_law 570 = some (.ireturn, 1, 0, 0, 0, 0) := rfl
theorem fL_law_571 : fetch tL_law 571 = some (.aload_n 1, 1, 1, 0, 0, 0) := rfl
theorem fL_law_572 : fetch tL_law 572 = some (.aload_n 0, 1, 0, 0, 0, 0) := rfl
theorem fL_law_573 : fetch tL_law 573 = some (.iload_n 3, 1, 3, 0, 0, 0) := rfl
theorem fL_law_574 : fetch tL_law 574 = some (.iconst 1, 1, 0, 0, 1, 0) := rfl
theorem fL_law_575 : fetch tL_law 575 = some (.iadd, 1, 0, 0, 0, 0) := rfl
theorem fL_law_576 : fetch tL_law 576 = some (.iaload, 1, 0, 0, 0, 0) := rfl
theorem fL_law_577 : fetch tL_law 577 = some (.invokevirtual 70, 3, 26, 3, 0, 0) := rfl
theorem fL_law_580 : fetch tL_law 580 = some (.aload_n 2, 1, 2, 0, 0, 0) := rfl
theorem fL_law_581 : fetch tL_law 581 = some (.aload_n 0, 1, 0, 0, 0, 0) := rfl
theorem fL_law_582 : fetch tL_law 582 = some (.iload_n 3, 1, 3, 0, 0, 0) := rfl
theorem fL_law_583 : fetch tL_law 583 = some (.iconst 1, 1, 0, 0, 1, 0) := rfl
theorem fL_law_584 : fetch tL_law 584 = some (.iadd, 1, 0, 0, 0, 0) := rfl
theorem fL_law_585 : fetch tL_law 585 = some (.iaload, 1, 0, 0, 0, 0) := rfl
theorem fL_law_586 : fetch tL_law 586 = some (.invokevirtual 74, 3, 27, 4, 0, 0) := rfl
theorem fL_law_589 : fetch tL_law 589 = some (.lcmp, 1, 0, 0, 0, 0) := rfl
theorem fL_law_590 : fetch tL_law 590 = some (.ifCond .eq 360, 3, 950, 0, 0, 0) := rfl
theorem fL_law_593 : fetch tL_law 593 = some (.iconst 0, 1, 0, 0, 0, 0) := rfl
theorem fL_law_594 : fetch tL_law 594 = some (.ireturn, 1, 0, 0, 0, 0) := rfl
theorem fL_law_595 : fetch tL_law 595 = some (.aload_n 1, 1, 1, 0, 0, 0) := rfl
theorem fL_law_596 : fetch tL_law 596 = some (.aload_n 0, 1, 0, 0, 0, 0) := rfl
theorem fL_law_597 : fetch tL_law 597 = some (.iload_n 3, 1, 3, 0, 0, 0) := rfl
theorem fL_law_598 : fetch tL_law 598 = some (.iconst 1, 1, 0, 0, 1, 0) := rfl
theorem fL_law_599 : fetch tL_law 599 = some (.iadd, 1, 0, 0, 0, 0) := rfl
theorem fL_law_600 : fetch tL_law 600 = some (.iaload, 1, 0, 0, 0, 0) := rfl
theorem fL_law_601 : fetch tL_law 601 = some (.aload_n 0, 1, 0, 0, 0, 0) := rfl
theorem fL_law_602 : fetch tL_law 602 = some (.iload_n 3, 1, 3, 0, 0, 0) := rfl
theorem fL_law_603 : fetch tL_law 603 = some (.iconst 2, 1, 0, 0, 2, 0) := rfl
theorem fL_law_604 : fetch tL_law 604 = some (.iadd, 1, 0, 0, 0, 0) := rfl
theorem fL_law_605 : fetch tL_law 605 = some (.iaload, 1, 0, 0, 0, 0) := rfl
theorem fL_law_606 : fetch tL_law 606 = some (.invokevirtual 75, 3, 28, 3, 0, 0) := rfl
theorem fL_law_609 : fetch tL_law 609 = some (.aload_n 2, 1, 2, 0, 0, 0) := rfl
theorem fL_law_610 : fetch tL_law 610 = some (.aload_n 0, 1, 0, 0, 0, 0) := rfl
theorem fL_law_611 : fetch tL_law 611 = some (.iload_n 3, 1, 3, 0, 0, 0) := rfl
theorem fL_law_612 : fetch tL_law 612 = some (.iconst 1, 1, 0, 0, 1, 0) := rfl
theorem fL_law_613 : fetch tL_law 613 = some (.iadd, 1, 0, 0, 0, 0) := rfl
theorem fL_law_614 : fetch tL_law 614 = some (.iaload, 1, 0, 0, 0, 0) := rfl
theorem fL_law_615 : fetch tL_law 615 = some (.aload_n 0, 1, 0, 0, 0, 0) := rfl
theorem fL_law_616 : fetch tL_law 616 = some (.iload_n 3, 1, 3, 0, 0, 0) := rfl
theorem fL_law_617 : fetch tL_law 617 = some (.iconst 2, 1, 0, 0, 2, 0) := rfl
theorem fL_law_618 : fetch tL_law 618 = some (.iadd, 1, 0, 0, 0, 0) := rfl
theorem fL_law_619 : fetch tL_law 619 = some (.iaload, 1, 0, 0, 0, 0) := rfl
theorem fL_law_620 : fetch tL_law 620 = some (.invokevirtual 78, 3, 29, 4, 0, 0) := rfl
theorem fL_law_623 : fetch tL_law 623 = some (.if_icmp .eq 327, 3, 950, 0, 0, 0) := rfl
theorem fL_law_626 : fetch tL_law 626 = some (.iconst 0, 1, 0, 0, 0, 0) := rfl
theorem fL_law_627 : fetch tL_law 627 = some (.ireturn, 1, 0, 0, 0, 0) := rfl
theorem fL_law_628 : fetch tL_law 628 = some (.aload_n 1, 1, 1, 0, 0, 0) := rfl
theorem fL_law_629 : fetch tL_law 629 = some (.aload_n 0, 1, 0, 0, 0, 0) := rfl
theorem fL_law_630 : fetch tL_law 630 = some (.iload_n 3, 1, 3, 0, 0, 0) := rfl
theorem fL_law_631 : fetch tL_law 631 = some (.iconst 1, 1, 0, 0, 1, 0) := rfl
theorem fL_law_632 : fetch tL_law 632 = some (.iadd, 1, 0, 0, 0, 0) := rfl
theorem fL_law_633 : fetch tL_law 633 = some (.iaload, 1, 0, 0, 0, 0) := rfl
theorem fL_law_634 : fetch tL_law 634 = some (.aload_n 0, 1, 0, 0, 0, 0) := rfl
theorem fL_law_635 : fetch tL_law 635 = some (.iload_n 3, 1, 3, 0, 0, 0) := rfl
theorem fL_law_636 : fetch tL_law 636 = some (.iconst 2, 1, 0, 0, 2, 0) := rfl
theorem fL_law_637 : fetch tL_law 637 = some (.iadd, 1, 0, 0, 0, 0) := rfl
theorem fL_law_638 : fetch tL_law 638 = some (.iaload, 1, 0, 0, 0, 0) := rfl
theorem fL_law_639 : fetch tL_law 639 = some (.aload_n 0, 1, 0, 0, 0, 0) := rfl
theorem fL_law_640 : fetch tL_law 640 = some (.iload_n 3, 1, 3, 0, 0, 0) := rfl
theorem fL_law_641 : fetch tL_law 641 = some (.iconst 3, 1, 0, 0, 3, 0) := rfl
theorem fL_law_642 : fetch tL_law 642 = some (.iadd, 1, 0, 0, 0, 0) := rfl
theorem fL_law_643 : fetch tL_law 643 = some (.iaload, 1, 0, 0, 0, 0) := rfl
theorem fL_law_644 : fetch tL_law 644 = some (.invokevirtual 79, 3, 30, 3, 0, 0) := rfl
theorem fL_law_647 : fetch tL_law 647 = some (.aload_n 2, 1, 2, 0, 0, 0) := rfl
theorem fL_law_648 : fetch tL_law 648 = some (.aload_n 0, 1, 0, 0, 0, 0) := rfl
theorem fL_law_649 : fetch tL_law 649 = some (.iload_n 3, 1, 3, 0, 0, 0) := rfl
theorem fL_law_650 : fetch tL_law 650 = some (.iconst 1, 1, 0, 0, 1, 0) := rfl
theorem fL_law_651 : fetch tL_law 651 = some (.iadd, 1, 0, 0, 0, 0) := rfl
theorem fL_law_652 : fetch tL_law 652 = some (.iaload, 1, 0, 0, 0, 0) := rfl
theorem fL_law_653 : fetch tL_law 653 = some (.aload_n 0, 1, 0, 0, 0, 0) := rfl
theorem fL_law_654 : fetch tL_law 654 = some (.iload_n 3, 1, 3, 0, 0, 0) := rfl
theorem fL_law_655 : fetch tL_law 655 = some (.iconst 2, 1, 0, 0, 2, 0) := rfl
theorem fL_law_656 : fetch tL_law 656 = some (.iadd, 1, 0, 0, 0, 0) := rfl
theorem fL_law_657 : fetch tL_law 657 = some (.iaload, 1, 0, 0, 0, 0) := rfl
theorem fL_law_658 : fetch tL_law 658 = some (.aload_n 0, 1, 0, 0, 0, 0) := rfl
theorem fL_law_659 : fetch tL_law 659 = some (.iload_n 3, 1, 3, 0, 0, 0) := rfl
theorem fL_law_660 : fetch tL_law 660 = some (.iconst 3, 1, 0, 0, 3, 0) := rfl
theorem fL_law_661 : fetch tL_law 661 = some (.iadd, 1, 0, 0, 0, 0) := rfl
theorem fL_law_662 : fetch tL_law 662 = some (.iaload, 1, 0, 0, 0, 0) := rfl
theorem fL_law_663 : fetch tL_law 663 = some (.invokevirtual 83, 3, 31, 4, 0, 0) := rfl
theorem fL_law_666 : fetch tL_law 666 = some (.lcmp, 1, 0, 0, 0, 0) := rfl
theorem fL_law_667 : fetch tL_law 667 = some (.ifCond .eq 283, 3, 950, 0, 0, 0) := rfl
theorem fL_law_670 : fetch tL_law 670 = some (.iconst 0, 1, 0, 0, 0, 0) := rfl
theorem fL_law_671 : fetch tL_law 671 = some (.ireturn, 1, 0, 0, 0, 0) := rfl
theorem fL_law_672 : fetch tL_law 672 = some (.aload_n 1, 1, 1, 0, 0, 0) := rfl
theorem fL_law_673 : fetch tL_law 673 = some (.aload_n 0, 1, 0, 0, 0, 0) := rfl
theorem fL_law_674 : fetch tL_law 674 = some (.iload_n 3, 1, 3, 0, 0, 0) := rfl
theorem fL_law_675 : fetch tL_law 675 = some (.iconst 1, 1, 0, 0, 1, 0) := rfl
theorem fL_law_676 : fetch tL_law 676 = some (.iadd, 1, 0, 0, 0, 0) := rfl
theorem fL_law_677 : fetch tL_law 677 = some (.iaload, 1, 0, 0, 0, 0) := rfl
theorem fL_law_678 : fetch tL_law 678 = some (.invokevirtual 84, 3, 32, 3, 0, 0) := rfl
theorem fL_law_681 : fetch tL_law 681 = some (.aload_n 2, 1, 2, 0, 0, 0) := rfl
theorem fL_law_682 : fetch tL_law 682 = some (.aload_n 0, 1, 0, 0, 0, 0) := rfl
theorem fL_law_683 : fetch tL_law 683 = some (.iload_n 3, 1, 3, 0, 0, 0) := rfl
theorem fL_law_684 : fetch tL_law 684 = some (.iconst 1, 1, 0, 0, 1, 0) := rfl
theorem fL_law_685 : fetch tL_law 685 = some (.iadd, 1, 0, 0, 0, 0) := rfl
theorem fL_law_686 : fetch tL_law 686 = some (.iaload, 1, 0, 0, 0, 0) := rfl
theorem fL_law_687 : fetch tL_law 687 = some (.invokevirtual 87, 3, 33, 4, 0, 0) := rfl
theorem fL_law_690 : fetch tL_law 690 = some (.lcmp, 1, 0, 0, 0, 0) := rfl
theorem fL_law_691 : fetch tL_law 691 = some (.ifCond .eq 259, 3, 950, 0, 0, 0) := rfl
theorem fL_law_694 : fetch tL_law 694 = some (.iconst 0, 1, 0, 0, 0, 0) := rfl
theorem fL_law_695 : fetch tL_law 695 = some (.ireturn, 1, 0, 0, 0, 0) := rfl
theorem fL_law_696 : fetch tL_law 696 = some (.aload_n 1, 1, 1, 0, 0, 0) := rfl
theorem fL_law_697 : fetch tL_law 697 = some (.aload_n 0, 1, 0, 0, 0, 0) := rfl
theorem fL_law_698 : fetch tL_law 698 = some (.iload_n 3, 1, 3, 0, 0, 0) := rfl
theorem fL_law_699 : fetch tL_law 699 = some (.iconst 1, 1, 0, 0, 1, 0) := rfl
theorem fL_law_700 : fetch tL_law 700 = some (.iadd, 1, 0, 0, 0, 0) := rfl
theorem fL_law_701 : fetch tL_law 701 = some (.iaload, 1, 0, 0, 0, 0) := rfl
theorem fL_law_702 : fetch tL_law 702 = some (.invokevirtual 88, 3, 34, 3, 0, 0) := rfl
theorem fL_law_705 : fetch tL_law 705 = some (.aload_n 2, 1, 2, 0, 0, 0) := rfl
theorem fL_law_706 : fetch tL_law 706 = some (.aload_n 0, 1, 0, 0, 0, 0) := rfl
theorem fL_law_707 : fetch tL_law 707 = some (.iload_n 3, 1, 3, 0, 0, 0) := rfl
theorem fL_law_708 : fetch tL_law 708 = some (.iconst 1, 1, 0, 0, 1, 0) := rfl
theorem fL_law_709 : fetch tL_law 709 = some (.iadd, 1, 0, 0, 0, 0) := rfl
theorem fL_law_710 : fetch tL_law 710 = some (.iaload, 1, 0, 0, 0, 0) := rfl
theorem fL_law_711 : fetch tL_law 711 = some (.invokevirtual 91, 3, 35, 4, 0, 0) := rfl
theorem fL_law_714 : fetch tL_law 714 = some (.lcmp, 1, 0, 0, 0, 0) := rfl
theorem fL_law_715 : fetch tL_law 715 = some (.ifCond .eq 235, 3, 950, 0, 0, 0) := rfl
theorem fL_law_718 : fetch tL_law 718 = some (.iconst 0, 1, 0, 0, 0, 0) := rfl
theorem fL_law_719 : fetch tL_law 719 = some (.ireturn, 1, 0, 0, 0, 0) := rfl
theorem fL_law_720 : fetch tL_law 720 = some (.aload_n 1, 1, 1, 0, 0, 0) := rfl
theorem fL_law_721 : fetch tL_law 721 = some (.invokevirtual 92, 3, 36, 3, 0, 0) := rfl
theorem fL_law_724 : fetch tL_law 724 = some (.aload_n 2, 1, 2, 0, 0, 0) := rfl
theorem fL_law_725 : fetch tL_law 725 = some (.invokevirtual 95, 3, 37, 4, 0, 0) := rfl
theorem fL_law_728 : fetch tL_law 728 = some (.if_icmp .eq 222, 3, 950, 0, 0, 0) := rfl
theorem fL_law_731 : fetch tL_law 731 = some (.iconst 0, 1, 0, 0, 0, 0) := rfl
theorem fL_law_732 : fetch tL_law 732 = some (.ireturn, 1, 0, 0, 0, 0) := rfl
theorem fL_law_733 : fetch tL_law 733 = some (.aload_n 1, 1, 1, 0, 0, 0) := rfl
theorem fL_law_734 : fetch tL_law 734 = some (.aload_n 0, 1, 0, 0, 0, 0) := rfl
theorem fL_law_735 : fetch tL_law 735 = some (.iload_n 3, 1, 3, 0, 0, 0) := rfl
theorem fL_law_736 : fetch tL_law 736 = some (.iconst 1, 1, 0, 0, 1, 0) := rfl
theorem fL_law_737 : fetch tL_law 737 = some (.iadd, 1, 0, 0, 0, 0) := rfl
theorem fL_law_738 : fetch tL_law 738 = some (.iaload, 1, 0, 0, 0, 0) := rfl
theorem fL_law_739 : fetch tL_law 739 = some (.invokevirtual 96, 3, 38, 3, 0, 0) := rfl
theorem fL_law_742 : fetch tL_law 742 = some (.aload_n 2, 1, 2, 0, 0, 0) := rfl
theorem fL_law_743 : fetch tL_law 743 = some (.aload_n 0, 1, 0, 0, 0, 0) := rfl
theorem fL_law_744 : fetch tL_law 744 = some (.iload_n 3, 1, 3, 0, 0, 0) := rfl
theorem fL_law_745 : fetch tL_law 745 = some (.iconst 1, 1, 0, 0, 1, 0) := rfl
theorem fL_law_746 : fetch tL_law 746 = some (.iadd, 1, 0, 0, 0, 0) := rfl
theorem fL_law_747 : fetch tL_law 747 = some (.iaload, 1, 0, 0, 0, 0) := rfl
theorem fL_law_748 : fetch tL_law 748 = some (.invokevirtual 99, 3, 39, 4, 0, 0) := rfl
theorem fL_law_751 : fetch tL_law 751 = some (.if_icmp .eq 199, 3, 950, 0, 0, 0) := rfl
theorem fL_law_754 : fetch tL_law 754 = some (.iconst 0, 1, 0, 0, 0, 0) := rfl
theorem fL_law_755 : fetch tL_law 755 = some (.ireturn, 1, 0, 0, 0, 0) := rfl
theorem fL_law_756 : fetch tL_law 756 = some (.aload_n 1, 1, 1, 0, 0, 0) := rfl
theorem fL_law_757 : fetch tL_law 757 = some (.aload_n 0, 1, 0, 0, 0, 0) := rfl
theorem fL_law_758 : fetch tL_law 758 = some (.iload_n 3, 1, 3, 0, 0, 0) := rfl
theorem fL_law_759 : fetch tL_law 759 = some (.iconst 1, 1, 0, 0, 1, 0) := rfl
theorem fL_law_760 : fetch tL_law 760 = some (.iadd, 1, 0, 0, 0, 0) := rfl
theorem fL_law_761 : fetch tL_law 761 = some (.iaload, 1, 0, 0, 0, 0) := rfl
theorem fL_law_762 : fetch tL_law 762 = some (.invokevirtual 100, 3, 40, 3, 0, 0) := rfl
theorem fL_law_765 : fetch tL_law 765 = some (.aload_n 2, 1, 2, 0, 0, 0) := rfl
theorem fL_law_766 : fetch tL_law 766 = some (.aload_n 0, 1, 0, 0, 0, 0) := rfl
theorem fL_law_767 : fetch tL_law 767 = some (.iload_n 3, 1, 3, 0, 0, 0) := rfl
theorem fL_law_768 : fetch tL_law 768 = some (.iconst 1, 1, 0, 0, 1, 0) := rfl
theorem fL_law_769 : fetch tL_law 769 = some (.iadd, 1, 0, 0, 0, 0) := rfl
theorem fL_law_770 : fetch tL_law 770 = some (.iaload, 1, 0, 0, 0, 0) := rfl
theorem fL_law_771 : fetch tL_law 771 = some (.invokevirtual 103, 3, 41, 4, 0, 0) := rfl
theorem fL_law_774 : fetch tL_law 774 = some (.if_icmp .eq 176, 3, 950, 0, 0, 0) := rfl
theorem fL_law_777 : fetch tL_law 777 = some (.iconst 0, 1, 0, 0, 0, 0) := rfl
theorem fL_law_778 : fetch tL_law 778 = some (.ireturn, 1, 0, 0, 0, 0) := rfl
theorem fL_law_779 : fetch tL_law 779 = some (.aload_n 1, 1, 1, 0, 0, 0) := rfl
theorem fL_law_780 : fetch tL_law 780 = some (.aload_n 0, 1, 0, 0, 0, 0) := rfl
theorem fL_law_781 : fetch tL_law 781 = some (.iload_n 3, 1, 3, 0, 0, 0) := rfl
theorem fL_law_782 : fetch tL_law 782 = some (.iconst 1, 1, 0, 0, 1, 0) := rfl
theorem fL_law_783 : fetch tL_law 783 = some (.iadd, 1, 0, 0, 0, 0) := rfl
theorem fL_law_784 : fetch tL_law 784 = some (.iaload, 1, 0, 0, 0, 0) := rfl
theorem fL_law_785 : fetch tL_law 785 = some (.invokevirtual 104, 3, 42, 3, 0, 0) := rfl
theorem fL_law_788 : fetch tL_law 788 = some (.aload_n 2, 1, 2, 0, 0, 0) := rfl
theorem fL_law_789 : fetch tL_law 789 = some (.aload_n 0, 1, 0, 0, 0, 0) := rfl
theorem fL_law_790 : fetch tL_law 790 = some (.iload_n 3, 1, 3, 0, 0, 0) := rfl
theorem fL_law_791 : fetch tL_law 791 = some (.iconst 1, 1, 0, 0, 1, 0) := rfl
theorem fL_law_792 : fetch tL_law 792 = some (.iadd, 1, 0, 0, 0, 0) := rfl
theorem fL_law_793 : fetch tL_law 793 = some (.iaload, 1, 0, 0, 0, 0) := rfl
theorem fL_law_794 : fetch tL_law 794 = some (.invokevirtual 107, 3, 43, 4, 0, 0) := rfl
theorem fL_law_797 : fetch tL_law 797 = some (.if_icmp .eq 153, 3, 950, 0, 0, 0) := rfl
theorem fL_law_800 : fetch tL_law 800 = some (.iconst 0, 1, 0, 0, 0, 0) := rfl
theorem fL_law_801 : fetch tL_law 801 = some (.ireturn, 1, 0, 0, 0, 0) := rfl
theorem fL_law_802 : fetch tL_law 802 = some (.aload_n 1, 1, 1, 0, 0, 0) := rfl
theorem fL_law_803 : fetch tL_law 803 = some (.invokevirtual 108, 3, 44, 3, 0, 0) := rfl
theorem fL_law_806 : fetch tL_law 806 = some (.aload_n 2, 1, 2, 0, 0, 0) := rfl
theorem fL_law_807 : fetch tL_law 807 = some (.invokevirtual 111, 3, 45, 4, 0, 0) := rfl
theorem fL_law_810 : fetch tL_law 810 = some (.if_icmp .eq 140, 3, 950, 0, 0, 0) := rfl
theorem fL_law_813 : fetch tL_law 813 = some (.iconst 0, 1, 0, 0, 0, 0) := rfl
theorem fL_law_814 : fetch tL_law 814 = some (.ireturn, 1, 0, 0, 0, 0) := rfl
theorem fL_law_815 : fetch tL_law 815 = some (.aload_n 1, 1, 1, 0, 0, 0) := rfl
theorem fL_law_816 : fetch tL_law 816 = some (.aload_n 0, 1, 0, 0, 0, 0) := rfl
theorem fL_law_817 : fetch tL_law 817 = some (.iload_n 3, 1, 3, 0, 0, 0) := rfl
theorem fL_law_818 : fetch tL_law 818 = some (.iconst 1, 1, 0, 0, 1, 0) := rfl
theorem fL_law_819 : fetch tL_law 819 = some (.iadd, 1, 0, 0, 0, 0) := rfl
theorem fL_law_820 : fetch tL_law 820 = some (.iaload, 1, 0, 0, 0, 0) := rfl
theorem fL_law_821 : fetch tL_law 821 = some (.invokevirtual 112, 3, 46, 3, 0, 0) := rfl
theorem fL_law_824 : fetch tL_law 824 = some (.aload_n 2, 1, 2, 0, 0, 0) := rfl
theorem fL_law_825 : fetch tL_law 825 = some (.aload_n 0, 1, 0, 0, 0, 0) := rfl
theorem fL_law_826 : fetch tL_law 826 = some (.iload_n 3, 1, 3, 0, 0, 0) := rfl
theorem fL_law_827 : fetch tL_law 827 = some (.iconst 1, 1, 0, 0, 1, 0) := rfl
theorem fL_law_828 : fetch tL_law 828 = some (.iadd, 1, 0, 0, 0, 0) := rfl
theorem fL_law_829 : fetch tL_law 829 = some (.iaload, 1, 0, 0, 0, 0) := rfl
theorem fL_law_830 : fetch tL_law 830 = some (.invokevirtual 115, 3, 47, 4, 0, 0) := rfl
theorem fL_law_833 : fetch tL_law 833 = some (.if_icmp .eq 117, 3, 950, 0, 0, 0) := rfl
theorem fL_law_836 : fetch tL_law 836 = some (.iconst 0, 1, 0, 0, 0, 0) := rfl
theorem fL_law_837 : fetch tL_law 837 = some (.ireturn, 1, 0, 0, 0, 0) := rfl
theorem fL_law_838 : fetch tL_law 838 = some (.aload_n 1, 1, 1, 0, 0, 0) := rfl
theorem fL_law_839 : fetch tL_law 839 = some (.aload_n 0, 1, 0, 0, 0, 0) := rfl
theorem fL_law_840 : fetch tL_law 840 = some (.iload_n 3, 1, 3, 0, 0, 0) := rfl
theorem fL_law_841 : fetch tL_law 841 = some (.iconst 1, 1, 0, 0, 1, 0) := rfl
theorem fL_law_842 : fetch tL_law 842 = some (.iadd, 1, 0, 0, 0, 0) := rfl
theorem fL_law_843 : fetch tL_law 843 = some (.iaload, 1, 0, 0, 0, 0) := rfl
theorem fL_law_844 : fetch tL_law 844 = some (.invokevirtual 116, 3, 48, 3, 0, 0) := rfl
theorem fL_law_847 : fetch tL_law 847 = some (.aload_n 2, 1, 2, 0, 0, 0) := rfl
theorem fL_law_848 : fetch tL_law 848 = some (.aload_n 0, 1, 0, 0, 0, 0) := rfl
theorem fL_law_849 : fetch tL_law 849 = some (.iload_n 3, 1, 3, 0, 0, 0) := rfl
theorem fL_law_850 : fetch tL_law 850 = some (.iconst 1, 1, 0, 0, 1, 0) := rfl
theorem fL_law_851 : fetch tL_law 851 = some (.iadd, 1, 0, 0, 0, 0) := rfl
theorem fL_law_852 : fetch tL_law 852 = some (.iaload, 1, 0, 0, 0, 0) := rfl
theorem fL_law_853 : fetch tL_law 853 = some (.invokevirtual 119, 3, 49, 4, 0, 0) := rfl
theorem fL_law_856 : fetch tL_law 856 = some (.if_icmp .eq 94, 3, 950, 0, 0, 0) := rfl
theorem fL_law_859 : fetch tL_law 859 = some (.iconst 0, 1, 0, 0, 0, 0) := rfl
theorem fL_law_860 : fetch tL_law 860 = some (.ireturn, 1, 0, 0, 0, 0) := rfl
theorem fL_law_861 : fetch tL_law 861 = some (.aload_n 1, 1, 1, 0, 0, 0) := rfl
theorem fL_law_862 : fetch tL_law 862 = some (.invokevirtual 120, 3, 50, 3, 0, 0) := rfl
theorem fL_law_865 : fetch tL_law 865 = some (.aload_n 2, 1, 2, 0, 0, 0) := rfl
theorem fL_law_866 : fetch tL_law 866 = some (.invokevirtual 123, 3, 51, 4, 0, 0) := rfl
theorem fL_law_869 : fetch tL_law 869 = some (.if_icmp .eq 81, 3, 950, 0, 0, 0) := rfl
theorem fL_law_872 : fetch tL_law 872 = some (.iconst 0, 1, 0, 0, 0, 0) := rfl
theorem fL_law_873 : fetch tL_law 873 = some (.ireturn, 1, 0, 0, 0, 0) := rfl
theorem fL_law_874 : fetch tL_law 874 = some (.aload_n 1, 1, 1, 0, 0, 0) := rfl
theorem fL_law_875 : fetch tL_law 875 = some (.aload_n 0, 1, 0, 0, 0, 0) := rfl
theorem fL_law_876 : fetch tL_law 876 = some (.iload_n 3, 1, 3, 0, 0, 0) := rfl
theorem fL_law_877 : fetch tL_law 877 = some (.iconst 1, 1, 0, 0, 1, 0) := rfl
theorem fL_law_878 : fetch tL_law 878 = some (.iadd, 1, 0, 0, 0, 0) := rfl
theorem fL_law_879 : fetch tL_law 879 = some (.iaload, 1, 0, 0, 0, 0) := rfl
theorem fL_law_880 : fetch tL_law 880 = some (.invokevirtual 124, 3, 52, 3, 0, 0) := rfl
theorem fL_law_883 : fetch tL_law 883 = some (.aload_n 2, 1, 2, 0, 0, 0) := rfl
theorem fL_law_884 : fetch tL_law 884 = some (.aload_n 0, 1, 0, 0, 0, 0) := rfl
theorem fL_law_885 : fetch tL_law 885 = some (.iload_n 3, 1, 3, 0, 0, 0) := rfl
theorem fL_law_886 : fetch tL_law 886 = some (.iconst 1, 1, 0, 0, 1, 0) := rfl
theorem fL_law_887 : fetch tL_law 887 = some (.iadd, 1, 0, 0, 0, 0) := rfl
theorem fL_law_888 : fetch tL_law 888 = some (.iaload, 1, 0, 0, 0, 0) := rfl
theorem fL_law_889 : fetch tL_law 889 = some (.invokevirtual 127, 3, 53, 4, 0, 0) := rfl
theorem fL_law_892 : fetch tL_law 892 = some (.if_icmp .eq 58, 3, 950, 0, 0, 0) := rfl
theorem fL_law_895 : fetch tL_law 895 = some (.iconst 0, 1, 0, 0, 0, 0) := rfl
theorem fL_law_896 : fetch tL_law 896 = some (.ireturn, 1, 0, 0, 0, 0) := rfl
theorem fL_law_897 : fetch tL_law 897 = some (.aload_n 1, 1, 1, 0, 0, 0) := rfl
theorem fL_law_898 : fetch tL_law 898 = some (.invokevirtual 128, 3, 54, 3, 0, 0) := rfl
theorem fL_law_901 : fetch tL_law 901 = some (.aload_n 2, 1, 2, 0, 0, 0) := rfl
theorem fL_law_902 : fetch tL_law 902 = some (.invokevirtual 131, 3, 55, 4, 0, 0) := rfl
theorem fL_law_905 : fetch tL_law 905 = some (.if_icmp .eq 45, 3, 950, 0, 0, 0) := rfl
theorem fL_law_908 : fetch tL_law 908 = some (.iconst 0, 1, 0, 0, 0, 0) := rfl
theorem fL_law_909 : fetch tL_law 909 = some (.ireturn, 1, 0, 0, 0, 0) := rfl
theorem fL_law_910 : fetch tL_law 910 = some (.aload_n 1, 1, 1, 0, 0, 0) := rfl
theorem fL_law_911 : fetch tL_law 911 = some (.invokevirtual 132, 3, 56, 3, 0, 0) := rfl
theorem fL_law_914 : fetch tL_law 914 = some (.aload_n 2, 1, 2, 0, 0, 0) := rfl
theorem fL_law_915 : fetch tL_law 915 = some (.invokevirtual 135, 3, 57, 4, 0, 0) := rfl
theorem fL_law_918 : fetch tL_law 918 = some (.if_icmp .eq 32, 3, 950, 0, 0, 0) := rfl
theorem fL_law_921 : fetch tL_law 921 = some (.iconst 0, 1, 0, 0, 0, 0) := rfl
theorem fL_law_922 : fetch tL_law 922 = some (.ireturn, 1, 0, 0, 0, 0) := rfl
theorem fL_law_923 : fetch tL_law 923 = some (.aload_n 1, 1, 1, 0, 0, 0) := rfl
theorem fL_law_924 : fetch tL_law 924 = some (.invokevirtual 136, 3, 58, 3, 0, 0) := rfl
theorem fL_law_927 : fetch tL_law 927 = some (.aload_n 2, 1, 2, 0, 0, 0) := rfl
theorem fL_law_928 : fetch tL_law 928 = some (.invokevirtual 139, 3, 59, 4, 0, 0) := rfl
theorem fL_law_931 : fetch tL_law 931 = some (.if_icmp .eq 19, 3, 950, 0, 0, 0) := rfl
theorem fL_law_934 : fetch tL_law 934 = some (.iconst 0, 1, 0, 0, 0, 0) := rfl
theorem fL_law_935 : fetch tL_law 935 = some (.ireturn, 1, 0, 0, 0, 0) := rfl
theorem fL_law_936 : fetch tL_law 936 = some (.aload_n 1, 1, 1, 0, 0, 0) := rfl
theorem fL_law_937 : fetch tL_law 937 = some (.invokevirtual 140, 3, 60, 3, 0, 0) := rfl
theorem fL_law_940 : fetch tL_law 940 = some (.aload_n 2, 1, 2, 0, 0, 0) := rfl
theorem fL_law_941 : fetch tL_law 941 = some (.invokevirtual 144, 3, 61, 4, 0, 0) := rfl
theorem fL_law_944 : fetch tL_law 944 = some (.lcmp, 1, 0, 0, 0, 0) := rfl
theorem fL_law_945 : fetch tL_law 945 = some (.ifCond .eq 5, 3, 950, 0, 0, 0) := rfl
theorem fL_law_948 : fetch tL_law 948 = some (.iconst 0, 1, 0, 0, 0, 0) := rfl
theorem fL_law_949 : fetch tL_law 949 = some (.ireturn, 1, 0, 0, 0, 0) := rfl
theorem fL_law_950 : fetch tL_law 950 = some (.iinc 3 5, 3, 3, 0, 5, 0) := rfl
theorem fL_law_953 : fetch tL_law 953 = some (.goto (-935), 3, 18, 0, 0, 0) := rfl
theorem fL_law_956 : fetch tL_law 956 = some (.iconst 1, 1, 0, 0, 1, 0) := rfl
theorem fL_law_957 : fetch tL_law 957 = some (.ireturn, 1, 0, 0, 0, 0) := rfl
end TABS
