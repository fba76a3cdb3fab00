section TABS
def tX0_copyFrom : List (Nat × TE) := [(0, .iconst 0, 1, 0, 0, 0, 0), (1, .istore_n 2, 1, 2, 0, 0, 0), (2, .iload_n 2, 1, 2, 0, 0, 0), (3, .bipush 12, 2, 0, 0, 12, 0), (5, .if_icmp .ge 57, 3, 62, 0, 0, 0), (8, .aload_n 0, 1, 0, 0, 0, 0), (9, .getfield 9, 3, 0, 0, 0, 0), (12, .iload_n 2, 1, 2, 0, 0, 0), (13, .aload_n 1, 1, 1, 0, 0, 0), (14, .getfield 9, 3, 0, 0, 0, 0), (17, .iload_n 2, 1, 2, 0, 0, 0), (18, .iaload, 1, 0, 0, 0, 0), (19, .iastore, 1, 0, 0, 0, 0), (20, .aload_n 0, 1, 0, 0, 0, 0), (21, .getfield 15, 3, 0, 1, 0, 0), (24, .iload_n 2, 1, 2, 0, 0, 0), (25, .aload_n 1, 1, 1, 0, 0, 0), (26, .getfield 15, 3, 0, 1, 0, 0), (29, .iload_n 2, 1, 2, 0, 0, 0), (30, .iaload, 1, 0, 0, 0, 0), (31, .iastore, 1, 0, 0, 0, 0), (32, .aload_n 0, 1, 0, 0, 0, 0), (33, .getfield 18, 3, 0, 2, 0, 0), (36, .iload_n 2, 1, 2, 0, 0, 0), (37, .aload_n 1, 1, 1, 0, 0, 0), (38, .getfield 18, 3, 0, 2, 0, 0), (41, .iload_n 2, 1, 2, 0, 0, 0), (42, .iaload, 1, 0, 0, 0, 0), (43, .iastore, 1, 0, 0, 0, 0), (44, .aload_n 0, 1, 0, 0, 0, 0), (45, .getfield 21, 3, 0, 3, 0, 0), (48, .iload_n 2, 1, 2, 0, 0, 0), (49, .aload_n 1, 1, 1, 0, 0, 0), (50, .getfield 21, 3, 0, 3, 0, 0), (53, .iload_n 2, 1, 2, 0, 0, 0), (54, .iaload, 1, 0, 0, 0, 0), (55, .iastore, 1, 0, 0, 0, 0), (56, .iinc 2 1, 3, 2, 0, 1, 0), (59, .goto (-57), 3, 2, 0, 0, 0), (62, .iconst 0, 1, 0, 0, 0, 0), (63, .istore_n 2, 1, 2, 0, 0, 0), (64, .iload_n 2, 1, 2, 0, 0, 0), (65, .bipush 8, 2, 0, 0, 8, 0), (67, .if_icmp .ge 21, 3, 88, 0, 0, 0), (70, .aload_n 0, 1, 0, 0, 0, 0), (71, .getfield 31, 3, 0, 6, 0, 0), (74, .iload_n 2, 1, 2, 0, 0, 0), (75, .aload_n 1, 1, 1, 0, 0, 0), (76, .getfield 31, 3, 0, 6, 0, 0), (79, .iload_n 2, 1, 2, 0, 0, 0), (80, .iaload, 1, 0, 0, 0, 0), (81, .iastore, 1, 0, 0, 0, 0), (82, .iinc 2 1, 3, 2, 0, 1, 0), (85, .goto (-21), 3, 64, 0, 0, 0), (88, .aload_n 0, 1, 0, 0, 0, 0), (89, .aload_n 1, 1, 1, 0, 0, 0), (90, .getfield 24, 3, 0, 4, 0, 0), (93, .putfield 24, 3, 0, 4, 0, 0), (96, .aload_n 0, 1, 0, 0, 0, 0), (97, .aload_n 1, 1, 1, 0, 0, 0), (98, .getfield 28, 3, 0, 5, 0, 0), (101, .putfield 28, 3, 0, 5, 0, 0), (104, .aload_n 0, 1, 0, 0, 0, 0), (105, .aload_n 1, 1, 1, 0, 0, 0), (106, .getfield 34, 3, 0, 7, 0, 0), (109, .putfield 34, 3, 0, 7, 0, 0), (112, .return_, 1, 0, 0, 0, 0)]
theorem tkX0_copyFrom : tOk cX0_copyFrom "RumourSource$Scene" 3 tX0_copyFrom = true := by decide +kernel
theorem fX0_copyFrom_0 : fetch tX0_copyFrom 0 = some (.iconst 0, 1, 0, 0, 0, 0) := rfl
theorem fX0_copyFrom_1 : fetch tX0_copyFrom 1 = some (.istore_n 2, 1, 2, 0, 0, 0) := rfl
theorem fX0_copyFrom_2 : fetch tX0_copyFrom 2 = some (.iload_n 2, 1, 2, 0, 0, 0) := rfl
theorem fX0_copyFrom_3 : fetch tX0_copyFrom 3 = some (.bipush 12, 2, 0, 0, 12, 0) := rfl
theorem fX0_copyFrom_5 : fetch tX0_copyFrom 5 = some (.if_icmp .ge 57, 3, 62, 0, 0, 0) := rfl
theorem fX0_copyFrom_8 : fetch tX0_copyFrom 8 = some (.aload_n 0, 1, 0, 0, 0, 0) := rfl
theorem fX0_copyFrom_9 : fetch tX0_copyFrom 9 = some (.getfield 9, 3, 0, 0, 0, 0) := rfl
theorem fX0_copyFrom_12 : fetch tX0_copyFrom 12 = some (.iload_n 2, 1, 2, 0, 0, 0) := rfl
theorem fX0_copyFrom_13 : fetch tX0_copyFrom 13 = some (.aload_n 1, 1, 1, 0, 0, 0) := rfl
theorem fX0_copyFrom_14 : fetch tX0_copyFrom 14 = some (.getfield 9, 3, 0, 0, 0, 0) := rfl
theorem fX0_copyFrom_17 : fetch tX0_copyFrom 17 = some (.iload_n 2, 1, 2, 0, 0, 0) := rfl
theorem fX0_copyFrom_18 : fetch tX0_copyFrom 18 = some (.iaload, 1, 0, 0, 0, 0) := rfl
theorem fX0_copyFrom_19 : fetch tX0_copyFrom 19 = some (.iastore, 1, 0, 0, 0, 0) := rfl
theorem fX0_copyFrom_20 : fetch tX0_copyFrom 20 = some (.aload_n 0, 1, 0, 0, 0, 0) := rfl
theorem fX0_copyFrom_21 : fetch tX0_copyFrom 21 = some (.getfield 15, 3, 0, 1, 0, 0) := rfl
theorem fX0_copyFrom_24 : fetch tX0_copyFrom 24 = some (.iload_n 2, 1, 2, 0, 0, 0) := rfl
theorem fX0_copyFrom_25 : fetch tX0_copyFrom 25 = some (.aload_n 1, 1, 1, 0, 0, 0) := rfl
theorem fX0_copyFrom_26 : fetch tX0_copyFrom 26 = some (.getfield 15, 3, 0, 1, 0, 0) := rfl
theorem fX0_copyFrom_29 : fetch tX0_copyFrom 29 = some (.iload_n 2, 1, 2, 0, 0, 0) := rfl
theorem fX0_copyFrom_30 : fetch tX0_copyFrom 30 = some (.iaload, 1, 0, 0, 0, 0) := rfl
theorem fX0_copyFrom_31 : fetch tX0_copyFrom 31 = some (.iastore, 1, 0, 0, 0, 0) := rfl
theorem fX0_copyFrom_32 : fetch tX0_copyFrom 32 = some (.aload_n 0, 1, 0, 0, 0, 0) := rfl
theorem fX0_copyFrom_33 : fetch tX0_copyFrom 33 = some (.getfield 18, 3, 0, 2, 0, 0) := rfl
theorem fX0_copyFrom_36 : fetch tX0_copyFrom 36 = some (.iload_n 2, 1, 2, 0, 0, 0) := rfl
theorem fX0_copyFrom_37 : fetch tX0_copyFrom 37 = some (.aload_n 1, 1, 1, 0, 0, 0) := rfl
theorem fX0_copyFrom_38 : fetch tX0_copyFrom 38 = some (.getfield 18, 3, 0, 2, 0, 0) := rfl
theorem fX0_copyFrom_41 : fetch tX0_copyFrom 41 = some (.iload_n 2, 1, 2, 0, 0, 0) := rfl
theorem fX0_copyFrom_42 : fetch tX0_copyFrom 42 = some (.iaload, 1, 0, 0, 0, 0) := rfl
theorem fX0_copyFrom_43 : fetch tX0_copyFrom 43 = some (.iastore, 1, 0, 0, 0, 0) := rfl
theorem fX0_copyFrom_44 : fetch tX0_copyFrom 44 = some (.aload_n 0, 1, 0, 0, 0, 0) := rfl
theorem fX0_copyFrom_45 : fetch tX0_copyFrom 45 = some (.getfield 21, 3, 0, 3, 0, 0) := rfl
theorem fX0_copyFrom_48 : fetch tX0_copyFrom 48 = some (.iload_n 2, 1, 2, 0, 0, 0) := rfl
theorem fX0_copyFrom_49 : fetch tX0_copyFrom 49 = some (.aload_n 1, 1, 1, 0, 0, 0) := rfl
theorem fX0_copyFrom_50 : fetch tX0_copyFrom 50 = some (.getfield 21, 3, 0, 3, 0, 0) := rfl
theorem fX0_copyFrom_53 : fetch tX0_copyFrom 53 = some (.iload_n 2, 1, 2, 0, 0, 0) := rfl
theorem fX0_copyFrom_54 : fetch tX0_copyFrom 54 = some (.iaload, 1, 0, 0, 0, 0) := rfl
theorem fX0_copyFrom_55 : fetch tX0_copyFrom 55 = some (.iastore, 1, 0, 0, 0, 0) := rfl
theorem fX0_copyFrom_56 : fetch tX0_copyFrom 56 = some (.iinc 2 1, 3, 2, 0, 1, 0) := rfl
theorem fX0_copyFrom_59 : fetch tX0_copyFrom 59 = some (.goto (-57), 3, 2, 0, 0, 0) := rfl
theorem fX0_copyFrom_62 : fetch tX0_copyFrom 62 = some (.iconst 0, 1, 0, 0, 0, 0) := rfl
theorem fX0_copyFrom_63 : fetch tX0_copyFrom 63 = some (.istore_n 2, 1, 2, 0, 0, 0) := rfl
theorem fX0_copyFrom_64 : fetch tX0_copyFrom 64 = some (.iload_n 2, 1, 2, 0, 0, 0) := rfl
theorem fX0_copyFrom_65 : fetch tX0_copyFrom 65 = some (.bipush 8, 2, 0, 0, 8, 0) := rfl
theorem fX0_copyFrom_67 : fetch tX0_copyFrom 67 = some (.if_icmp .ge 21, 3, 88, 0, 0, 0) := rfl
theorem fX0_copyFrom_70 : fetch tX0_copyFrom 70 = some (.aload_n 0, 1, 0, 0, 0, 0) := rfl
theorem fX0_copyFrom_71 : fetch tX0_copyFrom 71 = some (.getfield 31, 3, 0, 6, 0, 0) := rfl
theorem fX0_copyFrom_74 : fetch tX0_copyFrom 74 = some (.iload_n 2, 1, 2, 0, 0, 0) := rfl
theorem fX0_copyFrom_75 : fetch tX0_copyFrom 75 = some (.aload_n 1, 1, 1, 0, 0, 0) := rfl
theorem fX0_copyFrom_76 : fetch tX0_copyFrom 76 = some (.getfield 31, 3, 0, 6, 0, 0) := rfl
theorem fX0_copyFrom_79 : fetch tX0_copyFrom 79 = some (.iload_n 2, 1, 2, 0, 0, 0) := rfl
theorem fX0_copyFrom_80 : fetch tX0_copyFrom 80 = some (.iaload, 1, 0, 0, 0, 0) := rfl
theorem fX0_copyFrom_81 : fetch tX0_copyFrom 81 = some (.iastore, 1, 0, 0, 0, 0) := rfl
theorem fX0_copyFrom_82 : fetch tX0_copyFrom 82 = some (.iinc 2 1, 3, 2, 0, 1, 0) := rfl
theorem fX0_copyFrom_85 : fetch tX0_copyFrom 85 = some (.goto (-21), 3, 64, 0, 0, 0) := rfl
theorem fX0_copyFrom_88 : fetch tX0_copyFrom 88 = some (.aload_n 0, 1, 0, 0, 0, 0) := rfl
theorem fX0_copyFrom_89 : fetch tX0_copyFrom 89 = some (.aload_n 1, 1, 1, 0, 0, 0) := rfl
theorem fX0_copyFrom_90 : fetch tX0_copyFrom 90 = some (.getfield 24, 3, 0, 4, 0, 0) := rfl
theorem fX0_copyFrom_93 : fetch tX0_copyFrom 93 = some (.putfield 24, 3, 0, 4, 0, 0) := rfl
theorem fX0_copyFrom_96 : fetch tX0_copyFrom 96 = some (.aload_n 0, 1, 0, 0, 0, 0) := rfl
theorem fX0_copyFrom_97 : fetch tX0_copyFrom 97 = some (.aload_n 1, 1, 1, 0, 0, 0) := rfl
theorem fX0_copyFrom_98 : fetch tX0_copyFrom 98 = some (.getfield 28, 3, 0, 5, 0, 0) := rfl
theorem fX0_copyFrom_101 : fetch tX0_copyFrom 101 = some (.putfield 28, 3, 0, 5, 0, 0) := rfl
theorem fX0_copyFrom_104 : fetch tX0_copyFrom 104 = some (.aload_n 0, 1, 0, 0, 0, 0) := rfl
theorem fX0_copyFrom_105 : fetch tX0_copyFrom 105 = some (.aload_n 1, 1, 1, 0, 0, 0) := rfl
theorem fX0_copyFrom_106 : fetch tX0_copyFrom 106 = some (.getfield 34, 3, 0, 7, 0, 0) := rfl
theorem fX0_copyFrom_109 : fetch tX0_copyFrom 109 = some (.putfield 34, 3, 0, 7, 0, 0) := rfl
theorem fX0_copyFrom_112 : fetch tX0_copyFrom 112 = some (.return_, 1, 0, 0, 0, 0) := rfl
def tX0_hasEdge : List (Nat × TE) := [(0, .iload_n 1, 1, 1, 0, 0, 0), (1, .ifCond .lt 15, 3, 16, 0, 0, 0), (4, .iload_n 1, 1, 1, 0, 0, 0), (5, .aload_n 0, 1, 0, 0, 0, 0), (6, .getfield 24, 3, 0, 4, 0, 0), (9, .if_icmp .ge 7, 3, 16, 0, 0, 0), (12, .iconst 1, 1, 0, 0, 1, 0), (13, .goto 4, 3, 17, 0, 0, 0), (16, .iconst 0, 1, 0, 0, 0, 0), (17, .ireturn, 1, 0, 0, 0, 0)]
theorem tkX0_hasEdge : tOk cX0_hasEdge "RumourSource$Scene" 2 tX0_hasEdge = true := by decide +kernel
theorem fX0_hasEdge_0 : fetch tX0_hasEdge 0 = some (.iload_n 1, 1, 1, 0, 0, 0) := rfl
theorem fX0_hasEdge_1 : fetch tX0_hasEdge 1 = some (.ifCond .lt 15, 3, 16, 0, 0, 0) := rfl
theorem fX0_hasEdge_4 : fetch tX0_hasEdge 4 = some (.iload_n 1, 1, 1, 0, 0, 0) := rfl
theorem fX0_hasEdge_5 : fetch tX0_hasEdge 5 = some (.aload_n 0, 1, 0, 0, 0, 0) := rfl
theorem fX0_hasEdge_6 : fetch tX0_hasEdge 6 = some (.getfield 24, 3, 0, 4, 0, 0) := rfl
theorem fX0_hasEdge_9 : fetch tX0_hasEdge 9 = some (.if_icmp .ge 7, 3, 16, 0, 0, 0) := rfl
theorem fX0_hasEdge_12 : fetch tX0_hasEdge 12 = some (.iconst 1, 1, 0, 0, 1, 0) := rfl
theorem fX0_hasEdge_13 : fetch tX0_hasEdge 13 = some (.goto 4, 3, 17, 0, 0, 0) := rfl
theorem fX0_hasEdge_16 : fetch tX0_hasEdge 16 = some (.iconst 0, 1, 0, 0, 0, 0) := rfl
theorem fX0_hasEdge_17 : fetch tX0_hasEdge 17 = some (.ireturn, 1, 0, 0, 0, 0) := rfl
def tX0_isFull : List (Nat × TE) := [(0, .aload_n 0, 1, 0, 0, 0, 0), (1, .getfield 24, 3, 0, 4, 0, 0), (4, .bipush 12, 2, 0, 0, 12, 0), (6, .if_icmp .lt 7, 3, 13, 0, 0, 0), (9, .iconst 1, 1, 0, 0, 1, 0), (10, .goto 4, 3, 14, 0, 0, 0), (13, .iconst 0, 1, 0, 0, 0, 0), (14, .ireturn, 1, 0, 0, 0, 0)]
theorem tkX0_isFull : tOk cX0_isFull "RumourSource$Scene" 1 tX0_isFull = true := by decide +kernel
theorem fX0_isFull_0 : fetch tX0_isFull 0 = some (.aload_n 0, 1, 0, 0, 0, 0) := rfl
theorem fX0_isFull_1 : fetch tX0_isFull 1 = some (.getfield 24, 3, 0, 4, 0, 0) := rfl
theorem fX0_isFull_4 : fetch tX0_isFull 4 = some (.bipush 12, 2, 0, 0, 12, 0) := rfl
theorem fX0_isFull_6 : fetch tX0_isFull 6 = some (.if_icmp .lt 7, 3, 13, 0, 0, 0) := rfl
theorem fX0_isFull_9 : fetch tX0_isFull 9 = some (.iconst 1, 1, 0, 0, 1, 0) := rfl
theorem fX0_isFull_10 : fetch tX0_isFull 10 = some (.goto 4, 3, 14, 0, 0, 0) := rfl
theorem fX0_isFull_13 : fetch tX0_isFull 13 = some (.iconst 0, 1, 0, 0, 0, 0) := rfl
theorem fX0_isFull_14 : fetch tX0_isFull 14 = some (.ireturn, 1, 0, 0, 0, 0) := rfl
def tX0_find : List (Nat × TE) := [(0, .iconst 0, 1, 0, 0, 0, 0), (1, .istore_n 3, 1, 3, 0, 0, 0), (2, .iload_n 3, 1, 3, 0, 0, 0), (3, .aload_n 0, 1, 0, 0, 0, 0), (4, .getfield 24, 3, 0, 4, 0, 0), (7, .if_icmp .ge 31, 3, 38, 0, 0, 0), (10, .aload_n 0, 1, 0, 0, 0, 0), (11, .getfield 9, 3, 0, 0, 0, 0), (14, .iload_n 3, 1, 3, 0, 0, 0), (15, .iaload, 1, 0, 0, 0, 0), (16, .iload_n 1, 1, 1, 0, 0, 0), (17, .if_icmp .ne 15, 3, 32, 0, 0, 0), (20, .aload_n 0, 1, 0, 0, 0, 0), (21, .getfield 15, 3, 0, 1, 0, 0), (24, .iload_n 3, 1, 3, 0, 0, 0), (25, .iaload, 1, 0, 0, 0, 0), (26, .iload_n 2, 1, 2, 0, 0, 0), (27, .if_icmp .ne 5, 3, 32, 0, 0, 0), (30, .iload_n 3, 1, 3, 0, 0, 0), (31, .ireturn, 1, 0, 0, 0, 0), (32, .iinc 3 1, 3, 3, 0, 1, 0), (35, .goto (-33), 3, 2, 0, 0, 0), (38, .iconst (-1), 1, 0, 0, (-1), 0), (39, .ireturn, 1, 0, 0, 0, 0)]
theorem tkX0_find : tOk cX0_find "RumourSource$Scene" 4 tX0_find = true := by decide +kernel
theorem fX0_find_0 : fetch tX0_find 0 = some (.iconst 0, 1, 0, 0, 0, 0) := rfl
theorem fX0_find_1 : fetch tX0_find 1 = some (.istore_n 3, 1, 3, 0, 0, 0) := rfl
theorem fX0_find_2 : fetch tX0_find 2 = some (.iload_n 3, 1, 3, 0, 0, 0) := rfl
theorem fX0_find_3 : fetch tX0_find 3 = some (.aload_n 0, 1, 0, 0, 0, 0) := rfl
theorem fX0_find_4 : fetch tX0_find 4 = some (.getfield 24, 3, 0, 4, 0, 0) := rfl
theorem fX0_find_7 : fetch tX0_find 7 = some (.if_icmp .ge 31, 3, 38, 0, 0, 0) := rfl
theorem fX0_find_10 : fetch tX0_find 10 = some (.aload_n 0, 1, 0, 0, 0, 0) := rfl
theorem fX0_find_11 : fetch tX0_find 11 = some (.getfield 9, 3, 0, 0, 0, 0) := rfl
theorem fX0_find_14 : fetch tX0_find 14 = some (.iload_n 3, 1, 3, 0, 0, 0) := rfl
theorem fX0_find_15 : fetch tX0_find 15 = some (.iaload, 1, 0, 0, 0, 0) := rfl
theorem fX0_find_16 : fetch tX0_find 16 = some (.iload_n 1, 1, 1, 0, 0, 0) := rfl
theorem fX0_find_17 : fetch tX0_find 17 = some (.if_icmp .ne 15, 3, 32, 0, 0, 0) := rfl
theorem fX0_find_20 : fetch tX0_find 20 = some (.aload_n 0, 1, 0, 0, 0, 0) := rfl
theorem fX0_find_21 : fetch tX0_find 21 = some (.getfield 15, 3, 0, 1, 0, 0) := rfl
theorem fX0_find_24 : fetch tX0_find 24 = some (.iload_n 3, 1, 3, 0, 0, 0) := rfl
theorem fX0_find_25 : fetch tX0_find 25 = some (.iaload, 1, 0, 0, 0, 0) := rfl
theorem fX0_find_26 : fetch tX0_find 26 = some (.iload_n 2, 1, 2, 0, 0, 0) := rfl
theorem fX0_find_27 : fetch tX0_find 27 = some (.if_icmp .ne 5, 3, 32, 0, 0, 0) := rfl
theorem fX0_find_30 : fetch tX0_find 30 = some (.iload_n 3, 1, 3, 0, 0, 0) := rfl
theorem fX0_find_31 : fetch tX0_find 31 = some (.ireturn, 1, 0, 0, 0, 0) := rfl
theorem fX0_find_32 : fetch tX0_find 32 = some (.iinc 3 1, 3, 3, 0, 1, 0) := rfl
theorem fX0_find_35 : fetch tX0_find 35 = some (.goto (-33), 3, 2, 0, 0, 0) := rfl
theorem fX0_find_38 : fetch tX0_find 38 = some (.iconst (-1), 1, 0, 0, (-1), 0) := rfl
theorem fX0_find_39 : fetch tX0_find 39 = some (.ireturn, 1, 0, 0, 0, 0) := rfl
def tX0_put : List (Nat × TE) := [(0, .aload_n 0, 1, 0, 0, 0, 0), (1, .iload_n 1, 1, 1, 0, 0, 0), (2, .iload_n 2, 1, 2, 0, 0, 0), (3, .invokevirtual 37, 3, 0, 0, 0, 0), (6, .istore 5, 2, 5, 0, 0, 0), (8, .iload 5, 2, 5, 0, 0, 0), (10, .iconst (-1), 1, 0, 0, (-1), 0), (11, .if_icmp .ne 58, 3, 69, 0, 0, 0), (14, .aload_n 0, 1, 0, 0, 0, 0), (15, .invokevirtual 41, 3, 1, 0, 0, 0), (18, .ifCond .ne 17, 3, 35, 0, 0, 0), (21, .iload_n 1, 1, 1, 0, 0, 0), (22, .invokestatic 45, 3, 2, 3, 0, 0), (25, .ifCond .eq 10, 3, 35, 0, 0, 0), (28, .iload_n 2, 1, 2, 0, 0, 0), (29, .invokestatic 45, 3, 2, 3, 0, 0), (32, .ifCond .ne 5, 3, 37, 0, 0, 0), (35, .iconst (-1), 1, 0, 0, (-1), 0), (36, .ireturn, 1, 0, 0, 0, 0), (37, .aload_n 0, 1, 0, 0, 0, 0), (38, .getfield 24, 3, 0, 4, 0, 0), (41, .istore 5, 2, 5, 0, 0, 0), (43, .aload_n 0, 1, 0, 0, 0, 0), (44, .getfield 9, 3, 0, 0, 0, 0), (47, .iload 5, 2, 5, 0, 0, 0), (49, .iload_n 1, 1, 1, 0, 0, 0), (50, .iastore, 1, 0, 0, 0, 0), (51, .aload_n 0, 1, 0, 0, 0, 0), (52, .getfield 15, 3, 0, 1, 0, 0), (55, .iload 5, 2, 5, 0, 0, 0), (57, .iload_n 2, 1, 2, 0, 0, 0), (58, .iastore, 1, 0, 0, 0, 0), (59, .aload_n 0, 1, 0, 0, 0, 0), (60, .dup, 1, 0, 0, 0, 0), (61, .getfield 24, 3, 0, 4, 0, 0), (64, .iconst 1, 1, 0, 0, 1, 0), (65, .iadd, 1, 0, 0, 0, 0), (66, .putfield 24, 3, 0, 4, 0, 0), (69, .aload_n 0, 1, 0, 0, 0, 0), (70, .getfield 18, 3, 0, 2, 0, 0), (73, .iload 5, 2, 5, 0, 0, 0), (75, .iload_n 3, 1, 3, 0, 0, 0), (76, .iastore, 1, 0, 0, 0, 0), (77, .aload_n 0, 1, 0, 0, 0, 0), (78, .getfield 21, 3, 0, 3, 0, 0), (81, .iload 5, 2, 5, 0, 0, 0), (83, .iload 4, 2, 4, 0, 0, 0), (85, .iastore, 1, 0, 0, 0, 0), (86, .iload 5, 2, 5, 0, 0, 0), (88, .ireturn, 1, 0, 0, 0, 0)]
theorem tkX0_put : tOk cX0_put "RumourSource$Scene" 6 tX0_put = true := by decide +kernel
theorem fX0_put_0 : fetch tX0_put 0 = some (.aload_n 0, 1, 0, 0, 0, 0) := rfl
theorem fX0_put_1 : fetch tX0_put 1 = some (.iload_n 1, 1, 1, 0, 0, 0) := rfl
theorem fX0_put_2 : fetch tX0_put 2 = some (.iload_n 2, 1, 2, 0, 0, 0) := rfl
theorem fX0_put_3 : fetch tX0_put 3 = some (.invokevirtual 37, 3, 0, 0, 0, 0) := rfl
theorem fX0_put_6 : fetch tX0_put 6 = some (.istore 5, 2, 5, 0, 0, 0) := rfl
theorem fX0_put_8 : fetch tX0_put 8 = some (.iload 5, 2, 5, 0, 0, 0) := rfl
theorem fX0_put_10 : fetch tX0_put 10 = some (.iconst (-1), 1, 0, 0, (-1), 0) := rfl
theorem fX0_put_11 : fetch tX0_put 11 = some (.if_icmp .ne 58, 3, 69, 0, 0, 0) := rfl
theorem fX0_put_14 : fetch tX0_put 14 = some (.aload_n 0, 1, 0, 0, 0, 0) := rfl
theorem fX0_put_15 : fetch tX0_put 15 = some (.invokevirtual 41, 3, 1, 0, 0, 0) := rfl
theorem fX0_put_18 : fetch tX0_put 18 = some (.ifCond .ne 17, 3, 35, 0, 0, 0) := rfl
theorem fX0_put_21 : fetch tX0_put 21 = some (.iload_n 1, 1, 1, 0, 0, 0) := rfl
theorem fX0_put_22 : fetch tX0_put 22 = some (.invokestatic 45, 3, 2, 3, 0, 0) := rfl
theorem fX0_put_25 : fetch tX0_put 25 = some (.ifCond .eq 10, 3, 35, 0, 0, 0) := rfl
theorem fX0_put_28 : fetch tX0_put 28 = some (.iload_n 2, 1, 2, 0, 0, 0) := rfl
theorem fX0_put_29 : fetch tX0_put 29 = some (.invokestatic 45, 3, 2, 3, 0, 0) := rfl
theorem fX0_put_32 : fetch tX0_put 32 = some (.ifCond .ne 5, 3, 37, 0, 0, 0) := rfl
theorem fX0_put_35 : fetch tX0_put 35 = some (.iconst (-1), 1, 0, 0, (-1), 0) := rfl
theorem fX0_put_36 : fetch tX0_put 36 = some (.ireturn, 1, 0, 0, 0, 0) := rfl
theorem fX0_put_37 : fetch tX0_put 37 = some (.aload_n 0, 1, 0, 0, 0, 0) := rfl
theorem fX0_put_38 : fetch tX0_put 38 = some (.getfield 24, 3, 0, 4, 0, 0) := rfl
theorem fX0_put_41 : fetch tX0_put 41 = some (.istore 5, 2, 5, 0, 0, 0) := rfl
theorem fX0_put_43 : fetch tX0_put 43 = some (.aload_n 0, 1, 0, 0, 0, 0) := rfl
theorem fX0_put_44 : fetch tX0_put 44 = some (.getfield 9, 3, 0, 0, 0, 0) := rfl
theorem fX0_put_47 : fetch tX0_put 47 = some (.iload 5, 2, 5, 0, 0, 0) := rfl
theorem fX0_put_49 : fetch tX0_put 49 = some (.iload_n 1, 1, 1, 0, 0, 0) := rfl
theorem fX0_put_50 : fetch tX0_put 50 = some (.iastore, 1, 0, 0, 0, 0) := rfl
theorem fX0_put_51 : fetch tX0_put 51 = some (.aload_n 0, 1, 0, 0, 0, 0) := rfl
theorem fX0_put_52 : fetch tX0_put 52 = some (.getfield 15, 3, 0, 1, 0, 0) := rfl
theorem fX0_put_55 : fetch tX0_put 55 = some (.iload 5, 2, 5, 0, 0, 0) := rfl
theorem fX0_put_57 : fetch tX0_put 57 = some (.iload_n 2, 1, 2, 0, 0, 0) := rfl
theorem fX0_put_58 : fetch tX0_put 58 = some (.iastore, 1, 0, 0, 0, 0) := rfl
theorem fX0_put_59 : fetch tX0_put 59 = some (.aload_n 0, 1, 0, 0, 0, 0) := rfl
theorem fX0_put_60 : fetch tX0_put 60 = some (.dup, 1, 0, 0, 0, 0) := rfl
theorem fX0_put_61 : fetch tX0_put 61 = some (.getfield 24, 3, 0, 4, 0, 0) := rfl
theorem fX0_put_64 : fetch tX0_put 64 = some (.iconst 1, 1, 0, 0, 1, 0) := rfl
theorem fX0_put_65 : fetch tX0_put 65 = some (.iadd, 1, 0, 0, 0, 0) := rfl
theorem fX0_put_66 : fetch tX0_put 66 = some (.putfield 24, 3, 0, 4, 0, 0) := rfl
theorem fX0_put_69 : fetch tX0_put 69 = some (.aload_n 0, 1, 0, 0, 0, 0) := rfl
theorem fX0_put_70 : fetch tX0_put 70 = some (.getfield 18, 3, 0, 2, 0, 0) := rfl
theorem fX0_put_73 : fetch tX0_put 73 = some (.iload 5, 2, 5, 0, 0, 0) := rfl
theorem fX0_put_75 : fetch tX0_put 75 = some (.iload_n 3, 1, 3, 0, 0, 0) := rfl
theorem fX0_put_76 : fetch tX0_put 76 = some (.iastore, 1, 0, 0, 0, 0) := rfl
theorem fX0_put_77 : fetch tX0_put 77 = some (.aload_n 0, 1, 0, 0, 0, 0) := rfl
theorem fX0_put_78 : fetch tX0_put 78 = some (.getfield 21, 3, 0, 3, 0, 0) := rfl
theorem fX0_put_81 : fetch tX0_put 81 = some (.iload 5, 2, 5, 0, 0, 0) := rfl
theorem fX0_put_83 : fetch tX0_put 83 = some (.iload 4, 2, 4, 0, 0, 0) := rfl
theorem fX0_put_85 : fetch tX0_put 85 = some (.iastore, 1, 0, 0, 0, 0) := rfl
theorem fX0_put_86 : fetch tX0_put 86 = some (.iload 5, 2, 5, 0, 0, 0) := rfl
theorem fX0_put_88 : fetch tX0_put 88 = some (.ireturn, 1, 0, 0, 0, 0) := rfl
def tX0_drop : List (Nat × TE) := [(0, .aload_n 0, 1, 0, 0, 0, 0), (1, .iload_n 1, 1, 1, 0, 0, 0), (2, .invokevirtual 49, 3, 0, 0, 0, 0), (5, .ifCond .ne 4, 3, 9, 0, 0, 0), (8, .return_, 1, 0, 0, 0, 0), (9, .aload_n 0, 1, 0, 0, 0, 0), (10, .dup, 1, 0, 0, 0, 0), (11, .getfield 24, 3, 0, 4, 0, 0), (14, .iconst 1, 1, 0, 0, 1, 0), (15, .isub, 1, 0, 0, 0, 0), (16, .putfield 24, 3, 0, 4, 0, 0), (19, .iload_n 1, 1, 1, 0, 0, 0), (20, .istore_n 2, 1, 2, 0, 0, 0), (21, .iload_n 2, 1, 2, 0, 0, 0), (22, .aload_n 0, 1, 0, 0, 0, 0), (23, .getfield 24, 3, 0, 4, 0, 0), (26, .if_icmp .ge 65, 3, 91, 0, 0, 0), (29, .aload_n 0, 1, 0, 0, 0, 0), (30, .getfield 9, 3, 0, 0, 0, 0), (33, .iload_n 2, 1, 2, 0, 0, 0), (34, .aload_n 0, 1, 0, 0, 0, 0), (35, .getfield 9, 3, 0, 0, 0, 0), (38, .iload_n 2, 1, 2, 0, 0, 0), (39, .iconst 1, 1, 0, 0, 1, 0), (40, .iadd, 1, 0, 0, 0, 0), (41, .iaload, 1, 0, 0, 0, 0), (42, .iastore, 1, 0, 0, 0, 0), (43, .aload_n 0, 1, 0, 0, 0, 0), (44, .getfield 15, 3, 0, 1, 0, 0), (47, .iload_n 2, 1, 2, 0, 0, 0), (48, .aload_n 0, 1, 0, 0, 0, 0), (49, .getfield 15, 3, 0, 1, 0, 0), (52, .iload_n 2, 1, 2, 0, 0, 0), (53, .iconst 1, 1, 0, 0, 1, 0), (54, .iadd, 1, 0, 0, 0, 0), (55, .iaload, 1, 0, 0, 0, 0), (56, .iastore, 1, 0, 0, 0, 0), (57, .aload_n 0, 1, 0, 0, 0, 0), (58, .getfield 18, 3, 0, 2, 0, 0), (61, .iload_n 2, 1, 2, 0, 0, 0), (62, .aload_n 0, 1, 0, 0, 0, 0), (63, .getfield 18, 3, 0, 2, 0, 0), (66, .iload_n 2, 1, 2, 0, 0, 0), (67, .iconst 1, 1, 0, 0, 1, 0), (68, .iadd, 1, 0, 0, 0, 0), (69, .iaload, 1, 0, 0, 0, 0), (70, .iastore, 1, 0, 0, 0, 0), (71, .aload_n 0, 1, 0, 0, 0, 0), (72, .getfield 21, 3, 0, 3, 0, 0), (75, .iload_n 2, 1, 2, 0, 0, 0), (76, .aload_n 0, 1, 0, 0, 0, 0), (77, .getfield 21, 3, 0, 3, 0, 0), (80, .iload_n 2, 1, 2, 0, 0, 0), (81, .iconst 1, 1, 0, 0, 1, 0), (82, .iadd, 1, 0, 0, 0, 0), (83, .iaload, 1, 0, 0, 0, 0), (84, .iastore, 1, 0, 0, 0, 0), (85, .iinc 2 1, 3, 2, 0, 1, 0), (88, .goto (-67), 3, 21, 0, 0, 0), (91, .return_, 1, 0, 0, 0, 0)]
theorem tkX0_drop : tOk cX0_drop "RumourSource$Scene" 3 tX0_drop = true := by decide +kernel
theorem fX0_drop_0 : fetch tX0_drop 0 = some (.aload_n 0, 1, 0, 0, 0, 0) := rfl
theorem fX0_drop_1 : fetch tX0_drop 1 = some (.iload_n 1, 1, 1, 0, 0, 0) := rfl
theorem fX0_drop_2 : fetch tX0_drop 2 = some (.invokevirtual 49, 3, 0, 0, 0, 0) := rfl
theorem fX0_drop_5 : fetch tX0_drop 5 = some (.ifCond .ne 4, 3, 9, 0, 0, 0) := rfl
theorem fX0_drop_8 : fetch tX0_drop 8 = some (.return_, 1, 0, 0, 0, 0) := rfl
theorem fX0_drop_9 : fetch tX0_drop 9 = some (.aload_n 0, 1, 0, 0, 0, 0) := rfl
theorem fX0_drop_10 : fetch tX0_drop 10 = some (.dup, 1, 0, 0, 0, 0) := rfl
theorem fX0_drop_11 : fetch tX0_drop 11 = some (.getfield 24, 3, 0, 4, 0, 0) := rfl
theorem fX0_drop_14 : fetch tX0_drop 14 = some (.iconst 1, 1, 0, 0, 1, 0) := rfl
theorem fX0_drop_15 : fetch tX0_drop 15 = some (.isub, 1, 0, 0, 0, 0) := rfl
theorem fX0_drop_16 : fetch tX0_drop 16 = some (.putfield 24, 3, 0, 4, 0, 0) := rfl
theorem fX0_drop_19 : fetch tX0_drop 19 = some (.iload_n 1, 1, 1, 0, 0, 0) := rfl
theorem fX0_drop_20 : fetch tX0_drop 20 = some (.istore_n 2, 1, 2, 0, 0, 0) := rfl
theorem fX0_drop_21 : fetch tX0_drop 21 = some (.iload_n 2, 1, 2, 0, 0, 0) := rfl
theorem fX0_drop_22 : fetch tX0_drop 22 = some (.aload_n 0, 1, 0, 0, 0, 0) := rfl
theorem fX0_drop_23 : fetch tX0_drop 23 = some (.getfield 24, 3, 0, 4, 0, 0) := rfl
theorem fX0_drop_26 : fetch tX0_drop 26 = some (.if_icmp .ge 65, 3, 91, 0, 0, 0) := rfl
theorem fX0_drop_29 : fetch tX0_drop 29 = some (.aload_n 0, 1, 0, 0, 0, 0) := rfl
theorem fX0_drop_30 : fetch tX0_drop 30 = some (.getfield 9, 3, 0, 0, 0, 0) := rfl
theorem fX0_drop_33 : fetch tX0_drop 33 = some (.iload_n 2, 1, 2, 0, 0, 0) := rfl
theorem fX0_drop_34 : fetch tX0_drop 34 = some (.aload_n 0, 1, 0, 0, 0, 0) := rfl
theorem fX0_drop_35 : fetch tX0_drop 35 = some (.getfield 9, 3, 0, 0, 0, 0) := rfl
theorem fX0_drop_38 : fetch tX0_drop 38 = some (.iload_n 2, 1, 2, 0, 0, 0) := rfl
theorem fX0_drop_39 : fetch tX0_drop 39 = some (.iconst 1, 1, 0, 0, 1, 0) := rfl
theorem fX0_drop_40 : fetch tX0_drop 40 = some (.iadd, 1, 0, 0, 0, 0) := rfl
theorem fX0_drop_41 : fetch tX0_drop 41 = some (.iaload, 1, 0, 0, 0, 0) := rfl
theorem fX0_drop_42 : fetch tX0_drop 42 = some (.iastore, 1, 0, 0, 0, 0) := rfl
theorem fX0_drop_43 : fetch tX0_drop 43 = some (.aload_n 0, 1, 0, 0, 0, 0) := rfl
theorem fX0_drop_44 : fetch tX0_drop 44 = some (.getfield 15, 3, 0, 1, 0, 0) := rfl
theorem fX0_drop_47 : fetch tX0_drop 47 = some (.iload_n 2, 1, 2, 0, 0, 0) := rfl
theorem fX0_drop_48 : fetch tX0_drop 48 = some (.aload_n 0, 1, 0, 0, 0, 0) := rfl
theorem fX0_drop_49 : fetch tX0_drop 49 = some (.getfield 15, 3, 0, 1, 0, 0) := rfl
theorem fX0_drop_52 : fetch tX0_drop 52 = some (.iload_n 2, 1, 2, 0, 0, 0) := rfl
theorem fX0_drop_53 : fetch tX0_drop 53 = some (.iconst 1, 1, 0, 0, 1, 0) := rfl
theorem fX0_drop_54 : fetch tX0_drop 54 = some (.iadd, 1, 0, 0, 0, 0) := rfl
theorem fX0_drop_55 : fetch tX0_drop 55 = some (.iaload, 1, 0, 0, 0, 0) := rfl
theorem fX0_drop_56 : fetch tX0_drop 56 = some (.iastore, 1, 0, 0, 0, 0) := rfl
theorem fX0_drop_57 : fetch tX0_drop 57 = some (.aload_n 0, 1, 0, 0, 0, 0) := rfl
theorem fX0_drop_58 : fetch tX0_drop 58 = some (.getfield 18, 3, 0, 2, 0, 0) := rfl
theorem fX0_drop_61 : fetch tX0_drop 61 = some (.iload_n 2, 1, 2, 0, 0, 0) := rfl
theorem fX0_drop_62 : fetch tX0_drop 62 = some (.aload_n 0, 1, 0, 0, 0, 0) := rfl
theorem fX0_drop_63 : fetch tX0_drop 63 = some (.getfield 18, 3, 0, 2, 0, 0) := rfl
theorem fX0_drop_66 : fetch tX0_drop 66 = some (.iload_n 2, 1, 2, 0, 0, 0) := rfl
theorem fX0_drop_67 : fetch tX0_drop 67 = some (.iconst 1, 1, 0, 0, 1, 0) := rfl
theorem fX0_drop_68 : fetch tX0_drop 68 = some (.iadd, 1, 0, 0, 0, 0) := rfl
theorem fX0_drop_69 : fetch tX0_drop 69 = some (.iaload, 1, 0, 0, 0, 0) := rfl
theorem fX0_drop_70 : fetch tX0_drop 70 = some (.iastore, 1, 0, 0, 0, 0) := rfl
theorem fX0_drop_71 : fetch tX0_drop 71 = some (.aload_n 0, 1, 0, 0, 0, 0) := rfl
theorem fX0_drop_72 : fetch tX0_drop 72 = some (.getfield 21, 3, 0, 3, 0, 0) := rfl
theorem fX0_drop_75 : fetch tX0_drop 75 = some (.iload_n 2, 1, 2, 0, 0, 0) := rfl
theorem fX0_drop_76 : fetch tX0_drop 76 = some (.aload_n 0, 1, 0, 0, 0, 0) := rfl
theorem fX0_drop_77 : fetch tX0_drop 77 = some (.getfield 21, 3, 0, 3, 0, 0) := rfl
theorem fX0_drop_80 : fetch tX0_drop 80 = some (.iload_n 2, 1, 2, 0, 0, 0) := rfl
theorem fX0_drop_81 : fetch tX0_drop 81 = some (.iconst 1, 1, 0, 0, 1, 0) := rfl
theorem fX0_drop_82 : fetch tX0_drop 82 = some (.iadd, 1, 0, 0, 0, 0) := rfl
theorem fX0_drop_83 : fetch tX0_drop 83 = some (.iaload, 1, 0, 0, 0, 0) := rfl
theorem fX0_drop_84 : fetch tX0_drop 84 = some (.iastore, 1, 0, 0, 0, 0) := rfl
theorem fX0_drop_85 : fetch tX0_drop 85 = some (.iinc 2 1, 3, 2, 0, 1, 0) := rfl
theorem fX0_drop_88 : fetch tX0_drop 88 = some (.goto (-67), 3, 21, 0, 0, 0) := rfl
theorem fX0_drop_91 : fetch tX0_drop 91 = some (.return_, 1, 0, 0, 0, 0) := rfl
def tX1_wantNothing : List (Nat × TE) := [(0, .iconst 0, 1, 0, 0, 0, 0), (1, .istore_n 1, 1, 1, 0, 0, 0), (2, .iload_n 1, 1, 1, 0, 0, 0), (3, .bipush 8, 2, 0, 0, 8, 0), (5, .if_icmp .ge 17, 3, 22, 0, 0, 0), (8, .aload_n 0, 1, 0, 0, 0, 0), (9, .getfield 15, 3, 1, 1, 0, 0), (12, .iload_n 1, 1, 1, 0, 0, 0), (13, .bipush 100, 2, 0, 0, 100, 0), (15, .iastore, 1, 0, 0, 0, 0), (16, .iinc 1 1, 3, 1, 0, 1, 0), (19, .goto (-17), 3, 2, 0, 0, 0), (22, .return_, 1, 0, 0, 0, 0)]
theorem tkX1_wantNothing : tOk cX1_wantNothing "RumourSource$Spread" 2 tX1_wantNothing = true := by decide +kernel
theorem fX1_wantNothing_0 : fetch tX1_wantNothing 0 = some (.iconst 0, 1, 0, 0, 0, 0) := rfl
theorem fX1_wantNothing_1 : fetch tX1_wantNothing 1 = some (.istore_n 1, 1, 1, 0, 0, 0) := rfl
theorem fX1_wantNothing_2 : fetch tX1_wantNothing 2 = some (.iload_n 1, 1, 1, 0, 0, 0) := rfl
theorem fX1_wantNothing_3 : fetch tX1_wantNothing 3 = some (.bipush 8, 2, 0, 0, 8, 0) := rfl
theorem fX1_wantNothing_5 : fetch tX1_wantNothing 5 = some (.if_icmp .ge 17, 3, 22, 0, 0, 0) := rfl
theorem fX1_wantNothing_8 : fetch tX1_wantNothing 8 = some (.aload_n 0, 1, 0, 0, 0, 0) := rfl
theorem fX1_wantNothing_9 : fetch tX1_wantNothing 9 = some (.getfield 15, 3, 1, 1, 0, 0) := rfl
theorem fX1_wantNothing_12 : fetch tX1_wantNothing 12 = some (.iload_n 1, 1, 1, 0, 0, 0) := rfl
theorem fX1_wantNothing_13 : fetch tX1_wantNothing 13 = some (.bipush 100, 2, 0, 0, 100, 0) := rfl
theorem fX1_wantNothing_15 : fetch tX1_wantNothing 15 = some (.iastore, 1, 0, 0, 0, 0) := rfl
theorem fX1_wantNothing_16 : fetch tX1_wantNothing 16 = some (.iinc 1 1, 3, 1, 0, 1, 0) := rfl
theorem fX1_wantNothing_19 : fetch tX1_wantNothing 19 = some (.goto (-17), 3, 2, 0, 0, 0) := rfl
theorem fX1_wantNothing_22 : fetch tX1_wantNothing 22 = some (.return_, 1, 0, 0, 0, 0) := rfl
def tX1_wantOnly : List (Nat × TE) := [(0, .aload_n 0, 1, 0, 0, 0, 0), (1, .invokevirtual 40, 3, 0, 1, 0, 0), (4, .iload_n 1, 1, 1, 0, 0, 0), (5, .invokestatic 43, 3, 1, 3, 0, 0), (8, .ifCond .eq 20, 3, 28, 0, 0, 0), (11, .aload_n 0, 1, 0, 0, 0, 0), (12, .getfield 15, 3, 1, 1, 0, 0), (15, .iload_n 1, 1, 1, 0, 0, 0), (16, .iload_n 2, 1, 2, 0, 0, 0), (17, .iconst (-1), 1, 0, 0, (-1), 0), (18, .if_icmp .ne 8, 3, 26, 0, 0, 0), (21, .bipush 31, 2, 0, 0, 31, 0), (23, .goto 4, 3, 27, 0, 0, 0), (26, .iload_n 2, 1, 2, 0, 0, 0), (27, .iastore, 1, 0, 0, 0, 0), (28, .return_, 1, 0, 0, 0, 0)]
theorem tkX1_wantOnly : tOk cX1_wantOnly "RumourSource$Spread" 3 tX1_wantOnly = true := by decide +kernel
theorem fX1_wantOnly_0 : fetch tX1_wantOnly 0 = some (.aload_n 0, 1, 0, 0, 0, 0) := rfl
theorem fX1_wantOnly_1 : fetch tX1_wantOnly 1 = some (.invokevirtual 40, 3, 0, 1, 0, 0) := rfl
theorem fX1_wantOnly_4 : fetch tX1_wantOnly 4 = some (.iload_n 1, 1, 1, 0, 0, 0) := rfl
theorem fX1_wantOnly_5 : fetch tX1_wantOnly 5 = some (.invokestatic 43, 3, 1, 3, 0, 0) := rfl
theorem fX1_wantOnly_8 : fetch tX1_wantOnly 8 = some (.ifCond .eq 20, 3, 28, 0, 0, 0) := rfl
theorem fX1_wantOnly_11 : fetch tX1_wantOnly 11 = some (.aload_n 0, 1, 0, 0, 0, 0) := rfl
theorem fX1_wantOnly_12 : fetch tX1_wantOnly 12 = some (.getfield 15, 3, 1, 1, 0, 0) := rfl
theorem fX1_wantOnly_15 : fetch tX1_wantOnly 15 = some (.iload_n 1, 1, 1, 0, 0, 0) := rfl
theorem fX1_wantOnly_16 : fetch tX1_wantOnly 16 = some (.iload_n 2, 1, 2, 0, 0, 0) := rfl
theorem fX1_wantOnly_17 : fetch tX1_wantOnly 17 = some (.iconst (-1), 1, 0, 0, (-1), 0) := rfl
theorem fX1_wantOnly_18 : fetch tX1_wantOnly 18 = some (.if_icmp .ne 8, 3, 26, 0, 0, 0) := rfl
theorem fX1_wantOnly_21 : fetch tX1_wantOnly 21 = some (.bipush 31, 2, 0, 0, 31, 0) := rfl
theorem fX1_wantOnly_23 : fetch tX1_wantOnly 23 = some (.goto 4, 3, 27, 0, 0, 0) := rfl
theorem fX1_wantOnly_26 : fetch tX1_wantOnly 26 = some (.iload_n 2, 1, 2, 0, 0, 0) := rfl
theorem fX1_wantOnly_27 : fetch tX1_wantOnly 27 = some (.iastore, 1, 0, 0, 0, 0) := rfl
theorem fX1_wantOnly_28 : fetch tX1_wantOnly 28 = some (.return_, 1, 0, 0, 0, 0) := rfl
def tX1_wantAsSeen : List (Nat × TE) := [(0, .iconst 0, 1, 0, 0, 0, 0), (1, .istore_n 2, 1, 2, 0, 0, 0), (2, .iload_n 2, 1, 2, 0, 0, 0), (3, .bipush 8, 2, 0, 0, 8, 0), (5, .if_icmp .ge 33, 3, 38, 0, 0, 0), (8, .aload_n 1, 1, 1, 0, 0, 0), (9, .getfield 47, 3, 0, 6, 0, 0), (12, .iload_n 2, 1, 2, 0, 0, 0), (13, .iaload, 1, 0, 0, 0, 0), (14, .istore_n 3, 1, 3, 0, 0, 0), (15, .aload_n 0, 1, 0, 0, 0, 0), (16, .getfield 15, 3, 1, 1, 0, 0), (19, .iload_n 2, 1, 2, 0, 0, 0), (20, .iload_n 3, 1, 3, 0, 0, 0), (21, .iconst (-1), 1, 0, 0, (-1), 0), (22, .if_icmp .ne 8, 3, 30, 0, 0, 0), (25, .bipush 31, 2, 0, 0, 31, 0), (27, .goto 4, 3, 31, 0, 0, 0), (30, .iload_n 3, 1, 3, 0, 0, 0), (31, .iastore, 1, 0, 0, 0, 0), (32, .iinc 2 1, 3, 2, 0, 1, 0), (35, .goto (-33), 3, 2, 0, 0, 0), (38, .return_, 1, 0, 0, 0, 0)]
theorem tkX1_wantAsSeen : tOk cX1_wantAsSeen "RumourSource$Spread" 4 tX1_wantAsSeen = true := by decide +kernel
theorem fX1_wantAsSeen_0 : fetch tX1_wantAsSeen 0 = some (.iconst 0, 1, 0, 0, 0, 0) := rfl
theorem fX1_wantAsSeen_1 : fetch tX1_wantAsSeen 1 = some (.istore_n 2, 1, 2, 0, 0, 0) := rfl
theorem fX1_wantAsSeen_2 : fetch tX1_wantAsSeen 2 = some (.iload_n 2, 1, 2, 0, 0, 0) := rfl
theorem fX1_wantAsSeen_3 : fetch tX1_wantAsSeen 3 = some (.bipush 8, 2, 0, 0, 8, 0) := rfl
theorem fX1_wantAsSeen_5 : fetch tX1_wantAsSeen 5 = some (.if_icmp .ge 33, 3, 38, 0, 0, 0) := rfl
theorem fX1_wantAsSeen_8 : fetch tX1_wantAsSeen 8 = some (.aload_n 1, 1, 1, 0, 0, 0) := rfl
theorem fX1_wantAsSeen_9 : fetch tX1_wantAsSeen 9 = some (.getfield 47, 3, 0, 6, 0, 0) := rfl
theorem fX1_wantAsSeen_12 : fetch tX1_wantAsSeen 12 = some (.iload_n 2, 1, 2, 0, 0, 0) := rfl
theorem fX1_wantAsSeen_13 : fetch tX1_wantAsSeen 13 = some (.iaload, 1, 0, 0, 0, 0) := rfl
theorem fX1_wantAsSeen_14 : fetch tX1_wantAsSeen 14 = some (.istore_n 3, 1, 3, 0, 0, 0) := rfl
theorem fX1_wantAsSeen_15 : fetch tX1_wantAsSeen 15 = some (.aload_n 0, 1, 0, 0, 0, 0) := rfl
theorem fX1_wantAsSeen_16 : fetch tX1_wantAsSeen 16 = some (.getfield 15, 3, 1, 1, 0, 0) := rfl
theorem fX1_wantAsSeen_19 : fetch tX1_wantAsSeen 19 = some (.iload_n 2, 1, 2, 0, 0, 0) := rfl
theorem fX1_wantAsSeen_20 : fetch tX1_wantAsSeen 20 = some (.iload_n 3, 1, 3, 0, 0, 0) := rfl
theorem fX1_wantAsSeen_21 : fetch tX1_wantAsSeen 21 = some (.iconst (-1), 1, 0, 0, (-1), 0) := rfl
theorem fX1_wantAsSeen_22 : fetch tX1_wantAsSeen 22 = some (.if_icmp .ne 8, 3, 30, 0, 0, 0) := rfl
theorem fX1_wantAsSeen_25 : fetch tX1_wantAsSeen 25 = some (.bipush 31, 2, 0, 0, 31, 0) := rfl
theorem fX1_wantAsSeen_27 : fetch tX1_wantAsSeen 27 = some (.goto 4, 3, 31, 0, 0, 0) := rfl
theorem fX1_wantAsSeen_30 : fetch tX1_wantAsSeen 30 = some (.iload_n 3, 1, 3, 0, 0, 0) := rfl
theorem fX1_wantAsSeen_31 : fetch tX1_wantAsSeen 31 = some (.iastore, 1, 0, 0, 0, 0) := rfl
theorem fX1_wantAsSeen_32 : fetch tX1_wantAsSeen 32 = some (.iinc 2 1, 3, 2, 0, 1, 0) := rfl
theorem fX1_wantAsSeen_35 : fetch tX1_wantAsSeen 35 = some (.goto (-33), 3, 2, 0, 0, 0) := rfl
theorem fX1_wantAsSeen_38 : fetch tX1_wantAsSeen 38 = some (.return_, 1, 0, 0, 0, 0) := rfl
def tX1_begin : List (Nat × TE) := [(0, .iconst 0, 1, 0, 0, 0, 0), (1, .istore_n 2, 1, 2, 0, 0, 0), (2, .iload_n 2, 1, 2, 0, 0, 0), (3, .bipush 8, 2, 0, 0, 8, 0), (5, .if_icmp .ge 30, 3, 35, 0, 0, 0), (8, .aload_n 0, 1, 0, 0, 0, 0), (9, .getfield 9, 3, 1, 0, 0, 0), (12, .iload_n 2, 1, 2, 0, 0, 0), (13, .iload_n 1, 1, 1, 0, 0, 0), (14, .iload_n 2, 1, 2, 0, 0, 0), (15, .ishr, 1, 0, 0, 0, 0), (16, .iconst 1, 1, 0, 0, 1, 0), (17, .iand, 1, 0, 0, 0, 0), (18, .iconst 1, 1, 0, 0, 1, 0), (19, .if_icmp .ne 7, 3, 26, 0, 0, 0), (22, .iconst 0, 1, 0, 0, 0, 0), (23, .goto 5, 3, 28, 0, 0, 0), (26, .bipush 31, 2, 0, 0, 31, 0), (28, .iastore, 1, 0, 0, 0, 0), (29, .iinc 2 1, 3, 2, 0, 1, 0), (32, .goto (-30), 3, 2, 0, 0, 0), (35, .return_, 1, 0, 0, 0, 0)]
theorem tkX1_begin : tOk cX1_begin "RumourSource$Spread" 3 tX1_begin = true := by decide +kernel
theorem fX1_begin_0 : fetch tX1_begin 0 = some (.iconst 0, 1, 0, 0, 0, 0) := rfl
theorem fX1_begin_1 : fetch tX1_begin 1 = some (.istore_n 2, 1, 2, 0, 0, 0) := rfl
theorem fX1_begin_2 : fetch tX1_begin 2 = some (.iload_n 2, 1, 2, 0, 0, 0) := rfl
theorem fX1_begin_3 : fetch tX1_begin 3 = some (.bipush 8, 2, 0, 0, 8, 0) := rfl
theorem fX1_begin_5 : fetch tX1_begin 5 = some (.if_icmp .ge 30, 3, 35, 0, 0, 0) := rfl
theorem fX1_begin_8 : fetch tX1_begin 8 = some (.aload_n 0, 1, 0, 0, 0, 0) := rfl
theorem fX1_begin_9 : fetch tX1_begin 9 = some (.getfield 9, 3, 1, 0, 0, 0) := rfl
theorem fX1_begin_12 : fetch tX1_begin 12 = some (.iload_n 2, 1, 2, 0, 0, 0) := rfl
theorem fX1_begin_13 : fetch tX1_begin 13 = some (.iload_n 1, 1, 1, 0, 0, 0) := rfl
theorem fX1_begin_14 : fetch tX1_begin 14 = some (.iload_n 2, 1, 2, 0, 0, 0) := rfl
theorem fX1_begin_15 : fetch tX1_begin 15 = some (.ishr, 1, 0, 0, 0, 0) := rfl
theorem fX1_begin_16 : fetch tX1_begin 16 = some (.iconst 1, 1, 0, 0, 1, 0) := rfl
theorem fX1_begin_17 : fetch tX1_begin 17 = some (.iand, 1, 0, 0, 0, 0) := rfl
theorem fX1_begin_18 : fetch tX1_begin 18 = some (.iconst 1, 1, 0, 0, 1, 0) := rfl
theorem fX1_begin_19 : fetch tX1_begin 19 = some (.if_icmp .ne 7, 3, 26, 0, 0, 0) := rfl
theorem fX1_begin_22 : fetch tX1_begin 22 = some (.iconst 0, 1, 0, 0, 0, 0) := rfl
theorem fX1_begin_23 : fetch tX1_begin 23 = some (.goto 5, 3, 28, 0, 0, 0) := rfl
theorem fX1_begin_26 : fetch tX1_begin 26 = some (.bipush 31, 2, 0, 0, 31, 0) := rfl
theorem fX1_begin_28 : fetch tX1_begin 28 = some (.iastore, 1, 0, 0, 0, 0) := rfl
theorem fX1_begin_29 : fetch tX1_begin 29 = some (.iinc 2 1, 3, 2, 0, 1, 0) := rfl
theorem fX1_begin_32 : fetch tX1_begin 32 = some (.goto (-30), 3, 2, 0, 0, 0) := rfl
theorem fX1_begin_35 : fetch tX1_begin 35 = some (.return_, 1, 0, 0, 0, 0) := rfl
def tX1_follow : List (Nat × TE) := [(0, .aload_n 0, 1, 0, 0, 0, 0), (1, .iload_n 2, 1, 2, 0, 0, 0), (2, .invokevirtual 52, 3, 0, 1, 0, 0), (5, .iconst 1, 1, 0, 0, 1, 0), (6, .istore 4, 2, 4, 0, 0, 0), (8, .iload 4, 2, 4, 0, 0, 0), (10, .bipush 8, 2, 0, 0, 8, 0), (12, .if_icmp .ge 89, 3, 101, 0, 0, 0), (15, .iconst 0, 1, 0, 0, 0, 0), (16, .istore 5, 2, 5, 0, 0, 0), (18, .iload 5, 2, 5, 0, 0, 0), (20, .aload_n 1, 1, 1, 0, 0, 0), (21, .getfield 56, 3, 0, 4, 0, 0), (24, .if_icmp .ge 71, 3, 95, 0, 0, 0), (27, .aload_n 1, 1, 1, 0, 0, 0), (28, .getfield 59, 3, 0, 1, 0, 0), (31, .iload 5, 2, 5, 0, 0, 0), (33, .iaload, 1, 0, 0, 0, 0), (34, .istore 6, 2, 6, 0, 0, 0), (36, .iload_n 3, 1, 3, 0, 0, 0), (37, .iload 5, 2, 5, 0, 0, 0), (39, .ishr, 1, 0, 0, 0, 0), (40, .iconst 1, 1, 0, 0, 1, 0), (41, .iand, 1, 0, 0, 0, 0), (42, .iconst 1, 1, 0, 0, 1, 0), (43, .if_icmp .ne 13, 3, 56, 0, 0, 0), (46, .aload_n 0, 1, 0, 0, 0, 0), (47, .aload_n 1, 1, 1, 0, 0, 0), (48, .iload 5, 2, 5, 0, 0, 0), (50, .invokevirtual 62, 3, 1, 1, 0, 0), (53, .goto 5, 3, 58, 0, 0, 0), (56, .bipush 31, 2, 0, 0, 31, 0), (58, .istore 7, 2, 7, 0, 0, 0), (60, .iload 6, 2, 6, 0, 0, 0), (62, .invokestatic 43, 3, 2, 3, 0, 0), (65, .ifCond .eq 24, 3, 89, 0, 0, 0), (68, .iload 7, 2, 7, 0, 0, 0), (70, .aload_n 0, 1, 0, 0, 0, 0), (71, .getfield 9, 3, 1, 0, 0, 0), (74, .iload 6, 2, 6, 0, 0, 0), (76, .iaload, 1, 0, 0, 0, 0), (77, .if_icmp .ge 12, 3, 89, 0, 0, 0), (80, .aload_n 0, 1, 0, 0, 0, 0), (81, .getfield 9, 3, 1, 0, 0, 0), (84, .iload 6, 2, 6, 0, 0, 0), (86, .iload 7, 2, 7, 0, 0, 0), (88, .iastore, 1, 0, 0, 0, 0), (89, .iinc 5 1, 3, 5, 0, 1, 0), (92, .goto (-74), 3, 18, 0, 0, 0), (95, .iinc 4 1, 3, 4, 0, 1, 0), (98, .goto (-90), 3, 8, 0, 0, 0), (101, .return_, 1, 0, 0, 0, 0)]
theorem tkX1_follow : tOk cX1_follow "RumourSource$Spread" 8 tX1_follow = true := by decide +kernel
theorem fX1_follow_0 : fetch tX1_follow 0 = some (.aload_n 0, 1, 0, 0, 0, 0) := rfl
theorem fX1_follow_1 : fetch tX1_follow 1 = some (.iload_n 2, 1, 2, 0, 0, 0) := rfl
theorem fX1_follow_2 : fetch tX1_follow 2 = some (.invokevirtual 52, 3, 0, 1, 0, 0) := rfl
theorem fX1_follow_5 : fetch tX1_follow 5 = some (.iconst 1, 1, 0, 0, 1, 0) := rfl
theorem fX1_follow_6 : fetch tX1_follow 6 = some (.istore 4, 2, 4, 0, 0, 0) := rfl
theorem fX1_follow_8 : fetch tX1_follow 8 = some (.iload 4, 2, 4, 0, 0, 0) := rfl
theorem fX1_follow_10 : fetch tX1_follow 10 = some (.bipush 8, 2, 0, 0, 8, 0) := rfl
theorem fX1_follow_12 : fetch tX1_follow 12 = some (.if_icmp .ge 89, 3, 101, 0, 0, 0) := rfl
theorem fX1_follow_15 : fetch tX1_follow 15 = some (.iconst 0, 1, 0, 0, 0, 0) := rfl
theorem fX1_follow_16 : fetch tX1_follow 16 = some (.istore 5, 2, 5, 0, 0, 0) := rfl
theorem fX1_follow_18 : fetch tX1_follow 18 = some (.iload 5, 2, 5, 0, 0, 0) := rfl
theorem fX1_follow_20 : fetch tX1_follow 20 = some (.aload_n 1, 1, 1, 0, 0, 0) := rfl
theorem fX1_follow_21 : fetch tX1_follow 21 = some (.getfield 56, 3, 0, 4, 0, 0) := rfl
theorem fX1_follow_24 : fetch tX1_follow 24 = some (.if_icmp .ge 71, 3, 95, 0, 0, 0) := rfl
theorem fX1_follow_27 : fetch tX1_follow 27 = some (.aload_n 1, 1, 1, 0, 0, 0) := rfl
theorem fX1_follow_28 : fetch tX1_follow 28 = some (.getfield 59, 3, 0, 1, 0, 0) := rfl
theorem fX1_follow_31 : fetch tX1_follow 31 = some (.iload 5, 2, 5, 0, 0, 0) := rfl
theorem fX1_follow_33 : fetch tX1_follow 33 = some (.iaload, 1, 0, 0, 0, 0) := rfl
theorem fX1_follow_34 : fetch tX1_follow 34 = some (.istore 6, 2, 6, 0, 0, 0) := rfl
theorem fX1_follow_36 : fetch tX1_follow 36 = some (.iload_n 3, 1, 3, 0, 0, 0) := rfl
theorem fX1_follow_37 : fetch tX1_follow 37 = some (.iload 5, 2, 5, 0, 0, 0) := rfl
theorem fX1_follow_39 : fetch tX1_follow 39 = some (.ishr, 1, 0, 0, 0, 0) := rfl
theorem fX1_follow_40 : fetch tX1_follow 40 = some (.iconst 1, 1, 0, 0, 1, 0) := rfl
theorem fX1_follow_41 : fetch tX1_follow 41 = some (.iand, 1, 0, 0, 0, 0) := rfl
theorem fX1_follow_42 : fetch tX1_follow 42 = some (.iconst 1, 1, 0, 0, 1, 0) := rfl
theorem fX1_follow_43 : fetch tX1_follow 43 = some (.if_icmp .ne 13, 3, 56, 0, 0, 0) := rfl
theorem fX1_follow_46 : fetch tX1_follow 46 = some (.aload_n 0, 1, 0, 0, 0, 0) := rfl
theorem fX1_follow_47 : fetch tX1_follow 47 = some (.aload_n 1, 1, 1, 0, 0, 0) := rfl
theorem fX1_follow_48 : fetch tX1_follow 48 = some (.iload 5, 2, 5, 0, 0, 0) := rfl
theorem fX1_follow_50 : fetch tX1_follow 50 = some (.invokevirtual 62, 3, 1, 1, 0, 0) := rfl
theorem fX1_follow_53 : fetch tX1_follow 53 = some (.goto 5, 3, 58, 0, 0, 0) := rfl
theorem fX1_follow_56 : fetch tX1_follow 56 = some (.bipush 31, 2, 0, 0, 31, 0) := rfl
theorem fX1_follow_58 : fetch tX1_follow 58 = some (.istore 7, 2, 7, 0, 0, 0) := rfl
theorem fX1_follow_60 : fetch tX1_follow 60 = some (.iload 6, 2, 6, 0, 0, 0) := rfl
theorem fX1_follow_62 : fetch tX1_follow 62 = some (.invokestatic 43, 3, 2, 3, 0, 0) := rfl
theorem fX1_follow_65 : fetch tX1_follow 65 = some (.ifCond .eq 24, 3, 89, 0, 0, 0) := rfl
theorem fX1_follow_68 : fetch tX1_follow 68 = some (.iload 7, 2, 7, 0, 0, 0) := rfl
theorem fX1_follow_70 : fetch tX1_follow 70 = some (.aload_n 0, 1, 0, 0, 0, 0) := rfl
theorem fX1_follow_71 : fetch tX1_follow 71 = some (.getfield 9, 3, 1, 0, 0, 0) := rfl
theorem fX1_follow_74 : fetch tX1_follow 74 = some (.iload 6, 2, 6, 0, 0, 0) := rfl
theorem fX1_follow_76 : fetch tX1_follow 76 = some (.iaload, 1, 0, 0, 0, 0) := rfl
theorem fX1_follow_77 : fetch tX1_follow 77 = some (.if_icmp .ge 12, 3, 89, 0, 0, 0) := rfl
theorem fX1_follow_80 : fetch tX1_follow 80 = some (.aload_n 0, 1, 0, 0, 0, 0) := rfl
theorem fX1_follow_81 : fetch tX1_follow 81 = some (.getfield 9, 3, 1, 0, 0, 0) := rfl
theorem fX1_follow_84 : fetch tX1_follow 84 = some (.iload 6, 2, 6, 0, 0, 0) := rfl
theorem fX1_follow_86 : fetch tX1_follow 86 = some (.iload 7, 2, 7, 0, 0, 0) := rfl
theorem fX1_follow_88 : fetch tX1_follow 88 = some (.iastore, 1, 0, 0, 0, 0) := rfl
theorem fX1_follow_89 : fetch tX1_follow 89 = some (.iinc 5 1, 3, 5, 0, 1, 0) := rfl
theorem fX1_follow_92 : fetch tX1_follow 92 = some (.goto (-74), 3, 18, 0, 0, 0) := rfl
theorem fX1_follow_95 : fetch tX1_follow 95 = some (.iinc 4 1, 3, 4, 0, 1, 0) := rfl
theorem fX1_follow_98 : fetch tX1_follow 98 = some (.goto (-90), 3, 8, 0, 0, 0) := rfl
theorem fX1_follow_101 : fetch tX1_follow 101 = some (.return_, 1, 0, 0, 0, 0) := rfl
def tX1_arrivalBy : List (Nat × TE) := [(0, .aload_n 1, 1, 1, 0, 0, 0), (1, .getfield 66, 3, 0, 0, 0, 0), (4, .iload_n 2, 1, 2, 0, 0, 0), (5, .iaload, 1, 0, 0, 0, 0), (6, .istore_n 3, 1, 3, 0, 0, 0), (7, .iload_n 3, 1, 3, 0, 0, 0), (8, .invokestatic 43, 3, 0, 3, 0, 0), (11, .ifCond .eq 14, 3, 25, 0, 0, 0), (14, .aload_n 0, 1, 0, 0, 0, 0), (15, .getfield 9, 3, 1, 0, 0, 0), (18, .iload_n 3, 1, 3, 0, 0, 0), (19, .iaload, 1, 0, 0, 0, 0), (20, .bipush 31, 2, 0, 0, 31, 0), (22, .if_icmp .ne 6, 3, 28, 0, 0, 0), (25, .bipush 31, 2, 0, 0, 31, 0), (27, .ireturn, 1, 0, 0, 0, 0), (28, .aload_n 0, 1, 0, 0, 0, 0), (29, .getfield 9, 3, 1, 0, 0, 0), (32, .iload_n 3, 1, 3, 0, 0, 0), (33, .iaload, 1, 0, 0, 0, 0), (34, .aload_n 1, 1, 1, 0, 0, 0), (35, .getfield 69, 3, 0, 3, 0, 0), (38, .iload_n 2, 1, 2, 0, 0, 0), (39, .iaload, 1, 0, 0, 0, 0), (40, .iadd, 1, 0, 0, 0, 0), (41, .istore 4, 2, 4, 0, 0, 0), (43, .iload 4, 2, 4, 0, 0, 0), (45, .aload_n 1, 1, 1, 0, 0, 0), (46, .getfield 72, 3, 0, 5, 0, 0), (49, .if_icmp .gt 8, 3, 57, 0, 0, 0), (52, .iload 4, 2, 4, 0, 0, 0), (54, .goto 5, 3, 59, 0, 0, 0), (57, .bipush 31, 2, 0, 0, 31, 0), (59, .ireturn, 1, 0, 0, 0, 0)]
theorem tkX1_arrivalBy : tOk cX1_arrivalBy "RumourSource$Spread" 5 tX1_arrivalBy = true := by decide +kernel
theorem fX1_arrivalBy_0 : fetch tX1_arrivalBy 0 = some (.aload_n 1, 1, 1, 0, 0, 0) := rfl
theorem fX1_arrivalBy_1 : fetch tX1_arrivalBy 1 = some (.getfield 66, 3, 0, 0, 0, 0) := rfl
theorem fX1_arrivalBy_4 : fetch tX1_arrivalBy 4 = some (.iload_n 2, 1, 2, 0, 0, 0) := rfl
theorem fX1_arrivalBy_5 : fetch tX1_arrivalBy 5 = some (.iaload, 1, 0, 0, 0, 0) := rfl
theorem fX1_arrivalBy_6 : fetch tX1_arrivalBy 6 = some (.istore_n 3, 1, 3, 0, 0, 0) := rfl
theorem fX1_arrivalBy_7 : fetch tX1_arrivalBy 7 = some (.iload_n 3, 1, 3, 0, 0, 0) := rfl
theorem fX1_arrivalBy_8 : fetch tX1_arrivalBy 8 = some (.invokestatic 43, 3, 0, 3, 0, 0) := rfl
theorem fX1_arrivalBy_11 : fetch tX1_arrivalBy 11 = some (.ifCond .eq 14, 3, 25, 0, 0, 0) := rfl
theorem fX1_arrivalBy_14 : fetch tX1_arrivalBy 14 = some (.aload_n 0, 1, 0, 0, 0, 0) := rfl
theorem fX1_arrivalBy_15 : fetch tX1_arrivalBy 15 = some (.getfield 9, 3, 1, 0, 0, 0) := rfl
theorem fX1_arrivalBy_18 : fetch tX1_arrivalBy 18 = some (.iload_n 3, 1, 3, 0, 0, 0) := rfl
theorem fX1_arrivalBy_19 : fetch tX1_arrivalBy 19 = some (.iaload, 1, 0, 0, 0, 0) := rfl
theorem fX1_arrivalBy_20 : fetch tX1_arrivalBy 20 = some (.bipush 31, 2, 0, 0, 31, 0) := rfl
theorem fX1_arrivalBy_22 : fetch tX1_arrivalBy 22 = some (.if_icmp .ne 6, 3, 28, 0, 0, 0) := rfl
theorem fX1_arrivalBy_25 : fetch tX1_arrivalBy 25 = some (.bipush 31, 2, 0, 0, 31, 0) := rfl
theorem fX1_arrivalBy_27 : fetch tX1_arrivalBy 27 = some (.ireturn, 1, 0, 0, 0, 0) := rfl
theorem fX1_arrivalBy_28 : fetch tX1_arrivalBy 28 = some (.aload_n 0, 1, 0, 0, 0, 0) := rfl
theorem fX1_arrivalBy_29 : fetch tX1_arrivalBy 29 = some (.getfield 9, 3, 1, 0, 0, 0) := rfl
theorem fX1_arrivalBy_32 : fetch tX1_arrivalBy 32 = some (.iload_n 3, 1, 3, 0, 0, 0) := rfl
theorem fX1_arrivalBy_33 : fetch tX1_arrivalBy 33 = some (.iaload, 1, 0, 0, 0, 0) := rfl
theorem fX1_arrivalBy_34 : fetch tX1_arrivalBy 34 = some (.aload_n 1, 1, 1, 0, 0, 0) := rfl
theorem fX1_arrivalBy_35 : fetch tX1_arrivalBy 35 = some (.getfield 69, 3, 0, 3, 0, 0) := rfl
theorem fX1_arrivalBy_38 : fetch tX1_arrivalBy 38 = some (.iload_n 2, 1, 2, 0, 0, 0) := rfl
theorem fX1_arrivalBy_39 : fetch tX1_arrivalBy 39 = some (.iaload, 1, 0, 0, 0, 0) := rfl
theorem fX1_arrivalBy_40 : fetch tX1_arrivalBy 40 = some (.iadd, 1, 0, 0, 0, 0) := rfl
theorem fX1_arrivalBy_41 : fetch tX1_arrivalBy 41 = some (.istore 4, 2, 4, 0, 0, 0) := rfl
theorem fX1_arrivalBy_43 : fetch tX1_arrivalBy 43 = some (.iload 4, 2, 4, 0, 0, 0) := rfl
theorem fX1_arrivalBy_45 : fetch tX1_arrivalBy 45 = some (.aload_n 1, 1, 1, 0, 0, 0) := rfl
theorem fX1_arrivalBy_46 : fetch tX1_arrivalBy 46 = some (.getfield 72, 3, 0, 5, 0, 0) := rfl
theorem fX1_arrivalBy_49 : fetch tX1_arrivalBy 49 = some (.if_icmp .gt 8, 3, 57, 0, 0, 0) := rfl
theorem fX1_arrivalBy_52 : fetch tX1_arrivalBy 52 = some (.iload 4, 2, 4, 0, 0, 0) := rfl
theorem fX1_arrivalBy_54 : fetch tX1_arrivalBy 54 = some (.goto 5, 3, 59, 0, 0, 0) := rfl
theorem fX1_arrivalBy_57 : fetch tX1_arrivalBy 57 = some (.bipush 31, 2, 0, 0, 31, 0) := rfl
theorem fX1_arrivalBy_59 : fetch tX1_arrivalBy 59 = some (.ireturn, 1, 0, 0, 0, 0) := rfl
def tX1_isAsWanted : List (Nat × TE) := [(0, .aload_n 0, 1, 0, 0, 0, 0), (1, .bipush 31, 2, 0, 0, 31, 0), (3, .invokevirtual 75, 3, 0, 1, 0, 0), (6, .ireturn, 1, 0, 0, 0, 0)]
theorem tkX1_isAsWanted : tOk cX1_isAsWanted "RumourSource$Spread" 1 tX1_isAsWanted = true := by decide +kernel
theorem fX1_isAsWanted_0 : fetch tX1_isAsWanted 0 = some (.aload_n 0, 1, 0, 0, 0, 0) := rfl
theorem fX1_isAsWanted_1 : fetch tX1_isAsWanted 1 = some (.bipush 31, 2, 0, 0, 31, 0) := rfl
theorem fX1_isAsWanted_3 : fetch tX1_isAsWanted 3 = some (.invokevirtual 75, 3, 0, 1, 0, 0) := rfl
theorem fX1_isAsWanted_6 : fetch tX1_isAsWanted 6 = some (.ireturn, 1, 0, 0, 0, 0) := rfl
def tX1_canBeAsWanted : List (Nat × TE) := [(0, .iconst 0, 1, 0, 0, 0, 0), (1, .istore_n 2, 1, 2, 0, 0, 0), (2, .iload_n 2, 1, 2, 0, 0, 0), (3, .bipush 8, 2, 0, 0, 8, 0), (5, .if_icmp .ge 52, 3, 57, 0, 0, 0), (8, .aload_n 0, 1, 0, 0, 0, 0), (9, .getfield 15, 3, 1, 1, 0, 0), (12, .iload_n 2, 1, 2, 0, 0, 0), (13, .iaload, 1, 0, 0, 0, 0), (14, .istore_n 3, 1, 3, 0, 0, 0), (15, .iload_n 3, 1, 3, 0, 0, 0), (16, .bipush 100, 2, 0, 0, 100, 0), (18, .if_icmp .ne 6, 3, 24, 0, 0, 0), (21, .goto 30, 3, 51, 0, 0, 0), (24, .aload_n 0, 1, 0, 0, 0, 0), (25, .getfield 9, 3, 1, 0, 0, 0), (28, .iload_n 2, 1, 2, 0, 0, 0), (29, .iaload, 1, 0, 0, 0, 0), (30, .istore 4, 2, 4, 0, 0, 0), (32, .iload 4, 2, 4, 0, 0, 0), (34, .iload_n 3, 1, 3, 0, 0, 0), (35, .if_icmp .lt 14, 3, 49, 0, 0, 0), (38, .iload 4, 2, 4, 0, 0, 0), (40, .iload_n 3, 1, 3, 0, 0, 0), (41, .if_icmp .le 10, 3, 51, 0, 0, 0), (44, .iload_n 1, 1, 1, 0, 0, 0), (45, .iload_n 3, 1, 3, 0, 0, 0), (46, .if_icmp .le 5, 3, 51, 0, 0, 0), (49, .iconst 0, 1, 0, 0, 0, 0), (50, .ireturn, 1, 0, 0, 0, 0), (51, .iinc 2 1, 3, 2, 0, 1, 0), (54, .goto (-52), 3, 2, 0, 0, 0), (57, .iconst 1, 1, 0, 0, 1, 0), (58, .ireturn, 1, 0, 0, 0, 0)]
theorem tkX1_canBeAsWanted : tOk cX1_canBeAsWanted "RumourSource$Spread" 5 tX1_canBeAsWanted = true := by decide +kernel
theorem fX1_canBeAsWanted_0 : fetch tX1_canBeAsWanted 0 = some (.iconst 0, 1, 0, 0, 0, 0) := rfl
theorem fX1_canBeAsWanted_1 : fetch tX1_canBeAsWanted 1 = some (.istore_n 2, 1, 2, 0, 0, 0) := rfl
theorem fX1_canBeAsWanted_2 : fetch tX1_canBeAsWanted 2 = some (.iload_n 2, 1, 2, 0, 0, 0) := rfl
theorem fX1_canBeAsWanted_3 : fetch tX1_canBeAsWanted 3 = some (.bipush 8, 2, 0, 0, 8, 0) := rfl
theorem fX1_canBeAsWanted_5 : fetch tX1_canBeAsWanted 5 = some (.if_icmp .ge 52, 3, 57, 0, 0, 0) := rfl
theorem fX1_canBeAsWanted_8 : fetch tX1_canBeAsWanted 8 = some (.aload_n 0, 1, 0, 0, 0, 0) := rfl
theorem fX1_canBeAsWanted_9 : fetch tX1_canBeAsWanted 9 = some (.getfield 15, 3, 1, 1, 0, 0) := rfl
theorem fX1_canBeAsWanted_12 : fetch tX1_canBeAsWanted 12 = some (.iload_n 2, 1, 2, 0, 0, 0) := rfl
theorem fX1_canBeAsWanted_13 : fetch tX1_canBeAsWanted 13 = some (.iaload, 1, 0, 0, 0, 0) := rfl
theorem fX1_canBeAsWanted_14 : fetch tX1_canBeAsWanted 14 = some (.istore_n 3, 1, 3, 0, 0, 0) := rfl
theorem fX1_canBeAsWanted_15 : fetch tX1_canBeAsWanted 15 = some (.iload_n 3, 1, 3, 0, 0, 0) := rfl
theorem fX1_canBeAsWanted_16 : fetch tX1_canBeAsWanted 16 = some (.bipush 100, 2, 0, 0, 100, 0) := rfl
theorem fX1_canBeAsWanted_18 : fetch tX1_canBeAsWanted 18 = some (.if_icmp .ne 6, 3, 24, 0, 0, 0) := rfl
theorem fX1_canBeAsWanted_21 : fetch tX1_canBeAsWanted 21 = some (.goto 30, 3, 51, 0, 0, 0) := rfl
theorem fX1_canBeAsWanted_24 : fetch tX1_canBeAsWanted 24 = some (.aload_n 0, 1, 0, 0, 0, 0) := rfl
theorem fX1_canBeAsWanted_25 : fetch tX1_canBeAsWanted 25 = some (.getfield 9, 3, 1, 0, 0, 0) := rfl
theorem fX1_canBeAsWanted_28 : fetch tX1_canBeAsWanted 28 = some (.iload_n 2, 1, 2, 0, 0, 0) := rfl
theorem fX1_canBeAsWanted_29 : fetch tX1_canBeAsWanted 29 = some (.iaload, 1, 0, 0, 0, 0) := rfl
theorem fX1_canBeAsWanted_30 : fetch tX1_canBeAsWanted 30 = some (.istore 4, 2, 4, 0, 0, 0) := rfl
theorem fX1_canBeAsWanted_32 : fetch tX1_canBeAsWanted 32 = some (.iload 4, 2, 4, 0, 0, 0) := rfl
theorem fX1_canBeAsWanted_34 : fetch tX1_canBeAsWanted 34 = some (.iload_n 3, 1, 3, 0, 0, 0) := rfl
theorem fX1_canBeAsWanted_35 : fetch tX1_canBeAsWanted 35 = some (.if_icmp .lt 14, 3, 49, 0, 0, 0) := rfl
theorem fX1_canBeAsWanted_38 : fetch tX1_canBeAsWanted 38 = some (.iload 4, 2, 4, 0, 0, 0) := rfl
theorem fX1_canBeAsWanted_40 : fetch tX1_canBeAsWanted 40 = some (.iload_n 3, 1, 3, 0, 0, 0) := rfl
theorem fX1_canBeAsWanted_41 : fetch tX1_canBeAsWanted 41 = some (.if_icmp .le 10, 3, 51, 0, 0, 0) := rfl
theorem fX1_canBeAsWanted_44 : fetch tX1_canBeAsWanted 44 = some (.iload_n 1, 1, 1, 0, 0, 0) := rfl
theorem fX1_canBeAsWanted_45 : fetch tX1_canBeAsWanted 45 = some (.iload_n 3, 1, 3, 0, 0, 0) := rfl
theorem fX1_canBeAsWanted_46 : fetch tX1_canBeAsWanted 46 = some (.if_icmp .le 5, 3, 51, 0, 0, 0) := rfl
theorem fX1_canBeAsWanted_49 : fetch tX1_canBeAsWanted 49 = some (.iconst 0, 1, 0, 0, 0, 0) := rfl
theorem fX1_canBeAsWanted_50 : fetch tX1_canBeAsWanted 50 = some (.ireturn, 1, 0, 0, 0, 0) := rfl
theorem fX1_canBeAsWanted_51 : fetch tX1_canBeAsWanted 51 = some (.iinc 2 1, 3, 2, 0, 1, 0) := rfl
theorem fX1_canBeAsWanted_54 : fetch tX1_canBeAsWanted 54 = some (.goto (-52), 3, 2, 0, 0, 0) := rfl
theorem fX1_canBeAsWanted_57 : fetch tX1_canBeAsWanted 57 = some (.iconst 1, 1, 0, 0, 1, 0) := rfl
theorem fX1_canBeAsWanted_58 : fetch tX1_canBeAsWanted 58 = some (.ireturn, 1, 0, 0, 0, 0) := rfl
def tX1_search : List (Nat × TE) := [(0, .aload_n 0, 1, 0, 0, 0, 0), (1, .lconst 0, 1, 0, 0, 0, 0), (2, .putfield 18, 3, 1, 2, 0, 0), (5, .aload_n 0, 1, 0, 0, 0, 0), (6, .lconst 0, 1, 0, 0, 0, 0), (7, .putfield 22, 3, 1, 3, 0, 0), (10, .aload_n 0, 1, 0, 0, 0, 0), (11, .lconst 0, 1, 0, 0, 0, 0), (12, .putfield 25, 3, 1, 4, 0, 0), (15, .aload_n 0, 1, 0, 0, 0, 0), (16, .iconst (-1), 1, 0, 0, (-1), 0), (17, .putfield 28, 3, 1, 5, 0, 0), (20, .aload_n 0, 1, 0, 0, 0, 0), (21, .iload_n 3, 1, 3, 0, 0, 0), (22, .putfield 36, 3, 1, 7, 0, 0), (25, .iconst 0, 1, 0, 0, 0, 0), (26, .istore 4, 2, 4, 0, 0, 0), (28, .iload 4, 2, 4, 0, 0, 0), (30, .bipush 8, 2, 0, 0, 8, 0), (32, .if_icmp .ge 17, 3, 49, 0, 0, 0), (35, .aload_n 0, 1, 0, 0, 0, 0), (36, .getfield 32, 3, 1, 6, 0, 0), (39, .iload 4, 2, 4, 0, 0, 0), (41, .lconst 0, 1, 0, 0, 0, 0), (42, .lastore, 1, 0, 0, 0, 0), (43, .iinc 4 1, 3, 4, 0, 1, 0), (46, .goto (-18), 3, 28, 0, 0, 0), (49, .aload_n 0, 1, 0, 0, 0, 0), (50, .iload_n 2, 1, 2, 0, 0, 0), (51, .invokevirtual 52, 3, 0, 1, 0, 0), (54, .aload_n 0, 1, 0, 0, 0, 0), (55, .aload_n 1, 1, 1, 0, 0, 0), (56, .iconst 0, 1, 0, 0, 0, 0), (57, .iconst 0, 1, 0, 0, 0, 0), (58, .iconst 0, 1, 0, 0, 0, 0), (59, .lconst 1, 1, 0, 0, 0, 1), (60, .invokestatic 78, 3, 1, 1, 0, 0), (63, .return_, 1, 0, 0, 0, 0)]
theorem tkX1_search : tOk cX1_search "RumourSource$Spread" 5 tX1_search = true := by decide +kernel
theorem fX1_search_0 : fetch tX1_search 0 = some (.aload_n 0, 1, 0, 0, 0, 0) := rfl
theorem fX1_search_1 : fetch tX1_search 1 = some (.lconst 0, 1, 0, 0, 0, 0) := rfl
theorem fX1_search_2 : fetch tX1_search 2 = some (.putfield 18, 3, 1, 2, 0, 0) := rfl
theorem fX1_search_5 : fetch tX1_search 5 = some (.aload_n 0, 1, 0, 0, 0, 0) := rfl
theorem fX1_search_6 : fetch tX1_search 6 = some (.lconst 0, 1, 0, 0, 0, 0) := rfl
theorem fX1_search_7 : fetch tX1_search 7 = some (.putfield 22, 3, 1, 3, 0, 0) := rfl
theorem fX1_search_10 : fetch tX1_search 10 = some (.aload_n 0, 1, 0, 0, 0, 0) := rfl
theorem fX1_search_11 : fetch tX1_search 11 = some (.lconst 0, 1, 0, 0, 0, 0) := rfl
theorem fX1_search_12 : fetch tX1_search 12 = some (.putfield 25, 3, 1, 4, 0, 0) := rfl
theorem fX1_search_15 : fetch tX1_search 15 = some (.aload_n 0, 1, 0, 0, 0, 0) := rfl
theorem fX1_search_16 : fetch tX1_search 16 = some (.iconst (-1), 1, 0, 0, (-1), 0) := rfl
theorem fX1_search_17 : fetch tX1_search 17 = some (.putfield 28, 3, 1, 5, 0, 0) := rfl
theorem fX1_search_20 : fetch tX1_search 20 = some (.aload_n 0, 1, 0, 0, 0, 0) := rfl
theorem fX1_search_21 : fetch tX1_search 21 = some (.iload_n 3, 1, 3, 0, 0, 0) := rfl
theorem fX1_search_22 : fetch tX1_search 22 = some (.putfield 36, 3, 1, 7, 0, 0) := rfl
theorem fX1_search_25 : fetch tX1_search 25 = some (.iconst 0, 1, 0, 0, 0, 0) := rfl
theorem fX1_search_26 : fetch tX1_search 26 = some (.istore 4, 2, 4, 0, 0, 0) := rfl
theorem fX1_search_28 : fetch tX1_search 28 = some (.iload 4, 2, 4, 0, 0, 0) := rfl
theorem fX1_search_30 : fetch tX1_search 30 = some (.bipush 8, 2, 0, 0, 8, 0) := rfl
theorem fX1_search_32 : fetch tX1_search 32 = some (.if_icmp .ge 17, 3, 49, 0, 0, 0) := rfl
theorem fX1_search_35 : fetch tX1_search 35 = some (.aload_n 0, 1, 0, 0, 0, 0) := rfl
theorem fX1_search_36 : fetch tX1_search 36 = some (.getfield 32, 3, 1, 6, 0, 0) := rfl
theorem fX1_search_39 : fetch tX1_search 39 = some (.iload 4, 2, 4, 0, 0, 0) := rfl
theorem fX1_search_41 : fetch tX1_search 41 = some (.lconst 0, 1, 0, 0, 0, 0) := rfl
theorem fX1_search_42 : fetch tX1_search 42 = some (.lastore, 1, 0, 0, 0, 0) := rfl
theorem fX1_search_43 : fetch tX1_search 43 = some (.iinc 4 1, 3, 4, 0, 1, 0) := rfl
theorem fX1_search_46 : fetch tX1_search 46 = some (.goto (-18), 3, 28, 0, 0, 0) := rfl
theorem fX1_search_49 : fetch tX1_search 49 = some (.aload_n 0, 1, 0, 0, 0, 0) := rfl
theorem fX1_search_50 : fetch tX1_search 50 = some (.iload_n 2, 1, 2, 0, 0, 0) := rfl
theorem fX1_search_51 : fetch tX1_search 51 = some (.invokevirtual 52, 3, 0, 1, 0, 0) := rfl
theorem fX1_search_54 : fetch tX1_search 54 = some (.aload_n 0, 1, 0, 0, 0, 0) := rfl
theorem fX1_search_55 : fetch tX1_search 55 = some (.aload_n 1, 1, 1, 0, 0, 0) := rfl
theorem fX1_search_56 : fetch tX1_search 56 = some (.iconst 0, 1, 0, 0, 0, 0) := rfl
theorem fX1_search_57 : fetch tX1_search 57 = some (.iconst 0, 1, 0, 0, 0, 0) := rfl
theorem fX1_search_58 : fetch tX1_search 58 = some (.iconst 0, 1, 0, 0, 0, 0) := rfl
theorem fX1_search_59 : fetch tX1_search 59 = some (.lconst 1, 1, 0, 0, 0, 1) := rfl
theorem fX1_search_60 : fetch tX1_search 60 = some (.invokestatic 78, 3, 1, 1, 0, 0) := rfl
theorem fX1_search_63 : fetch tX1_search 63 = some (.return_, 1, 0, 0, 0, 0) := rfl
def tX1_decide : List (Nat × TE) := [(0, .iload_n 2, 1, 2, 0, 0, 0), (1, .bipush 12, 2, 0, 0, 12, 0), (3, .if_icmp .gt 19, 3, 22, 0, 0, 0), (6, .aload_n 0, 1, 0, 0, 0, 0), (7, .getfield 36, 3, 1, 7, 0, 0), (10, .ifCond .eq 13, 3, 23, 0, 0, 0), (13, .aload_n 0, 1, 0, 0, 0, 0), (14, .getfield 18, 3, 1, 2, 0, 0), (17, .lconst 0, 1, 0, 0, 0, 0), (18, .lcmp, 1, 0, 0, 0, 0), (19, .ifCond .le 4, 3, 23, 0, 0, 0), (22, .return_, 1, 0, 0, 0, 0), (23, .aload_n 0, 1, 0, 0, 0, 0), (24, .aload_n 1, 1, 1, 0, 0, 0), (25, .iload_n 3, 1, 3, 0, 0, 0), (26, .invokevirtual 82, 3, 0, 1, 0, 0), (29, .istore 7, 2, 7, 0, 0, 0), (31, .iload 7, 2, 7, 0, 0, 0), (33, .iconst (-1), 1, 0, 0, (-1), 0), (34, .if_icmp .ne 8, 3, 42, 0, 0, 0), (37, .bipush 31, 2, 0, 0, 31, 0), (39, .goto 10, 3, 49, 0, 0, 0), (42, .aload_n 0, 1, 0, 0, 0, 0), (43, .aload_n 1, 1, 1, 0, 0, 0), (44, .iload 7, 2, 7, 0, 0, 0), (46, .invokevirtual 62, 3, 1, 1, 0, 0), (49, .istore 8, 2, 8, 0, 0, 0), (51, .aload_n 0, 1, 0, 0, 0, 0), (52, .iload 8, 2, 8, 0, 0, 0), (54, .invokevirtual 75, 3, 2, 1, 0, 0), (57, .ifCond .ne 4, 3, 61, 0, 0, 0), (60, .return_, 1, 0, 0, 0, 0), (61, .iload 7, 2, 7, 0, 0, 0), (63, .iconst (-1), 1, 0, 0, (-1), 0), (64, .if_icmp .ne 14, 3, 78, 0, 0, 0), (67, .aload_n 0, 1, 0, 0, 0, 0), (68, .aload_n 1, 1, 1, 0, 0, 0), (69, .iload_n 3, 1, 3, 0, 0, 0), (70, .iload 4, 2, 4, 0, 0, 0), (72, .lload 5, 2, 5, 0, 0, 0), (74, .invokevirtual 85, 3, 3, 1, 0, 0), (77, .return_, 1, 0, 0, 0, 0), (78, .aload_n 1, 1, 1, 0, 0, 0), (79, .getfield 59, 3, 0, 1, 0, 0), (82, .iload 7, 2, 7, 0, 0, 0), (84, .iaload, 1, 0, 0, 0, 0), (85, .istore 9, 2, 9, 0, 0, 0), (87, .aload_n 1, 1, 1, 0, 0, 0), (88, .getfield 89, 3, 0, 2, 0, 0), (91, .iload 7, 2, 7, 0, 0, 0), (93, .iaload, 1, 0, 0, 0, 0), (94, .istore 10, 2, 10, 0, 0, 0), (96, .iload_n 3, 1, 3, 0, 0, 0), (97, .iconst 1, 1, 0, 0, 1, 0), (98, .iload 7, 2, 7, 0, 0, 0), (100, .ishl, 1, 0, 0, 0, 0), (101, .ior, 1, 0, 0, 0, 0), (102, .istore 11, 2, 11, 0, 0, 0), (104, .iload 10, 2, 10, 0, 0, 0), (106, .ifCond .le 52, 3, 158, 0, 0, 0), (109, .iload 9, 2, 9, 0, 0, 0), (111, .invokestatic 43, 3, 4, 3, 0, 0), (114, .ifCond .eq 44, 3, 158, 0, 0, 0), (117, .aload_n 0, 1, 0, 0, 0, 0), (118, .getfield 9, 3, 1, 0, 0, 0), (121, .iload 9, 2, 9, 0, 0, 0), (123, .iload 8, 2, 8, 0, 0, 0), (125, .iastore, 1, 0, 0, 0, 0), (126, .aload_n 0, 1, 0, 0, 0, 0), (127, .aload_n 1, 1, 1, 0, 0, 0), (128, .iload_n 2, 1, 2, 0, 0, 0), (129, .iconst 1, 1, 0, 0, 1, 0), (130, .iadd, 1, 0, 0, 0, 0), (131, .iload 11, 2, 11, 0, 0, 0), (133, .iload 4, 2, 4, 0, 0, 0), (135, .iconst 1, 1, 0, 0, 1, 0), (136, .iload 7, 2, 7, 0, 0, 0), (138, .ishl, 1, 0, 0, 0, 0), (139, .ior, 1, 0, 0, 0, 0), (140, .lload 5, 2, 5, 0, 0, 0), (142, .iload 10, 2, 10, 0, 0, 0), (144, .i2l, 1, 0, 0, 0, 0), (145, .lmul, 1, 0, 0, 0, 0), (146, .invokestatic 78, 3, 5, 1, 0, 0), (149, .aload_n 0, 1, 0, 0, 0, 0), (150, .getfield 9, 3, 1, 0, 0, 0), (153, .iload 9, 2, 9, 0, 0, 0), (155, .bipush 31, 2, 0, 0, 31, 0), (157, .iastore, 1, 0, 0, 0, 0), (158, .iload 10, 2, 10, 0, 0, 0), (160, .bipush 10, 2, 0, 0, 10, 0), (162, .if_icmp .ge 24, 3, 186, 0, 0, 0), (165, .aload_n 0, 1, 0, 0, 0, 0), (166, .aload_n 1, 1, 1, 0, 0, 0), (167, .iload_n 2, 1, 2, 0, 0, 0), (168, .iconst 1, 1, 0, 0, 1, 0), (169, .iadd, 1, 0, 0, 0, 0), (170, .iload 11, 2, 11, 0, 0, 0), (172, .iload 4, 2, 4, 0, 0, 0), (174, .lload 5, 2, 5, 0, 0, 0), (176, .bipush 10, 2, 0, 0, 10, 0), (178, .iload 10, 2, 10, 0, 0, 0), (180, .isub, 1, 0, 0, 0, 0), (181, .i2l, 1, 0, 0, 0, 0), (182, .lmul, 1, 0, 0, 0, 0), (183, .invokestatic 78, 3, 5, 1, 0, 0), (186, .return_, 1, 0, 0, 0, 0)]
theorem tkX1_decide : tOk cX1_decide "RumourSource$Spread" 12 tX1_decide = true := by decide +kernel
theorem fX1_decide_0 : fetch tX1_decide 0 = some (.iload_n 2, 1, 2, 0, 0, 0) := rfl
theorem fX1_decide_1 : fetch tX1_decide 1 = some (.bipush 12, 2, 0, 0, 12, 0) := rfl
theorem fX1_decide_3 : fetch tX1_decide 3 = some (.if_icmp .gt 19, 3, 22, 0, 0, 0) := rfl
theorem fX1_decide_6 : fetch tX1_decide 6 = some (.aload_n 0, 1, 0, 0, 0, 0) := rfl
theorem fX1_decide_7 : fetch tX1_decide 7 = some (.getfield 36, 3, 1, 7, 0, 0) := rfl
theorem fX1_decide_10 : fetch tX1_decide 10 = some (.ifCond .eq 13, 3, 23, 0, 0, 0) := rfl
theorem fX1_decide_13 : fetch tX1_decide 13 = some (.aload_n 0, 1, 0, 0, 0, 0) := rfl
theorem fX1_decide_14 : fetch tX1_decide 14 = some (.getfield 18, 3, 1, 2, 0, 0) := rfl
theorem fX1_decide_17 : fetch tX1_decide 17 = some (.lconst 0, 1, 0, 0, 0, 0) := rfl
theorem fX1_decide_18 : fetch tX1_decide 18 = some (.lcmp, 1, 0, 0, 0, 0) := rfl
theorem fX1_decide_19 : fetch tX1_decide 19 = some (.ifCond .le 4, 3, 23, 0, 0, 0) := rfl
theorem fX1_decide_22 : fetch tX1_decide 22 = some (.return_, 1, 0, 0, 0, 0) := rfl
theorem fX1_decide_23 : fetch tX1_decide 23 = some (.aload_n 0, 1, 0, 0, 0, 0) := rfl
theorem fX1_decide_24 : fetch tX1_decide 24 = some (.aload_n 1, 1, 1, 0, 0, 0) := rfl
theorem fX1_decide_25 : fetch tX1_decide 25 = some (.iload_n 3, 1, 3, 0, 0, 0) := rfl
theorem fX1_decide_26 : fetch tX1_decide 26 = some (.invokevirtual 82, 3, 0, 1, 0, 0) := rfl
theorem fX1_decide_29 : fetch tX1_decide 29 = some (.istore 7, 2, 7, 0, 0, 0) := rfl
theorem fX1_decide_31 : fetch tX1_decide 31 = some (.iload 7, 2, 7, 0, 0, 0) := rfl
theorem fX1_decide_33 : fetch tX1_decide 33 = some (.iconst (-1), 1, 0, 0, (-1), 0) := rfl
theorem fX1_decide_34 : fetch tX1_decide 34 = some (.if_icmp .ne 8, 3, 42, 0, 0, 0) := rfl
theorem fX1_decide_37 : fetch tX1_decide 37 = some (.bipush 31, 2, 0, 0, 31, 0) := rfl
theorem fX1_decide_39 : fetch tX1_decide 39 = some (.goto 10, 3, 49, 0, 0, 0) := rfl
theorem fX1_decide_42 : fetch tX1_decide 42 = some (.aload_n 0, 1, 0, 0, 0, 0) := rfl
theorem fX1_decide_43 : fetch tX1_decide 43 = some (.aload_n 1, 1, 1, 0, 0, 0) := rfl
theorem fX1_decide_44 : fetch tX1_decide 44 = some (.iload 7, 2, 7, 0, 0, 0) := rfl
theorem fX1_decide_46 : fetch tX1_decide 46 = some (.invokevirtual 62, 3, 1, 1, 0, 0) := rfl
theorem fX1_decide_49 : fetch tX1_decide 49 = some (.istore 8, 2, 8, 0, 0, 0) := rfl
theorem fX1_decide_51 : fetch tX1_decide 51 = some (.aload_n 0, 1, 0, 0, 0, 0) := rfl
theorem fX1_decide_52 : fetch tX1_decide 52 = some (.iload 8, 2, 8, 0, 0, 0) := rfl
theorem fX1_decide_54 : fetch tX1_decide 54 = some (.invokevirtual 75, 3, 2, 1, 0, 0) := rfl
theorem fX1_decide_57 : fetch tX1_decide 57 = some (.ifCond .ne 4, 3, 61, 0, 0, 0) := rfl
theorem fX1_decide_60 : fetch tX1_decide 60 = some (.return_, 1, 0, 0, 0, 0) := rfl
theorem fX1_decide_61 : fetch tX1_decide 61 = some (.iload 7, 2, 7, 0, 0, 0) := rfl
theorem fX1_decide_63 : fetch tX1_decide 63 = some (.iconst (-1), 1, 0, 0, (-1), 0) := rfl
theorem fX1_decide_64 : fetch tX1_decide 64 = some (.if_icmp .ne 14, 3, 78, 0, 0, 0) := rfl
theorem fX1_decide_67 : fetch tX1_decide 67 = some (.aload_n 0, 1, 0, 0, 0, 0) := rfl
theorem fX1_decide_68 : fetch tX1_decide 68 = some (.aload_n 1, 1, 1, 0, 0, 0) := rfl
theorem fX1_decide_69 : fetch tX1_decide 69 = some (.iload_n 3, 1, 3, 0, 0, 0) := rfl
theorem fX1_decide_70 : fetch tX1_decide 70 = some (.iload 4, 2, 4, 0, 0, 0) := rfl
theorem fX1_decide_72 : fetch tX1_decide 72 = some (.lload 5, 2, 5, 0, 0, 0) := rfl
theorem fX1_decide_74 : fetch tX1_decide 74 = some (.invokevirtual 85, 3, 3, 1, 0, 0) := rfl
theorem fX1_decide_77 : fetch tX1_decide 77 = some (.return_, 1, 0, 0, 0, 0) := rfl
theorem fX1_decide_78 : fetch tX1_decide 78 = some (.aload_n 1, 1, 1, 0, 0, 0) := rfl
theorem fX1_decide_79 : fetch tX1_decide 79 = some (.getfield 59, 3, 0, 1, 0, 0) := rfl
theorem fX1_decide_82 : fetch tX1_decide 82 = some (.iload 7, 2, 7, 0, 0, 0) := rfl
theorem fX1_decide_84 : fetch tX1_decide 84 = some (.iaload, 1, 0, 0, 0, 0) := rfl
theorem fX1_decide_85 : fetch tX1_decide 85 = some (.istore 9, 2, 9, 0, 0, 0) := rfl
theorem fX1_decide_87 : fetch tX1_decide 87 = some (.aload_n 1, 1, 1, 0, 0, 0) := rfl
theorem fX1_decide_88 : fetch tX1_decide 88 = some (.getfield 89, 3, 0, 2, 0, 0) := rfl
theorem fX1_decide_91 : fetch tX1_decide 91 = some (.iload 7, 2, 7, 0, 0, 0) := rfl
theorem fX1_decide_93 : fetch tX1_decide 93 = some (.iaload, 1, 0, 0, 0, 0) := rfl
theorem fX1_decide_94 : fetch tX1_decide 94 = some (.istore 10, 2, 10, 0, 0, 0) := rfl
theorem fX1_decide_96 : fetch tX1_decide 96 = some (.iload_n 3, 1, 3, 0, 0, 0) := rfl
theorem fX1_decide_97 : fetch tX1_decide 97 = some (.iconst 1, 1, 0, 0, 1, 0) := rfl
theorem fX1_decide_98 : fetch tX1_decide 98 = some (.iload 7, 2, 7, 0, 0, 0) := rfl
theorem fX1_decide_100 : fetch tX1_decide 100 = some (.ishl, 1, 0, 0, 0, 0) := rfl
theorem fX1_decide_101 : fetch tX1_decide 101 = some (.ior, 1, 0, 0, 0, 0) := rfl
theorem fX1_decide_102 : fetch tX1_decide 102 = some (.istore 11, 2, 11, 0, 0, 0) := rfl
theorem fX1_decide_104 : fetch tX1_decide 104 = some (.iload 10, 2, 10, 0, 0, 0) := rfl
theorem fX1_decide_106 : fetch tX1_decide 106 = some (.ifCond .le 52, 3, 158, 0, 0, 0) := rfl
theorem fX1_decide_109 : fetch tX1_decide 109 = some (.iload 9, 2, 9, 0, 0, 0) := rfl
theorem fX1_decide_111 : fetch tX1_decide 111 = some (.invokestatic 43, 3, 4, 3, 0, 0) := rfl
theorem fX1_decide_114 : fetch tX1_decide 114 = some (.ifCond .eq 44, 3, 158, 0, 0, 0) := rfl
theorem fX1_decide_117 : fetch tX1_decide 117 = some (.aload_n 0, 1, 0, 0, 0, 0) := rfl
theorem fX1_decide_118 : fetch tX1_decide 118 = some (.getfield 9, 3, 1, 0, 0, 0) := rfl
theorem fX1_decide_121 : fetch tX1_decide 121 = some (.iload 9, 2, 9, 0, 0, 0) := rfl
theorem fX1_decide_123 : fetch tX1_decide 123 = some (.iload 8, 2, 8, 0, 0, 0) := rfl
theorem fX1_decide_125 : fetch tX1_decide 125 = some (.iastore, 1, 0, 0, 0, 0) := rfl
theorem fX1_decide_126 : fetch tX1_decide 126 = some (.aload_n 0, 1, 0, 0, 0, 0) := rfl
theorem fX1_decide_127 : fetch tX1_decide 127 = some (.aload_n 1, 1, 1, 0, 0, 0) := rfl
theorem fX1_decide_128 : fetch tX1_decide 128 = some (.iload_n 2, 1, 2, 0, 0, 0) := rfl
theorem fX1_decide_129 : fetch tX1_decide 129 = some (.iconst 1, 1, 0, 0, 1, 0) := rfl
theorem fX1_decide_130 : fetch tX1_decide 130 = some (.iadd, 1, 0, 0, 0, 0) := rfl
theorem fX1_decide_131 : fetch tX1_decide 131 = some (.iload 11, 2, 11, 0, 0, 0) := rfl
theorem fX1_decide_133 : fetch tX1_decide 133 = some (.iload 4, 2, 4, 0, 0, 0) := rfl
theorem fX1_decide_135 : fetch tX1_decide 135 = some (.iconst 1, 1, 0, 0, 1, 0) := rfl
theorem fX1_decide_136 : fetch tX1_decide 136 = some (.iload 7, 2, 7, 0, 0, 0) := rfl
theorem fX1_decide_138 : fetch tX1_decide 138 = some (.ishl, 1, 0, 0, 0, 0) := rfl
theorem fX1_decide_139 : fetch tX1_decide 139 = some (.ior, 1, 0, 0, 0, 0) := rfl
theorem fX1_decide_140 : fetch tX1_decide 140 = some (.lload 5, 2, 5, 0, 0, 0) := rfl
theorem fX1_decide_142 : fetch tX1_decide 142 = some (.iload 10, 2, 10, 0, 0, 0) := rfl
theorem fX1_decide_144 : fetch tX1_decide 144 = some (.i2l, 1, 0, 0, 0, 0) := rfl
theorem fX1_decide_145 : fetch tX1_decide 145 = some (.lmul, 1, 0, 0, 0, 0) := rfl
theorem fX1_decide_146 : fetch tX1_decide 146 = some (.invokestatic 78, 3, 5, 1, 0, 0) := rfl
theorem fX1_decide_149 : fetch tX1_decide 149 = some (.aload_n 0, 1, 0, 0, 0, 0) := rfl
theorem fX1_decide_150 : fetch tX1_decide 150 = some (.getfield 9, 3, 1, 0, 0, 0) := rfl
theorem fX1_decide_153 : fetch tX1_decide 153 = some (.iload 9, 2, 9, 0, 0, 0) := rfl
theorem fX1_decide_155 : fetch tX1_decide 155 = some (.bipush 31, 2, 0, 0, 31, 0) := rfl
theorem fX1_decide_157 : fetch tX1_decide 157 = some (.iastore, 1, 0, 0, 0, 0) := rfl
theorem fX1_decide_158 : fetch tX1_decide 158 = some (.iload 10, 2, 10, 0, 0, 0) := rfl
theorem fX1_decide_160 : fetch tX1_decide 160 = some (.bipush 10, 2, 0, 0, 10, 0) := rfl
theorem fX1_decide_162 : fetch tX1_decide 162 = some (.if_icmp .ge 24, 3, 186, 0, 0, 0) := rfl
theorem fX1_decide_165 : fetch tX1_decide 165 = some (.aload_n 0, 1, 0, 0, 0, 0) := rfl
theorem fX1_decide_166 : fetch tX1_decide 166 = some (.aload_n 1, 1, 1, 0, 0, 0) := rfl
theorem fX1_decide_167 : fetch tX1_decide 167 = some (.iload_n 2, 1, 2, 0, 0, 0) := rfl
theorem fX1_decide_168 : fetch tX1_decide 168 = some (.iconst 1, 1, 0, 0, 1, 0) := rfl
theorem fX1_decide_169 : fetch tX1_decide 169 = some (.iadd, 1, 0, 0, 0, 0) := rfl
theorem fX1_decide_170 : fetch tX1_decide 170 = some (.iload 11, 2, 11, 0, 0, 0) := rfl
theorem fX1_decide_172 : fetch tX1_decide 172 = some (.iload 4, 2, 4, 0, 0, 0) := rfl
theorem fX1_decide_174 : fetch tX1_decide 174 = some (.lload 5, 2, 5, 0, 0, 0) := rfl
theorem fX1_decide_176 : fetch tX1_decide 176 = some (.bipush 10, 2, 0, 0, 10, 0) := rfl
theorem fX1_decide_178 : fetch tX1_decide 178 = some (.iload 10, 2, 10, 0, 0, 0) := rfl
theorem fX1_decide_180 : fetch tX1_decide 180 = some (.isub, 1, 0, 0, 0, 0) := rfl
theorem fX1_decide_181 : fetch tX1_decide 181 = some (.i2l, 1, 0, 0, 0, 0) := rfl
theorem fX1_decide_182 : fetch tX1_decide 182 = some (.lmul, 1, 0, 0, 0, 0) := rfl
theorem fX1_decide_183 : fetch tX1_decide 183 = some (.invokestatic 78, 3, 5, 1, 0, 0) := rfl
theorem fX1_decide_186 : fetch tX1_decide 186 = some (.return_, 1, 0, 0, 0, 0) := rfl
def tX1_nextEdge : List (Nat × TE) := [(0, .iconst (-1), 1, 0, 0, (-1), 0), (1, .istore_n 3, 1, 3, 0, 0, 0), (2, .bipush 31, 2, 0, 0, 31, 0), (4, .istore 4, 2, 4, 0, 0, 0), (6, .iconst 0, 1, 0, 0, 0, 0), (7, .istore 5, 2, 5, 0, 0, 0), (9, .iload 5, 2, 5, 0, 0, 0), (11, .aload_n 1, 1, 1, 0, 0, 0), (12, .getfield 56, 3, 0, 4, 0, 0), (15, .if_icmp .ge 85, 3, 100, 0, 0, 0), (18, .aload_n 1, 1, 1, 0, 0, 0), (19, .getfield 59, 3, 0, 1, 0, 0), (22, .iload 5, 2, 5, 0, 0, 0), (24, .iaload, 1, 0, 0, 0, 0), (25, .istore 6, 2, 6, 0, 0, 0), (27, .iload_n 2, 1, 2, 0, 0, 0), (28, .iload 5, 2, 5, 0, 0, 0), (30, .ishr, 1, 0, 0, 0, 0), (31, .iconst 1, 1, 0, 0, 1, 0), (32, .iand, 1, 0, 0, 0, 0), (33, .ifCond .ne 7, 3, 40, 0, 0, 0), (36, .iconst 1, 1, 0, 0, 1, 0), (37, .goto 4, 3, 41, 0, 0, 0), (40, .iconst 0, 1, 0, 0, 0, 0), (41, .istore 7, 2, 7, 0, 0, 0), (43, .iload 7, 2, 7, 0, 0, 0), (45, .ifCond .eq 49, 3, 94, 0, 0, 0), (48, .iload 6, 2, 6, 0, 0, 0), (50, .invokestatic 43, 3, 0, 3, 0, 0), (53, .ifCond .eq 41, 3, 94, 0, 0, 0), (56, .aload_n 0, 1, 0, 0, 0, 0), (57, .getfield 9, 3, 1, 0, 0, 0), (60, .iload 6, 2, 6, 0, 0, 0), (62, .iaload, 1, 0, 0, 0, 0), (63, .bipush 31, 2, 0, 0, 31, 0), (65, .if_icmp .eq 6, 3, 71, 0, 0, 0), (68, .goto 26, 3, 94, 0, 0, 0), (71, .aload_n 0, 1, 0, 0, 0, 0), (72, .aload_n 1, 1, 1, 0, 0, 0), (73, .iload 5, 2, 5, 0, 0, 0), (75, .invokevirtual 62, 3, 1, 1, 0, 0), (78, .istore 8, 2, 8, 0, 0, 0), (80, .iload 8, 2, 8, 0, 0, 0), (82, .iload 4, 2, 4, 0, 0, 0), (84, .if_icmp .ge 10, 3, 94, 0, 0, 0), (87, .iload 8, 2, 8, 0, 0, 0), (89, .istore 4, 2, 4, 0, 0, 0), (91, .iload 5, 2, 5, 0, 0, 0), (93, .istore_n 3, 1, 3, 0, 0, 0), (94, .iinc 5 1, 3, 5, 0, 1, 0), (97, .goto (-88), 3, 9, 0, 0, 0), (100, .iload_n 3, 1, 3, 0, 0, 0), (101, .ireturn, 1, 0, 0, 0, 0)]
theorem tkX1_nextEdge : tOk cX1_nextEdge "RumourSource$Spread" 9 tX1_nextEdge = true := by decide +kernel
theorem fX1_nextEdge_0 : fetch tX1_nextEdge 0 = some (.iconst (-1), 1, 0, 0, (-1), 0) := rfl
theorem fX1_nextEdge_1 : fetch tX1_nextEdge 1 = some (.istore_n 3, 1, 3, 0, 0, 0) := rfl
theorem fX1_nextEdge_2 : fetch tX1_nextEdge 2 = some (.bipush 31, 2, 0, 0, 31, 0) := rfl
theorem fX1_nextEdge_4 : fetch tX1_nextEdge 4 = some (.istore 4, 2, 4, 0, 0, 0) := rfl
theorem fX1_nextEdge_6 : fetch tX1_nextEdge 6 = some (.iconst 0, 1, 0, 0, 0, 0) := rfl
theorem fX1_nextEdge_7 : fetch tX1_nextEdge 7 = some (.istore 5, 2, 5, 0, 0, 0) := rfl
theorem fX1_nextEdge_9 : fetch tX1_nextEdge 9 = some (.iload 5, 2, 5, 0, 0, 0) := rfl
theorem fX1_nextEdge_11 : fetch tX1_nextEdge 11 = some (.aload_n 1, 1, 1, 0, 0, 0) := rfl
theorem fX1_nextEdge_12 : fetch tX1_nextEdge 12 = some (.getfield 56, 3, 0, 4, 0, 0) := rfl
theorem fX1_nextEdge_15 : fetch tX1_nextEdge 15 = some (.if_icmp .ge 85, 3, 100, 0, 0, 0) := rfl
theorem fX1_nextEdge_18 : fetch tX1_nextEdge 18 = some (.aload_n 1, 1, 1, 0, 0, 0) := rfl
theorem fX1_nextEdge_19 : fetch tX1_nextEdge 19 = some (.getfield 59, 3, 0, 1, 0, 0) := rfl
theorem fX1_nextEdge_22 : fetch tX1_nextEdge 22 = some (.iload 5, 2, 5, 0, 0, 0) := rfl
theorem fX1_nextEdge_24 : fetch tX1_nextEdge 24 = some (.iaload, 1, 0, 0, 0, 0) := rfl
theorem fX1_nextEdge_25 : fetch tX1_nextEdge 25 = some (.istore 6, 2, 6, 0, 0, 0) := rfl
theorem fX1_nextEdge_27 : fetch tX1_nextEdge 27 = some (.iload_n 2, 1, 2, 0, 0, 0) := rfl
theorem fX1_nextEdge_28 : fetch tX1_nextEdge 28 = some (.iload 5, 2, 5, 0, 0, 0) := rfl
theorem fX1_nextEdge_30 : fetch tX1_nextEdge 30 = some (.ishr, 1, 0, 0, 0, 0) := rfl
theorem fX1_nextEdge_31 : fetch tX1_nextEdge 31 = some (.iconst 1, 1, 0, 0, 1, 0) := rfl
theorem fX1_nextEdge_32 : fetch tX1_nextEdge 32 = some (.iand, 1, 0, 0, 0, 0) := rfl
theorem fX1_nextEdge_33 : fetch tX1_nextEdge 33 = some (.ifCond .ne 7, 3, 40, 0, 0, 0) := rfl
theorem fX1_nextEdge_36 : fetch tX1_nextEdge 36 = some (.iconst 1, 1, 0, 0, 1, 0) := rfl
theorem fX1_nextEdge_37 : fetch tX1_nextEdge 37 = some (.goto 4, 3, 41, 0, 0, 0) := rfl
theorem fX1_nextEdge_40 : fetch tX1_nextEdge 40 = some (.iconst 0, 1, 0, 0, 0, 0) := rfl
theorem fX1_nextEdge_41 : fetch tX1_nextEdge 41 = some (.istore 7, 2, 7, 0, 0, 0) := rfl
theorem fX1_nextEdge_43 : fetch tX1_nextEdge 43 = some (.iload 7, 2, 7, 0, 0, 0) := rfl
theorem fX1_nextEdge_45 : fetch tX1_nextEdge 45 = some (.ifCond .eq 49, 3, 94, 0, 0, 0) := rfl
theorem fX1_nextEdge_48 : fetch tX1_nextEdge 48 = some (.iload 6, 2, 6, 0, 0, 0) := rfl
theorem fX1_nextEdge_50 : fetch tX1_nextEdge 50 = some (.invokestatic 43, 3, 0, 3, 0, 0) := rfl
theorem fX1_nextEdge_53 : fetch tX1_nextEdge 53 = some (.ifCond .eq 41, 3, 94, 0, 0, 0) := rfl
theorem fX1_nextEdge_56 : fetch tX1_nextEdge 56 = some (.aload_n 0, 1, 0, 0, 0, 0) := rfl
theorem fX1_nextEdge_57 : fetch tX1_nextEdge 57 = some (.getfield 9, 3, 1, 0, 0, 0) := rfl
theorem fX1_nextEdge_60 : fetch tX1_nextEdge 60 = some (.iload 6, 2, 6, 0, 0, 0) := rfl
theorem fX1_nextEdge_62 : fetch tX1_nextEdge 62 = some (.iaload, 1, 0, 0, 0, 0) := rfl
theorem fX1_nextEdge_63 : fetch tX1_nextEdge 63 = some (.bipush 31, 2, 0, 0, 31, 0) := rfl
theorem fX1_nextEdge_65 : fetch tX1_nextEdge 65 = some (.if_icmp .eq 6, 3, 71, 0, 0, 0) := rfl
theorem fX1_nextEdge_68 : fetch tX1_nextEdge 68 = some (.goto 26, 3, 94, 0, 0, 0) := rfl
theorem fX1_nextEdge_71 : fetch tX1_nextEdge 71 = some (.aload_n 0, 1, 0, 0, 0, 0) := rfl
theorem fX1_nextEdge_72 : fetch tX1_nextEdge 72 = some (.aload_n 1, 1, 1, 0, 0, 0) := rfl
theorem fX1_nextEdge_73 : fetch tX1_nextEdge 73 = some (.iload 5, 2, 5, 0, 0, 0) := rfl
theorem fX1_nextEdge_75 : fetch tX1_nextEdge 75 = some (.invokevirtual 62, 3, 1, 1, 0, 0) := rfl
theorem fX1_nextEdge_78 : fetch tX1_nextEdge 78 = some (.istore 8, 2, 8, 0, 0, 0) := rfl
theorem fX1_nextEdge_80 : fetch tX1_nextEdge 80 = some (.iload 8, 2, 8, 0, 0, 0) := rfl
theorem fX1_nextEdge_82 : fetch tX1_nextEdge 82 = some (.iload 4, 2, 4, 0, 0, 0) := rfl
theorem fX1_nextEdge_84 : fetch tX1_nextEdge 84 = some (.if_icmp .ge 10, 3, 94, 0, 0, 0) := rfl
theorem fX1_nextEdge_87 : fetch tX1_nextEdge 87 = some (.iload 8, 2, 8, 0, 0, 0) := rfl
theorem fX1_nextEdge_89 : fetch tX1_nextEdge 89 = some (.istore 4, 2, 4, 0, 0, 0) := rfl
theorem fX1_nextEdge_91 : fetch tX1_nextEdge 91 = some (.iload 5, 2, 5, 0, 0, 0) := rfl
theorem fX1_nextEdge_93 : fetch tX1_nextEdge 93 = some (.istore_n 3, 1, 3, 0, 0, 0) := rfl
theorem fX1_nextEdge_94 : fetch tX1_nextEdge 94 = some (.iinc 5 1, 3, 5, 0, 1, 0) := rfl
theorem fX1_nextEdge_97 : fetch tX1_nextEdge 97 = some (.goto (-88), 3, 9, 0, 0, 0) := rfl
theorem fX1_nextEdge_100 : fetch tX1_nextEdge 100 = some (.iload_n 3, 1, 3, 0, 0, 0) := rfl
theorem fX1_nextEdge_101 : fetch tX1_nextEdge 101 = some (.ireturn, 1, 0, 0, 0, 0) := rfl
def tX1_collect : List (Nat × TE) := [(0, .lload 4, 2, 4, 0, 0, 0), (2, .lstore 6, 2, 6, 0, 0, 0), (4, .lload 4, 2, 4, 0, 0, 0), (6, .lstore 8, 2, 8, 0, 0, 0), (8, .iload_n 3, 1, 3, 0, 0, 0), (9, .istore 10, 2, 10, 0, 0, 0), (11, .iconst 0, 1, 0, 0, 0, 0), (12, .istore 11, 2, 11, 0, 0, 0), (14, .iload 11, 2, 11, 0, 0, 0), (16, .aload_n 1, 1, 1, 0, 0, 0), (17, .getfield 56, 3, 0, 4, 0, 0), (20, .if_icmp .ge 96, 3, 116, 0, 0, 0), (23, .iload_n 2, 1, 2, 0, 0, 0), (24, .iload 11, 2, 11, 0, 0, 0), (26, .ishr, 1, 0, 0, 0, 0), (27, .iconst 1, 1, 0, 0, 1, 0), (28, .iand, 1, 0, 0, 0, 0), (29, .iconst 1, 1, 0, 0, 1, 0), (30, .if_icmp .ne 6, 3, 36, 0, 0, 0), (33, .goto 77, 3, 110, 0, 0, 0), (36, .aload_n 1, 1, 1, 0, 0, 0), (37, .getfield 89, 3, 0, 2, 0, 0), (40, .iload 11, 2, 11, 0, 0, 0), (42, .iaload, 1, 0, 0, 0, 0), (43, .istore 12, 2, 12, 0, 0, 0), (45, .iload 12, 2, 12, 0, 0, 0), (47, .bipush 10, 2, 0, 0, 10, 0), (49, .iload 12, 2, 12, 0, 0, 0), (51, .isub, 1, 0, 0, 0, 0), (52, .if_icmp .le 7, 3, 59, 0, 0, 0), (55, .iconst 1, 1, 0, 0, 1, 0), (56, .goto 4, 3, 60, 0, 0, 0), (59, .iconst 0, 1, 0, 0, 0, 0), (60, .istore 13, 2, 13, 0, 0, 0), (62, .lload 6, 2, 6, 0, 0, 0), (64, .ldc2_w 92, 3, 0, 0, 0, 10), (67, .lmul, 1, 0, 0, 0, 0), (68, .lstore 6, 2, 6, 0, 0, 0), (70, .lload 8, 2, 8, 0, 0, 0), (72, .iload 13, 2, 13, 0, 0, 0), (74, .ifCond .eq 9, 3, 83, 0, 0, 0), (77, .iload 12, 2, 12, 0, 0, 0), (79, .i2l, 1, 0, 0, 0, 0), (80, .goto 9, 3, 89, 0, 0, 0), (83, .bipush 10, 2, 0, 0, 10, 0), (85, .iload 12, 2, 12, 0, 0, 0), (87, .isub, 1, 0, 0, 0, 0), (88, .i2l, 1, 0, 0, 0, 0), (89, .lmul, 1, 0, 0, 0, 0), (90, .lstore 8, 2, 8, 0, 0, 0), (92, .iload 10, 2, 10, 0, 0, 0), (94, .iload 13, 2, 13, 0, 0, 0), (96, .ifCond .eq 10, 3, 106, 0, 0, 0), (99, .iconst 1, 1, 0, 0, 1, 0), (100, .iload 11, 2, 11, 0, 0, 0), (102, .ishl, 1, 0, 0, 0, 0), (103, .goto 4, 3, 107, 0, 0, 0), (106, .iconst 0, 1, 0, 0, 0, 0), (107, .ior, 1, 0, 0, 0, 0), (108, .istore 10, 2, 10, 0, 0, 0), (110, .iinc 11 1, 3, 11, 0, 1, 0), (113, .goto (-99), 3, 14, 0, 0, 0), (116, .aload_n 0, 1, 0, 0, 0, 0), (117, .dup, 1, 0, 0, 0, 0), (118, .getfield 18, 3, 1, 2, 0, 0), (121, .lload 6, 2, 6, 0, 0, 0), (123, .ladd, 1, 0, 0, 0, 0), (124, .putfield 18, 3, 1, 2, 0, 0), (127, .aload_n 0, 1, 0, 0, 0, 0), (128, .lload 8, 2, 8, 0, 0, 0), (130, .iload 10, 2, 10, 0, 0, 0), (132, .invokevirtual 94, 3, 0, 1, 0, 0), (135, .iconst 0, 1, 0, 0, 0, 0), (136, .istore 11, 2, 11, 0, 0, 0), (138, .iload 11, 2, 11, 0, 0, 0), (140, .bipush 8, 2, 0, 0, 8, 0), (142, .if_icmp .ge 55, 3, 197, 0, 0, 0), (145, .aload_n 0, 1, 0, 0, 0, 0), (146, .getfield 32, 3, 1, 6, 0, 0), (149, .iload 11, 2, 11, 0, 0, 0), (151, .dup2, 1, 0, 0, 0, 0), (152, .laload, 1, 0, 0, 0, 0), (153, .lconst 1, 1, 0, 0, 0, 1), (154, .aload_n 0, 1, 0, 0, 0, 0), (155, .getfield 9, 3, 1, 0, 0, 0), (158, .iload 11, 2, 11, 0, 0, 0), (160, .iaload, 1, 0, 0, 0, 0), (161, .lshl, 1, 0, 0, 0, 0), (162, .lor, 1, 0, 0, 0, 0), (163, .lastore, 1, 0, 0, 0, 0), (164, .aload_n 0, 1, 0, 0, 0, 0), (165, .dup, 1, 0, 0, 0, 0), (166, .getfield 22, 3, 1, 3, 0, 0), (169, .aload_n 0, 1, 0, 0, 0, 0), (170, .getfield 9, 3, 1, 0, 0, 0), (173, .iload 11, 2, 11, 0, 0, 0), (175, .iaload, 1, 0, 0, 0, 0), (176, .bipush 31, 2, 0, 0, 31, 0), (178, .if_icmp .ne 7, 3, 185, 0, 0, 0), (181, .lconst 0, 1, 0, 0, 0, 0), (182, .goto 5, 3, 187, 0, 0, 0), (185, .lload 6, 2, 6, 0, 0, 0), (187, .ladd, 1, 0, 0, 0, 0), (188, .putfield 22, 3, 1, 3, 0, 0), (191, .iinc 11 1, 3, 11, 0, 1, 0), (194, .goto (-56), 3, 138, 0, 0, 0), (197, .return_, 1, 0, 0, 0, 0)]
theorem tkX1_collect : tOk cX1_collect "RumourSource$Spread" 14 tX1_collect = true := by decide +kernel
theorem fX1_collect_0 : fetch tX1_collect 0 = some (.lload 4, 2, 4, 0, 0, 0) := rfl
theorem fX1_collect_2 : fetch tX1_collect 2 = some (.lstore 6, 2, 6, 0, 0, 0) := rfl
theorem fX1_collect_4 : fetch tX1_collect 4 = some (.lload 4, 2, 4, 0, 0, 0) := rfl
theorem fX1_collect_6 : fetch tX1_collect 6 = some (.lstore 8, 2, 8, 0, 0, 0) := rfl
theorem fX1_collect_8 : fetch tX1_collect 8 = some (.iload_n 3, 1, 3, 0, 0, 0) := rfl
theorem fX1_collect_9 : fetch tX1_collect 9 = some (.istore 10, 2, 10, 0, 0, 0) := rfl
theorem fX1_collect_11 : fetch tX1_collect 11 = some (.iconst 0, 1, 0, 0, 0, 0) := rfl
theorem fX1_collect_12 : fetch tX1_collect 12 = some (.istore 11, 2, 11, 0, 0, 0) := rfl
theorem fX1_collect_14 : fetch tX1_collect 14 = some (.iload 11, 2, 11, 0, 0, 0) := rfl
theorem fX1_collect_16 : fetch tX1_collect 16 = some (.aload_n 1, 1, 1, 0, 0, 0) := rfl
theorem fX1_collect_17 : fetch tX1_collect 17 = some (.getfield 56, 3, 0, 4, 0, 0) := rfl
theorem fX1_collect_20 : fetch tX1_collect 20 = some (.if_icmp .ge 96, 3, 116, 0, 0, 0) := rfl
theorem fX1_collect_23 : fetch tX1_collect 23 = some (.iload_n 2, 1, 2, 0, 0, 0) := rfl
theorem fX1_collect_24 : fetch tX1_collect 24 = some (.iload 11, 2, 11, 0, 0, 0) := rfl
theorem fX1_collect_26 : fetch tX1_collect 26 = some (.ishr, 1, 0, 0, 0, 0) := rfl
theorem fX1_collect_27 : fetch tX1_collect 27 = some (.iconst 1, 1, 0, 0, 1, 0) := rfl
theorem fX1_collect_28 : fetch tX1_collect 28 = some (.iand, 1, 0, 0, 0, 0) := rfl
theorem fX1_collect_29 : fetch tX1_collect 29 = some (.iconst 1, 1, 0, 0, 1, 0) := rfl
theorem fX1_collect_30 : fetch tX1_collect 30 = some (.if_icmp .ne 6, 3, 36, 0, 0, 0) := rfl
theorem fX1_collect_33 : fetch tX1_collect 33 = some (.goto 77, 3, 110, 0, 0, 0) := rfl
theorem fX1_collect_36 : fetch tX1_collect 36 = some (.aload_n 1, 1, 1, 0, 0, 0) := rfl
theorem fX1_collect_37 : fetch tX1_collect 37 = some (.getfield 89, 3, 0, 2, 0, 0) := rfl
theorem fX1_collect_40 : fetch tX1_collect 40 = some (.iload 11, 2, 11, 0, 0, 0) := rfl
theorem fX1_collect_42 : fetch tX1_collect 42 = some (.iaload, 1, 0, 0, 0, 0) := rfl
theorem fX1_collect_43 : fetch tX1_collect 43 = some (.istore 12, 2, 12, 0, 0, 0) := rfl
theorem fX1_collect_45 : fetch tX1_collect 45 = some (.iload 12, 2, 12, 0, 0, 0) := rfl
theorem fX1_collect_47 : fetch tX1_collect 47 = some (.bipush 10, 2, 0, 0, 10, 0) := rfl
theorem fX1_collect_49 : fetch tX1_collect 49 = some (.iload 12, 2, 12, 0, 0, 0) := rfl
theorem fX1_collect_51 : fetch tX1_collect 51 = some (.isub, 1, 0, 0, 0, 0) := rfl
theorem fX1_collect_52 : fetch tX1_collect 52 = some (.if_icmp .le 7, 3, 59, 0, 0, 0) := rfl
theorem fX1_collect_55 : fetch tX1_collect 55 = some (.iconst 1, 1, 0, 0, 1, 0) := rfl
theorem fX1_collect_56 : fetch tX1_collect 56 = some (.goto 4, 3, 60, 0, 0, 0) := rfl
theorem fX1_collect_59 : fetch tX1_collect 59 = some (.iconst 0, 1, 0, 0, 0, 0) := rfl
theorem fX1_collect_60 : fetch tX1_collect 60 = some (.istore 13, 2, 13, 0, 0, 0) := rfl
theorem fX1_collect_62 : fetch tX1_collect 62 = some (.lload 6, 2, 6, 0, 0, 0) := rfl
theorem fX1_collect_64 : fetch tX1_collect 64 = some (.ldc2_w 92, 3, 0, 0, 0, 10) := rfl
theorem fX1_collect_67 : fetch tX1_collect 67 = some (.lmul, 1, 0, 0, 0, 0) := rfl
theorem fX1_collect_68 : fetch tX1_collect 68 = some (.lstore 6, 2, 6, 0, 0, 0) := rfl
theorem fX1_collect_70 : fetch tX1_collect 70 = some (.lload 8, 2, 8, 0, 0, 0) := rfl
theorem fX1_collect_72 : fetch tX1_collect 72 = some (.iload 13, 2, 13, 0, 0, 0) := rfl
theorem fX1_collect_74 : fetch tX1_collect 74 = some (.ifCond .eq 9, 3, 83, 0, 0, 0) := rfl
theorem fX1_collect_77 : fetch tX1_collect 77 = some (.iload 12, 2, 12, 0, 0, 0) := rfl
theorem fX1_collect_79 : fetch tX1_collect 79 = some (.i2l, 1, 0, 0, 0, 0) := rfl
theorem fX1_collect_80 : fetch tX1_collect 80 = some (.goto 9, 3, 89, 0, 0, 0) := rfl
theorem fX1_collect_83 : fetch tX1_collect 83 = some (.bipush 10, 2, 0, 0, 10, 0) := rfl
theorem fX1_collect_85 : fetch tX1_collect 85 = some (.iload 12, 2, 12, 0, 0, 0) := rfl
theorem fX1_collect_87 : fetch tX1_collect 87 = some (.isub, 1, 0, 0, 0, 0) := rfl
theorem fX1_collect_88 : fetch tX1_collect 88 = some (.i2l, 1, 0, 0, 0, 0) := rfl
theorem fX1_collect_89 : fetch tX1_collect 89 = some (.lmul, 1, 0, 0, 0, 0) := rfl
theorem fX1_collect_90 : fetch tX1_collect 90 = some (.lstore 8, 2, 8, 0, 0, 0) := rfl
theorem fX1_collect_92 : fetch tX1_collect 92 = some (.iload 10, 2, 10, 0, 0, 0) := rfl
theorem fX1_collect_94 : fetch tX1_collect 94 = some (.iload 13, 2, 13, 0, 0, 0) := rfl
theorem fX1_collect_96 : fetch tX1_collect 96 = some (.ifCond .eq 10, 3, 106, 0, 0, 0) := rfl
theorem fX1_collect_99 : fetch tX1_collect 99 = some (.iconst 1, 1, 0, 0, 1, 0) := rfl
theorem fX1_collect_100 : fetch tX1_collect 100 = some (.iload 11, 2, 11, 0, 0, 0) := rfl
theorem fX1_collect_102 : fetch tX1_collect 102 = some (.ishl, 1, 0, 0, 0, 0) := rfl
theorem fX1_collect_103 : fetch tX1_collect 103 = some (.goto 4, 3, 107, 0, 0, 0) := rfl
theorem fX1_collect_106 : fetch tX1_collect 106 = some (.iconst 0, 1, 0, 0, 0, 0) := rfl
theorem fX1_collect_107 : fetch tX1_collect 107 = some (.ior, 1, 0, 0, 0, 0) := rfl
theorem fX1_collect_108 : fetch tX1_collect 108 = some (.istore 10, 2, 10, 0, 0, 0) := rfl
theorem fX1_collect_110 : fetch tX1_collect 110 = some (.iinc 11 1, 3, 11, 0, 1, 0) := rfl
theorem fX1_collect_113 : fetch tX1_collect 113 = some (.goto (-99), 3, 14, 0, 0, 0) := rfl
theorem fX1_collect_116 : fetch tX1_collect 116 = some (.aload_n 0, 1, 0, 0, 0, 0) := rfl
theorem fX1_collect_117 : fetch tX1_collect 117 = some (.dup, 1, 0, 0, 0, 0) := rfl
theorem fX1_collect_118 : fetch tX1_collect 118 = some (.getfield 18, 3, 1, 2, 0, 0) := rfl
theorem fX1_collect_121 : fetch tX1_collect 121 = some (.lload 6, 2, 6, 0, 0, 0) := rfl
theorem fX1_collect_123 : fetch tX1_collect 123 = some (.ladd, 1, 0, 0, 0, 0) := rfl
theorem fX1_collect_124 : fetch tX1_collect 124 = some (.putfield 18, 3, 1, 2, 0, 0) := rfl
theorem fX1_collect_127 : fetch tX1_collect 127 = some (.aload_n 0, 1, 0, 0, 0, 0) := rfl
theorem fX1_collect_128 : fetch tX1_collect 128 = some (.lload 8, 2, 8, 0, 0, 0) := rfl
theorem fX1_collect_130 : fetch tX1_collect 130 = some (.iload 10, 2, 10, 0, 0, 0) := rfl
theorem fX1_collect_132 : fetch tX1_collect 132 = some (.invokevirtual 94, 3, 0, 1, 0, 0) := rfl
theorem fX1_collect_135 : fetch tX1_collect 135 = some (.iconst 0, 1, 0, 0, 0, 0) := rfl
theorem fX1_collect_136 : fetch tX1_collect 136 = some (.istore 11, 2, 11, 0, 0, 0) := rfl
theorem fX1_collect_138 : fetch tX1_collect 138 = some (.iload 11, 2, 11, 0, 0, 0) := rfl
theorem fX1_collect_140 : fetch tX1_collect 140 = some (.bipush 8, 2, 0, 0, 8, 0) := rfl
theorem fX1_collect_142 : fetch tX1_collect 142 = some (.if_icmp .ge 55, 3, 197, 0, 0, 0) := rfl
theorem fX1_collect_145 : fetch tX1_collect 145 = some (.aload_n 0, 1, 0, 0, 0, 0) := rfl
theorem fX1_collect_146 : fetch tX1_collect 146 = some (.getfield 32, 3, 1, 6, 0, 0) := rfl
theorem fX1_collect_149 : fetch tX1_collect 149 = some (.iload 11, 2, 11, 0, 0, 0) := rfl
theorem fX1_collect_151 : fetch tX1_collect 151 = some (.dup2, 1, 0, 0, 0, 0) := rfl
theorem fX1_collect_152 : fetch tX1_collect 152 = some (.laload, 1, 0, 0, 0, 0) := rfl
theorem fX1_collect_153 : fetch tX1_collect 153 = some (.lconst 1, 1, 0, 0, 0, 1) := rfl
theorem fX1_collect_154 : fetch tX1_collect 154 = some (.aload_n 0, 1, 0, 0, 0, 0) := rfl
theorem fX1_collect_155 : fetch tX1_collect 155 = some (.getfield 9, 3, 1, 0, 0, 0) := rfl
theorem fX1_collect_158 : fetch tX1_collect 158 = some (.iload 11, 2, 11, 0, 0, 0) := rfl
theorem fX1_collect_160 : fetch tX1_collect 160 = some (.iaload, 1, 0, 0, 0, 0) := rfl
theorem fX1_collect_161 : fetch tX1_collect 161 = some (.lshl, 1, 0, 0, 0, 0) := rfl
theorem fX1_collect_162 : fetch tX1_collect 162 = some (.lor, 1, 0, 0, 0, 0) := rfl
theorem fX1_collect_163 : fetch tX1_collect 163 = some (.lastore, 1, 0, 0, 0, 0) := rfl
theorem fX1_collect_164 : fetch tX1_collect 164 = some (.aload_n 0, 1, 0, 0, 0, 0) := rfl
theorem fX1_collect_165 : fetch tX1_collect 165 = some (.dup, 1, 0, 0, 0, 0) := rfl
theorem fX1_collect_166 : fetch tX1_collect 166 = some (.getfield 22, 3, 1, 3, 0, 0) := rfl
theorem fX1_collect_169 : fetch tX1_collect 169 = some (.aload_n 0, 1, 0, 0, 0, 0) := rfl
theorem fX1_collect_170 : fetch tX1_collect 170 = some (.getfield 9, 3, 1, 0, 0, 0) := rfl
theorem fX1_collect_173 : fetch tX1_collect 173 = some (.iload 11, 2, 11, 0, 0, 0) := rfl
theorem fX1_collect_175 : fetch tX1_collect 175 = some (.iaload, 1, 0, 0, 0, 0) := rfl
theorem fX1_collect_176 : fetch tX1_collect 176 = some (.bipush 31, 2, 0, 0, 31, 0) := rfl
theorem fX1_collect_178 : fetch tX1_collect 178 = some (.if_icmp .ne 7, 3, 185, 0, 0, 0) := rfl
theorem fX1_collect_181 : fetch tX1_collect 181 = some (.lconst 0, 1, 0, 0, 0, 0) := rfl
theorem fX1_collect_182 : fetch tX1_collect 182 = some (.goto 5, 3, 187, 0, 0, 0) := rfl
theorem fX1_collect_185 : fetch tX1_collect 185 = some (.lload 6, 2, 6, 0, 0, 0) := rfl
theorem fX1_collect_187 : fetch tX1_collect 187 = some (.ladd, 1, 0, 0, 0, 0) := rfl
theorem fX1_collect_188 : fetch tX1_collect 188 = some (.putfield 22, 3, 1, 3, 0, 0) := rfl
theorem fX1_collect_191 : fetch tX1_collect 191 = some (.iinc 11 1, 3, 11, 0, 1, 0) := rfl
theorem fX1_collect_194 : fetch tX1_collect 194 = some (.goto (-56), 3, 138, 0, 0, 0) := rfl
theorem fX1_collect_197 : fetch tX1_collect 197 = some (.return_, 1, 0, 0, 0, 0) := rfl
def tX1_keepBest : List (Nat × TE) := [(0, .lload_n 1, 1, 1, 0, 0, 0), (1, .aload_n 0, 1, 0, 0, 0, 0), (2, .getfield 25, 3, 1, 4, 0, 0), (5, .lcmp, 1, 0, 0, 0, 0), (6, .ifCond .gt 20, 3, 26, 0, 0, 0), (9, .lload_n 1, 1, 1, 0, 0, 0), (10, .aload_n 0, 1, 0, 0, 0, 0), (11, .getfield 25, 3, 1, 4, 0, 0), (14, .lcmp, 1, 0, 0, 0, 0), (15, .ifCond .ne 21, 3, 36, 0, 0, 0), (18, .iload_n 3, 1, 3, 0, 0, 0), (19, .aload_n 0, 1, 0, 0, 0, 0), (20, .getfield 28, 3, 1, 5, 0, 0), (23, .if_icmp .ge 13, 3, 36, 0, 0, 0), (26, .aload_n 0, 1, 0, 0, 0, 0), (27, .lload_n 1, 1, 1, 0, 0, 0), (28, .putfield 25, 3, 1, 4, 0, 0), (31, .aload_n 0, 1, 0, 0, 0, 0), (32, .iload_n 3, 1, 3, 0, 0, 0), (33, .putfield 28, 3, 1, 5, 0, 0), (36, .return_, 1, 0, 0, 0, 0)]
theorem tkX1_keepBest : tOk cX1_keepBest "RumourSource$Spread" 4 tX1_keepBest = true := by decide +kernel
theorem fX1_keepBest_0 : fetch tX1_keepBest 0 = some (.lload_n 1, 1, 1, 0, 0, 0) := rfl
theorem fX1_keepBest_1 : fetch tX1_keepBest 1 = some (.aload_n 0, 1, 0, 0, 0, 0) := rfl
theorem fX1_keepBest_2 : fetch tX1_keepBest 2 = some (.getfield 25, 3, 1, 4, 0, 0) := rfl
theorem fX1_keepBest_5 : fetch tX1_keepBest 5 = some (.lcmp, 1, 0, 0, 0, 0) := rfl
theorem fX1_keepBest_6 : fetch tX1_keepBest 6 = some (.ifCond .gt 20, 3, 26, 0, 0, 0) := rfl
theorem fX1_keepBest_9 : fetch tX1_keepBest 9 = some (.lload_n 1, 1, 1, 0, 0, 0) := rfl
theorem fX1_keepBest_10 : fetch tX1_keepBest 10 = some (.aload_n 0, 1, 0, 0, 0, 0) := rfl
theorem fX1_keepBest_11 : fetch tX1_keepBest 11 = some (.getfield 25, 3, 1, 4, 0, 0) := rfl
theorem fX1_keepBest_14 : fetch tX1_keepBest 14 = some (.lcmp, 1, 0, 0, 0, 0) := rfl
theorem fX1_keepBest_15 : fetch tX1_keepBest 15 = some (.ifCond .ne 21, 3, 36, 0, 0, 0) := rfl
theorem fX1_keepBest_18 : fetch tX1_keepBest 18 = some (.iload_n 3, 1, 3, 0, 0, 0) := rfl
theorem fX1_keepBest_19 : fetch tX1_keepBest 19 = some (.aload_n 0, 1, 0, 0, 0, 0) := rfl
theorem fX1_keepBest_20 : fetch tX1_keepBest 20 = some (.getfield 28, 3, 1, 5, 0, 0) := rfl
theorem fX1_keepBest_23 : fetch tX1_keepBest 23 = some (.if_icmp .ge 13, 3, 36, 0, 0, 0) := rfl
theorem fX1_keepBest_26 : fetch tX1_keepBest 26 = some (.aload_n 0, 1, 0, 0, 0, 0) := rfl
theorem fX1_keepBest_27 : fetch tX1_keepBest 27 = some (.lload_n 1, 1, 1, 0, 0, 0) := rfl
theorem fX1_keepBest_28 : fetch tX1_keepBest 28 = some (.putfield 25, 3, 1, 4, 0, 0) := rfl
theorem fX1_keepBest_31 : fetch tX1_keepBest 31 = some (.aload_n 0, 1, 0, 0, 0, 0) := rfl
theorem fX1_keepBest_32 : fetch tX1_keepBest 32 = some (.iload_n 3, 1, 3, 0, 0, 0) := rfl
theorem fX1_keepBest_33 : fetch tX1_keepBest 33 = some (.putfield 28, 3, 1, 5, 0, 0) := rfl
theorem fX1_keepBest_36 : fetch tX1_keepBest 36 = some (.return_, 1, 0, 0, 0, 0) := rfl
def tX2_read : List (Nat × TE) := [(0, .aload_n 0, 1, 0, 0, 0, 0), (1, .getfield 22, 3, 2, 2, 0, 0), (4, .aload_n 1, 1, 1, 0, 0, 0), (5, .invokevirtual 32, 3, 0, 0, 0, 0), (8, .aload_n 0, 1, 0, 0, 0, 0), (9, .iconst 0, 1, 0, 0, 0, 0), (10, .putfield 26, 3, 2, 3, 0, 0), (13, .aload_n 0, 1, 0, 0, 0, 0), (14, .iconst (-1), 1, 0, 0, (-1), 0), (15, .putfield 29, 3, 2, 4, 0, 0), (18, .iconst 1, 1, 0, 0, 1, 0), (19, .istore_n 2, 1, 2, 0, 0, 0), (20, .iconst 0, 1, 0, 0, 0, 0), (21, .istore_n 3, 1, 3, 0, 0, 0), (22, .iload_n 2, 1, 2, 0, 0, 0), (23, .ifCond .eq 35, 3, 58, 0, 0, 0), (26, .iload_n 3, 1, 3, 0, 0, 0), (27, .bipush 120, 2, 0, 0, 120, 0), (29, .if_icmp .ge 29, 3, 58, 0, 0, 0), (32, .aload_n 0, 1, 0, 0, 0, 0), (33, .invokevirtual 36, 3, 1, 2, 0, 0), (36, .ifCond .eq 14, 3, 50, 0, 0, 0), (39, .aload_n 0, 1, 0, 0, 0, 0), (40, .invokevirtual 40, 3, 2, 2, 0, 0), (43, .ifCond .eq 7, 3, 50, 0, 0, 0), (46, .iconst 1, 1, 0, 0, 1, 0), (47, .goto 4, 3, 51, 0, 0, 0), (50, .iconst 0, 1, 0, 0, 0, 0), (51, .istore_n 2, 1, 2, 0, 0, 0), (52, .iinc 3 1, 3, 3, 0, 1, 0), (55, .goto (-33), 3, 22, 0, 0, 0), (58, .aload_n 0, 1, 0, 0, 0, 0), (59, .getfield 29, 3, 2, 4, 0, 0), (62, .ireturn, 1, 0, 0, 0, 0)]
theorem tkX2_read : tOk cX2_read "RumourSource$Text" 4 tX2_read = true := by decide +kernel
theorem fX2_read_0 : fetch tX2_read 0 = some (.aload_n 0, 1, 0, 0, 0, 0) := rfl
theorem fX2_read_1 : fetch tX2_read 1 = some (.getfield 22, 3, 2, 2, 0, 0) := rfl
theorem fX2_read_4 : fetch tX2_read 4 = some (.aload_n 1, 1, 1, 0, 0, 0) := rfl
theorem fX2_read_5 : fetch tX2_read 5 = some (.invokevirtual 32, 3, 0, 0, 0, 0) := rfl
theorem fX2_read_8 : fetch tX2_read 8 = some (.aload_n 0, 1, 0, 0, 0, 0) := rfl
theorem fX2_read_9 : fetch tX2_read 9 = some (.iconst 0, 1, 0, 0, 0, 0) := rfl
theorem fX2_read_10 : fetch tX2_read 10 = some (.putfield 26, 3, 2, 3, 0, 0) := rfl
theorem fX2_read_13 : fetch tX2_read 13 = some (.aload_n 0, 1, 0, 0, 0, 0) := rfl
theorem fX2_read_14 : fetch tX2_read 14 = some (.iconst (-1), 1, 0, 0, (-1), 0) := rfl
theorem fX2_read_15 : fetch tX2_read 15 = some (.putfield 29, 3, 2, 4, 0, 0) := rfl
theorem fX2_read_18 : fetch tX2_read 18 = some (.iconst 1, 1, 0, 0, 1, 0) := rfl
theorem fX2_read_19 : fetch tX2_read 19 = some (.istore_n 2, 1, 2, 0, 0, 0) := rfl
theorem fX2_read_20 : fetch tX2_read 20 = some (.iconst 0, 1, 0, 0, 0, 0) := rfl
theorem fX2_read_21 : fetch tX2_read 21 = some (.istore_n 3, 1, 3, 0, 0, 0) := rfl
theorem fX2_read_22 : fetch tX2_read 22 = some (.iload_n 2, 1, 2, 0, 0, 0) := rfl
theorem fX2_read_23 : fetch tX2_read 23 = some (.ifCond .eq 35, 3, 58, 0, 0, 0) := rfl
theorem fX2_read_26 : fetch tX2_read 26 = some (.iload_n 3, 1, 3, 0, 0, 0) := rfl
theorem fX2_read_27 : fetch tX2_read 27 = some (.bipush 120, 2, 0, 0, 120, 0) := rfl
theorem fX2_read_29 : fetch tX2_read 29 = some (.if_icmp .ge 29, 3, 58, 0, 0, 0) := rfl
theorem fX2_read_32 : fetch tX2_read 32 = some (.aload_n 0, 1, 0, 0, 0, 0) := rfl
theorem fX2_read_33 : fetch tX2_read 33 = some (.invokevirtual 36, 3, 1, 2, 0, 0) := rfl
theorem fX2_read_36 : fetch tX2_read 36 = some (.ifCond .eq 14, 3, 50, 0, 0, 0) := rfl
theorem fX2_read_39 : fetch tX2_read 39 = some (.aload_n 0, 1, 0, 0, 0, 0) := rfl
theorem fX2_read_40 : fetch tX2_read 40 = some (.invokevirtual 40, 3, 2, 2, 0, 0) := rfl
theorem fX2_read_43 : fetch tX2_read 43 = some (.ifCond .eq 7, 3, 50, 0, 0, 0) := rfl
theorem fX2_read_46 : fetch tX2_read 46 = some (.iconst 1, 1, 0, 0, 1, 0) := rfl
theorem fX2_read_47 : fetch tX2_read 47 = some (.goto 4, 3, 51, 0, 0, 0) := rfl
theorem fX2_read_50 : fetch tX2_read 50 = some (.iconst 0, 1, 0, 0, 0, 0) := rfl
theorem fX2_read_51 : fetch tX2_read 51 = some (.istore_n 2, 1, 2, 0, 0, 0) := rfl
theorem fX2_read_52 : fetch tX2_read 52 = some (.iinc 3 1, 3, 3, 0, 1, 0) := rfl
theorem fX2_read_55 : fetch tX2_read 55 = some (.goto (-33), 3, 22, 0, 0, 0) := rfl
theorem fX2_read_58 : fetch tX2_read 58 = some (.aload_n 0, 1, 0, 0, 0, 0) := rfl
theorem fX2_read_59 : fetch tX2_read 59 = some (.getfield 29, 3, 2, 4, 0, 0) := rfl
theorem fX2_read_62 : fetch tX2_read 62 = some (.ireturn, 1, 0, 0, 0, 0) := rfl
def tX2_readItem : List (Nat × TE) := [(0, .aload_n 0, 1, 0, 0, 0, 0), (1, .invokevirtual 43, 3, 0, 2, 0, 0), (4, .istore_n 1, 1, 1, 0, 0, 0), (5, .iload_n 1, 1, 1, 0, 0, 0), (6, .iconst (-1), 1, 0, 0, (-1), 0), (7, .if_icmp .ne 8, 3, 15, 0, 0, 0), (10, .aload_n 0, 1, 0, 0, 0, 0), (11, .invokevirtual 47, 3, 1, 2, 0, 0), (14, .ireturn, 1, 0, 0, 0, 0), (15, .aload_n 0, 1, 0, 0, 0, 0), (16, .dup, 1, 0, 0, 0, 0), (17, .getfield 26, 3, 2, 3, 0, 0), (20, .iconst 1, 1, 0, 0, 1, 0), (21, .iadd, 1, 0, 0, 0, 0), (22, .putfield 26, 3, 2, 3, 0, 0), (25, .aload_n 0, 1, 0, 0, 0, 0), (26, .invokevirtual 50, 3, 2, 2, 0, 0), (29, .istore_n 2, 1, 2, 0, 0, 0), (30, .iload_n 2, 1, 2, 0, 0, 0), (31, .bipush 62, 2, 0, 0, 62, 0), (33, .if_icmp .eq 14, 3, 47, 0, 0, 0), (36, .iload_n 2, 1, 2, 0, 0, 0), (37, .bipush 61, 2, 0, 0, 61, 0), (39, .if_icmp .eq 8, 3, 47, 0, 0, 0), (42, .aload_n 0, 1, 0, 0, 0, 0), (43, .invokevirtual 47, 3, 1, 2, 0, 0), (46, .ireturn, 1, 0, 0, 0, 0), (47, .aload_n 0, 1, 0, 0, 0, 0), (48, .dup, 1, 0, 0, 0, 0), (49, .getfield 26, 3, 2, 3, 0, 0), (52, .iconst 1, 1, 0, 0, 1, 0), (53, .iadd, 1, 0, 0, 0, 0), (54, .putfield 26, 3, 2, 3, 0, 0), (57, .iload_n 2, 1, 2, 0, 0, 0), (58, .bipush 62, 2, 0, 0, 62, 0), (60, .if_icmp .ne 11, 3, 71, 0, 0, 0), (63, .aload_n 0, 1, 0, 0, 0, 0), (64, .iload_n 1, 1, 1, 0, 0, 0), (65, .invokevirtual 53, 3, 3, 2, 0, 0), (68, .goto 8, 3, 76, 0, 0, 0), (71, .aload_n 0, 1, 0, 0, 0, 0), (72, .iload_n 1, 1, 1, 0, 0, 0), (73, .invokevirtual 57, 3, 4, 2, 0, 0), (76, .ireturn, 1, 0, 0, 0, 0)]
theorem tkX2_readItem : tOk cX2_readItem "RumourSource$Text" 3 tX2_readItem = true := by decide +kernel
theorem fX2_readItem_0 : fetch tX2_readItem 0 = some (.aload_n 0, 1, 0, 0, 0, 0) := rfl
theorem fX2_readItem_1 : fetch tX2_readItem 1 = some (.invokevirtual 43, 3, 0, 2, 0, 0) := rfl
theorem fX2_readItem_4 : fetch tX2_readItem 4 = some (.istore_n 1, 1, 1, 0, 0, 0) := rfl
theorem fX2_readItem_5 : fetch tX2_readItem 5 = some (.iload_n 1, 1, 1, 0, 0, 0) := rfl
theorem fX2_readItem_6 : fetch tX2_readItem 6 = some (.iconst (-1), 1, 0, 0, (-1), 0) := rfl
theorem fX2_readItem_7 : fetch tX2_readItem 7 = some (.if_icmp .ne 8, 3, 15, 0, 0, 0) := rfl
theorem fX2_readItem_10 : fetch tX2_readItem 10 = some (.aload_n 0, 1, 0, 0, 0, 0) := rfl
theorem fX2_readItem_11 : fetch tX2_readItem 11 = some (.invokevirtual 47, 3, 1, 2, 0, 0) := rfl
theorem fX2_readItem_14 : fetch tX2_readItem 14 = some (.ireturn, 1, 0, 0, 0, 0) := rfl
theorem fX2_readItem_15 : fetch tX2_readItem 15 = some (.aload_n 0, 1, 0, 0, 0, 0) := rfl
theorem fX2_readItem_16 : fetch tX2_readItem 16 = some (.dup, 1, 0, 0, 0, 0) := rfl
theorem fX2_readItem_17 : fetch tX2_readItem 17 = some (.getfield 26, 3, 2, 3, 0, 0) := rfl
theorem fX2_readItem_20 : fetch tX2_readItem 20 = some (.iconst 1, 1, 0, 0, 1, 0) := rfl
theorem fX2_readItem_21 : fetch tX2_readItem 21 = some (.iadd, 1, 0, 0, 0, 0) := rfl
theorem fX2_readItem_22 : fetch tX2_readItem 22 = some (.putfield 26, 3, 2, 3, 0, 0) := rfl
theorem fX2_readItem_25 : fetch tX2_readItem 25 = some (.aload_n 0, 1, 0, 0, 0, 0) := rfl
theorem fX2_readItem_26 : fetch tX2_readItem 26 = some (.invokevirtual 50, 3, 2, 2, 0, 0) := rfl
theorem fX2_readItem_29 : fetch tX2_readItem 29 = some (.istore_n 2, 1, 2, 0, 0, 0) := rfl
theorem fX2_readItem_30 : fetch tX2_readItem 30 = some (.iload_n 2, 1, 2, 0, 0, 0) := rfl
theorem fX2_readItem_31 : fetch tX2_readItem 31 = some (.bipush 62, 2, 0, 0, 62, 0) := rfl
theorem fX2_readItem_33 : fetch tX2_readItem 33 = some (.if_icmp .eq 14, 3, 47, 0, 0, 0) := rfl
theorem fX2_readItem_36 : fetch tX2_readItem 36 = some (.iload_n 2, 1, 2, 0, 0, 0) := rfl
theorem fX2_readItem_37 : fetch tX2_readItem 37 = some (.bipush 61, 2, 0, 0, 61, 0) := rfl
theorem fX2_readItem_39 : fetch tX2_readItem 39 = some (.if_icmp .eq 8, 3, 47, 0, 0, 0) := rfl
theorem fX2_readItem_42 : fetch tX2_readItem 42 = some (.aload_n 0, 1, 0, 0, 0, 0) := rfl
theorem fX2_readItem_43 : fetch tX2_readItem 43 = some (.invokevirtual 47, 3, 1, 2, 0, 0) := rfl
theorem fX2_readItem_46 : fetch tX2_readItem 46 = some (.ireturn, 1, 0, 0, 0, 0) := rfl
theorem fX2_readItem_47 : fetch tX2_readItem 47 = some (.aload_n 0, 1, 0, 0, 0, 0) := rfl
theorem fX2_readItem_48 : fetch tX2_readItem 48 = some (.dup, 1, 0, 0, 0, 0) := rfl
theorem fX2_readItem_49 : fetch tX2_readItem 49 = some (.getfield 26, 3, 2, 3, 0, 0) := rfl
theorem fX2_readItem_52 : fetch tX2_readItem 52 = some (.iconst 1, 1, 0, 0, 1, 0) := rfl
theorem fX2_readItem_53 : fetch tX2_readItem 53 = some (.iadd, 1, 0, 0, 0, 0) := rfl
theorem fX2_readItem_54 : fetch tX2_readItem 54 = some (.putfield 26, 3, 2, 3, 0, 0) := rfl
theorem fX2_readItem_57 : fetch tX2_readItem 57 = some (.iload_n 2, 1, 2, 0, 0, 0) := rfl
theorem fX2_readItem_58 : fetch tX2_readItem 58 = some (.bipush 62, 2, 0, 0, 62, 0) := rfl
theorem fX2_readItem_60 : fetch tX2_readItem 60 = some (.if_icmp .ne 11, 3, 71, 0, 0, 0) := rfl
theorem fX2_readItem_63 : fetch tX2_readItem 63 = some (.aload_n 0, 1, 0, 0, 0, 0) := rfl
theorem fX2_readItem_64 : fetch tX2_readItem 64 = some (.iload_n 1, 1, 1, 0, 0, 0) := rfl
theorem fX2_readItem_65 : fetch tX2_readItem 65 = some (.invokevirtual 53, 3, 3, 2, 0, 0) := rfl
theorem fX2_readItem_68 : fetch tX2_readItem 68 = some (.goto 8, 3, 76, 0, 0, 0) := rfl
theorem fX2_readItem_71 : fetch tX2_readItem 71 = some (.aload_n 0, 1, 0, 0, 0, 0) := rfl
theorem fX2_readItem_72 : fetch tX2_readItem 72 = some (.iload_n 1, 1, 1, 0, 0, 0) := rfl
theorem fX2_readItem_73 : fetch tX2_readItem 73 = some (.invokevirtual 57, 3, 4, 2, 0, 0) := rfl
theorem fX2_readItem_76 : fetch tX2_readItem 76 = some (.ireturn, 1, 0, 0, 0, 0) := rfl
def tX2_readSemicolon : List (Nat × TE) := [(0, .aload_n 0, 1, 0, 0, 0, 0), (1, .invokevirtual 50, 3, 0, 2, 0, 0), (4, .istore_n 1, 1, 1, 0, 0, 0), (5, .iload_n 1, 1, 1, 0, 0, 0), (6, .iconst (-1), 1, 0, 0, (-1), 0), (7, .if_icmp .ne 5, 3, 12, 0, 0, 0), (10, .iconst 0, 1, 0, 0, 0, 0), (11, .ireturn, 1, 0, 0, 0, 0), (12, .aload_n 0, 1, 0, 0, 0, 0), (13, .bipush 59, 2, 0, 0, 59, 0), (15, .invokevirtual 60, 3, 1, 2, 0, 0), (18, .ireturn, 1, 0, 0, 0, 0)]
theorem tkX2_readSemicolon : tOk cX2_readSemicolon "RumourSource$Text" 2 tX2_readSemicolon = true := by decide +kernel
theorem fX2_readSemicolon_0 : fetch tX2_readSemicolon 0 = some (.aload_n 0, 1, 0, 0, 0, 0) := rfl
theorem fX2_readSemicolon_1 : fetch tX2_readSemicolon 1 = some (.invokevirtual 50, 3, 0, 2, 0, 0) := rfl
theorem fX2_readSemicolon_4 : fetch tX2_readSemicolon 4 = some (.istore_n 1, 1, 1, 0, 0, 0) := rfl
theorem fX2_readSemicolon_5 : fetch tX2_readSemicolon 5 = some (.iload_n 1, 1, 1, 0, 0, 0) := rfl
theorem fX2_readSemicolon_6 : fetch tX2_readSemicolon 6 = some (.iconst (-1), 1, 0, 0, (-1), 0) := rfl
theorem fX2_readSemicolon_7 : fetch tX2_readSemicolon 7 = some (.if_icmp .ne 5, 3, 12, 0, 0, 0) := rfl
theorem fX2_readSemicolon_10 : fetch tX2_readSemicolon 10 = some (.iconst 0, 1, 0, 0, 0, 0) := rfl
theorem fX2_readSemicolon_11 : fetch tX2_readSemicolon 11 = some (.ireturn, 1, 0, 0, 0, 0) := rfl
theorem fX2_readSemicolon_12 : fetch tX2_readSemicolon 12 = some (.aload_n 0, 1, 0, 0, 0, 0) := rfl
theorem fX2_readSemicolon_13 : fetch tX2_readSemicolon 13 = some (.bipush 59, 2, 0, 0, 59, 0) := rfl
theorem fX2_readSemicolon_15 : fetch tX2_readSemicolon 15 = some (.invokevirtual 60, 3, 1, 2, 0, 0) := rfl
theorem fX2_readSemicolon_18 : fetch tX2_readSemicolon 18 = some (.ireturn, 1, 0, 0, 0, 0) := rfl
def tX2_readEdge : List (Nat × TE) := [(0, .aload_n 0, 1, 0, 0, 0, 0), (1, .invokevirtual 43, 3, 0, 2, 0, 0), (4, .istore_n 2, 1, 2, 0, 0, 0), (5, .aload_n 0, 1, 0, 0, 0, 0), (6, .getfield 22, 3, 2, 2, 0, 0), (9, .invokevirtual 63, 3, 1, 0, 0, 0), (12, .ifCond .eq 20, 3, 32, 0, 0, 0), (15, .aload_n 0, 1, 0, 0, 0, 0), (16, .getfield 22, 3, 2, 2, 0, 0), (19, .iload_n 1, 1, 1, 0, 0, 0), (20, .iload_n 2, 1, 2, 0, 0, 0), (21, .invokevirtual 66, 3, 2, 0, 0, 0), (24, .iconst (-1), 1, 0, 0, (-1), 0), (25, .if_icmp .ne 7, 3, 32, 0, 0, 0), (28, .iconst 1, 1, 0, 0, 1, 0), (29, .goto 4, 3, 33, 0, 0, 0), (32, .iconst 0, 1, 0, 0, 0, 0), (33, .istore_n 3, 1, 3, 0, 0, 0), (34, .iload_n 2, 1, 2, 0, 0, 0), (35, .iconst (-1), 1, 0, 0, (-1), 0), (36, .if_icmp .eq 12, 3, 48, 0, 0, 0), (39, .iload_n 2, 1, 2, 0, 0, 0), (40, .iload_n 1, 1, 1, 0, 0, 0), (41, .if_icmp .eq 7, 3, 48, 0, 0, 0), (44, .iload_n 3, 1, 3, 0, 0, 0), (45, .ifCond .eq 8, 3, 53, 0, 0, 0), (48, .aload_n 0, 1, 0, 0, 0, 0), (49, .invokevirtual 47, 3, 3, 2, 0, 0), (52, .ireturn, 1, 0, 0, 0, 0), (53, .aload_n 0, 1, 0, 0, 0, 0), (54, .dup, 1, 0, 0, 0, 0), (55, .getfield 26, 3, 2, 3, 0, 0), (58, .iconst 1, 1, 0, 0, 1, 0), (59, .iadd, 1, 0, 0, 0, 0), (60, .putfield 26, 3, 2, 3, 0, 0), (63, .aload_n 0, 1, 0, 0, 0, 0), (64, .bipush 42, 2, 0, 0, 42, 0), (66, .invokevirtual 60, 3, 4, 2, 0, 0), (69, .ifCond .ne 5, 3, 74, 0, 0, 0), (72, .iconst 0, 1, 0, 0, 0, 0), (73, .ireturn, 1, 0, 0, 0, 0), (74, .aload_n 0, 1, 0, 0, 0, 0), (75, .iconst 0, 1, 0, 0, 0, 0), (76, .bipush 10, 2, 0, 0, 10, 0), (78, .invokevirtual 70, 3, 5, 2, 0, 0), (81, .istore 4, 2, 4, 0, 0, 0), (83, .iload 4, 2, 4, 0, 0, 0), (85, .iconst (-1), 1, 0, 0, (-1), 0), (86, .if_icmp .eq 12, 3, 98, 0, 0, 0), (89, .aload_n 0, 1, 0, 0, 0, 0), (90, .bipush 43, 2, 0, 0, 43, 0), (92, .invokevirtual 60, 3, 4, 2, 0, 0), (95, .ifCond .ne 5, 3, 100, 0, 0, 0), (98, .iconst 0, 1, 0, 0, 0, 0), (99, .ireturn, 1, 0, 0, 0, 0), (100, .aload_n 0, 1, 0, 0, 0, 0), (101, .iconst 1, 1, 0, 0, 1, 0), (102, .iconst 5, 1, 0, 0, 5, 0), (103, .invokevirtual 70, 3, 5, 2, 0, 0), (106, .istore 5, 2, 5, 0, 0, 0), (108, .iload 5, 2, 5, 0, 0, 0), (110, .iconst (-1), 1, 0, 0, (-1), 0), (111, .if_icmp .ne 5, 3, 116, 0, 0, 0), (114, .iconst 0, 1, 0, 0, 0, 0), (115, .ireturn, 1, 0, 0, 0, 0), (116, .aload_n 0, 1, 0, 0, 0, 0), (117, .getfield 22, 3, 2, 2, 0, 0), (120, .iload_n 1, 1, 1, 0, 0, 0), (121, .iload_n 2, 1, 2, 0, 0, 0), (122, .iload 4, 2, 4, 0, 0, 0), (124, .iload 5, 2, 5, 0, 0, 0), (126, .invokevirtual 73, 3, 6, 0, 0, 0), (129, .iconst (-1), 1, 0, 0, (-1), 0), (130, .if_icmp .eq 7, 3, 137, 0, 0, 0), (133, .iconst 1, 1, 0, 0, 1, 0), (134, .goto 4, 3, 138, 0, 0, 0), (137, .iconst 0, 1, 0, 0, 0, 0), (138, .ireturn, 1, 0, 0, 0, 0)]
theorem tkX2_readEdge : tOk cX2_readEdge "RumourSource$Text" 6 tX2_readEdge = true := by decide +kernel
theorem fX2_readEdge_0 : fetch tX2_readEdge 0 = some (.aload_n 0, 1, 0, 0, 0, 0) := rfl
theorem fX2_readEdge_1 : fetch tX2_readEdge 1 = some (.invokevirtual 43, 3, 0, 2, 0, 0) := rfl
theorem fX2_readEdge_4 : fetch tX2_readEdge 4 = some (.istore_n 2, 1, 2, 0, 0, 0) := rfl
theorem fX2_readEdge_5 : fetch tX2_readEdge 5 = some (.aload_n 0, 1, 0, 0, 0, 0) := rfl
theorem fX2_readEdge_6 : fetch tX2_readEdge 6 = some (.getfield 22, 3, 2, 2, 0, 0) := rfl
theorem fX2_readEdge_9 : fetch tX2_readEdge 9 = some (.invokevirtual 63, 3, 1, 0, 0, 0) := rfl
theorem fX2_readEdge_12 : fetch tX2_readEdge 12 = some (.ifCond .eq 20, 3, 32, 0, 0, 0) := rfl
theorem fX2_readEdge_15 : fetch tX2_readEdge 15 = some (.aload_n 0, 1, 0, 0, 0, 0) := rfl
theorem fX2_readEdge_16 : fetch tX2_readEdge 16 = some (.getfield 22, 3, 2, 2, 0, 0) := rfl
theorem fX2_readEdge_19 : fetch tX2_readEdge 19 = some (.iload_n 1, 1, 1, 0, 0, 0) := rfl
theorem fX2_readEdge_20 : fetch tX2_readEdge 20 = some (.iload_n 2, 1, 2, 0, 0, 0) := rfl
theorem fX2_readEdge_21 : fetch tX2_readEdge 21 = some (.invokevirtual 66, 3, 2, 0, 0, 0) := rfl
theorem fX2_readEdge_24 : fetch tX2_readEdge 24 = some (.iconst (-1), 1, 0, 0, (-1), 0) := rfl
theorem fX2_readEdge_25 : fetch tX2_readEdge 25 = some (.if_icmp .ne 7, 3, 32, 0, 0, 0) := rfl
theorem fX2_readEdge_28 : fetch tX2_readEdge 28 = some (.iconst 1, 1, 0, 0, 1, 0) := rfl
theorem fX2_readEdge_29 : fetch tX2_readEdge 29 = some (.goto 4, 3, 33, 0, 0, 0) := rfl
theorem fX2_readEdge_32 : fetch tX2_readEdge 32 = some (.iconst 0, 1, 0, 0, 0, 0) := rfl
theorem fX2_readEdge_33 : fetch tX2_readEdge 33 = some (.istore_n 3, 1, 3, 0, 0, 0) := rfl
theorem fX2_readEdge_34 : fetch tX2_readEdge 34 = some (.iload_n 2, 1, 2, 0, 0, 0) := rfl
theorem fX2_readEdge_35 : fetch tX2_readEdge 35 = some (.iconst (-1), 1, 0, 0, (-1), 0) := rfl
theorem fX2_readEdge_36 : fetch tX2_readEdge 36 = some (.if_icmp .eq 12, 3, 48, 0, 0, 0) := rfl
theorem fX2_readEdge_39 : fetch tX2_readEdge 39 = some (.iload_n 2, 1, 2, 0, 0, 0) := rfl
theorem fX2_readEdge_40 : fetch tX2_readEdge 40 = some (.iload_n 1, 1, 1, 0, 0, 0) := rfl
theorem fX2_readEdge_41 : fetch tX2_readEdge 41 = some (.if_icmp .eq 7, 3, 48, 0, 0, 0) := rfl
theorem fX2_readEdge_44 : fetch tX2_readEdge 44 = some (.iload_n 3, 1, 3, 0, 0, 0) := rfl
theorem fX2_readEdge_45 : fetch tX2_readEdge 45 = some (.ifCond .eq 8, 3, 53, 0, 0, 0) := rfl
theorem fX2_readEdge_48 : fetch tX2_readEdge 48 = some (.aload_n 0, 1, 0, 0, 0, 0) := rfl
theorem fX2_readEdge_49 : fetch tX2_readEdge 49 = some (.invokevirtual 47, 3, 3, 2, 0, 0) := rfl
theorem fX2_readEdge_52 : fetch tX2_readEdge 52 = some (.ireturn, 1, 0, 0, 0, 0) := rfl
theorem fX2_readEdge_53 : fetch tX2_readEdge 53 = some (.aload_n 0, 1, 0, 0, 0, 0) := rfl
theorem fX2_readEdge_54 : fetch tX2_readEdge 54 = some (.dup, 1, 0, 0, 0, 0) := rfl
theorem fX2_readEdge_55 : fetch tX2_readEdge 55 = some (.getfield 26, 3, 2, 3, 0, 0) := rfl
theorem fX2_readEdge_58 : fetch tX2_readEdge 58 = some (.iconst 1, 1, 0, 0, 1, 0) := rfl
theorem fX2_readEdge_59 : fetch tX2_readEdge 59 = some (.iadd, 1, 0, 0, 0, 0) := rfl
theorem fX2_readEdge_60 : fetch tX2_readEdge 60 = some (.putfield 26, 3, 2, 3, 0, 0) := rfl
theorem fX2_readEdge_63 : fetch tX2_readEdge 63 = some (.aload_n 0, 1, 0, 0, 0, 0) := rfl
theorem fX2_readEdge_64 : fetch tX2_readEdge 64 = some (.bipush 42, 2, 0, 0, 42, 0) := rfl
theorem fX2_readEdge_66 : fetch tX2_readEdge 66 = some (.invokevirtual 60, 3, 4, 2, 0, 0) := rfl
theorem fX2_readEdge_69 : fetch tX2_readEdge 69 = some (.ifCond .ne 5, 3, 74, 0, 0, 0) := rfl
theorem fX2_readEdge_72 : fetch tX2_readEdge 72 = some (.iconst 0, 1, 0, 0, 0, 0) := rfl
theorem fX2_readEdge_73 : fetch tX2_readEdge 73 = some (.ireturn, 1, 0, 0, 0, 0) := rfl
theorem fX2_readEdge_74 : fetch tX2_readEdge 74 = some (.aload_n 0, 1, 0, 0, 0, 0) := rfl
theorem fX2_readEdge_75 : fetch tX2_readEdge 75 = some (.iconst 0, 1, 0, 0, 0, 0) := rfl
theorem fX2_readEdge_76 : fetch tX2_readEdge 76 = some (.bipush 10, 2, 0, 0, 10, 0) := rfl
theorem fX2_readEdge_78 : fetch tX2_readEdge 78 = some (.invokevirtual 70, 3, 5, 2, 0, 0) := rfl
theorem fX2_readEdge_81 : fetch tX2_readEdge 81 = some (.istore 4, 2, 4, 0, 0, 0) := rfl
theorem fX2_readEdge_83 : fetch tX2_readEdge 83 = some (.iload 4, 2, 4, 0, 0, 0) := rfl
theorem fX2_readEdge_85 : fetch tX2_readEdge 85 = some (.iconst (-1), 1, 0, 0, (-1), 0) := rfl
theorem fX2_readEdge_86 : fetch tX2_readEdge 86 = some (.if_icmp .eq 12, 3, 98, 0, 0, 0) := rfl
theorem fX2_readEdge_89 : fetch tX2_readEdge 89 = some (.aload_n 0, 1, 0, 0, 0, 0) := rfl
theorem fX2_readEdge_90 : fetch tX2_readEdge 90 = some (.bipush 43, 2, 0, 0, 43, 0) := rfl
theorem fX2_readEdge_92 : fetch tX2_readEdge 92 = some (.invokevirtual 60, 3, 4, 2, 0, 0) := rfl
theorem fX2_readEdge_95 : fetch tX2_readEdge 95 = some (.ifCond .ne 5, 3, 100, 0, 0, 0) := rfl
theorem fX2_readEdge_98 : fetch tX2_readEdge 98 = some (.iconst 0, 1, 0, 0, 0, 0) := rfl
theorem fX2_readEdge_99 : fetch tX2_readEdge 99 = some (.ireturn, 1, 0, 0, 0, 0) := rfl
theorem fX2_readEdge_100 : fetch tX2_readEdge 100 = some (.aload_n 0, 1, 0, 0, 0, 0) := rfl
theorem fX2_readEdge_101 : fetch tX2_readEdge 101 = some (.iconst 1, 1, 0, 0, 1, 0) := rfl
theorem fX2_readEdge_102 : fetch tX2_readEdge 102 = some (.iconst 5, 1, 0, 0, 5, 0) := rfl
theorem fX2_readEdge_103 : fetch tX2_readEdge 103 = some (.invokevirtual 70, 3, 5, 2, 0, 0) := rfl
theorem fX2_readEdge_106 : fetch tX2_readEdge 106 = some (.istore 5, 2, 5, 0, 0, 0) := rfl
theorem fX2_readEdge_108 : fetch tX2_readEdge 108 = some (.iload 5, 2, 5, 0, 0, 0) := rfl
theorem fX2_readEdge_110 : fetch tX2_readEdge 110 = some (.iconst (-1), 1, 0, 0, (-1), 0) := rfl
theorem fX2_readEdge_111 : fetch tX2_readEdge 111 = some (.if_icmp .ne 5, 3, 116, 0, 0, 0) := rfl
theorem fX2_readEdge_114 : fetch tX2_readEdge 114 = some (.iconst 0, 1, 0, 0, 0, 0) := rfl
theorem fX2_readEdge_115 : fetch tX2_readEdge 115 = some (.ireturn, 1, 0, 0, 0, 0) := rfl
theorem fX2_readEdge_116 : fetch tX2_readEdge 116 = some (.aload_n 0, 1, 0, 0, 0, 0) := rfl
theorem fX2_readEdge_117 : fetch tX2_readEdge 117 = some (.getfield 22, 3, 2, 2, 0, 0) := rfl
theorem fX2_readEdge_120 : fetch tX2_readEdge 120 = some (.iload_n 1, 1, 1, 0, 0, 0) := rfl
theorem fX2_readEdge_121 : fetch tX2_readEdge 121 = some (.iload_n 2, 1, 2, 0, 0, 0) := rfl
theorem fX2_readEdge_122 : fetch tX2_readEdge 122 = some (.iload 4, 2, 4, 0, 0, 0) := rfl
theorem fX2_readEdge_124 : fetch tX2_readEdge 124 = some (.iload 5, 2, 5, 0, 0, 0) := rfl
theorem fX2_readEdge_126 : fetch tX2_readEdge 126 = some (.invokevirtual 73, 3, 6, 0, 0, 0) := rfl
theorem fX2_readEdge_129 : fetch tX2_readEdge 129 = some (.iconst (-1), 1, 0, 0, (-1), 0) := rfl
theorem fX2_readEdge_130 : fetch tX2_readEdge 130 = some (.if_icmp .eq 7, 3, 137, 0, 0, 0) := rfl
theorem fX2_readEdge_133 : fetch tX2_readEdge 133 = some (.iconst 1, 1, 0, 0, 1, 0) := rfl
theorem fX2_readEdge_134 : fetch tX2_readEdge 134 = some (.goto 4, 3, 138, 0, 0, 0) := rfl
theorem fX2_readEdge_137 : fetch tX2_readEdge 137 = some (.iconst 0, 1, 0, 0, 0, 0) := rfl
theorem fX2_readEdge_138 : fetch tX2_readEdge 138 = some (.ireturn, 1, 0, 0, 0, 0) := rfl
def tX2_readObservation : List (Nat × TE) := [(0, .aload_n 0, 1, 0, 0, 0, 0), (1, .invokevirtual 50, 3, 0, 2, 0, 0), (4, .bipush 45, 2, 0, 0, 45, 0), (6, .if_icmp .ne 25, 3, 31, 0, 0, 0), (9, .aload_n 0, 1, 0, 0, 0, 0), (10, .dup, 1, 0, 0, 0, 0), (11, .getfield 26, 3, 2, 3, 0, 0), (14, .iconst 1, 1, 0, 0, 1, 0), (15, .iadd, 1, 0, 0, 0, 0), (16, .putfield 26, 3, 2, 3, 0, 0), (19, .aload_n 0, 1, 0, 0, 0, 0), (20, .getfield 22, 3, 2, 2, 0, 0), (23, .getfield 77, 3, 0, 6, 0, 0), (26, .iload_n 1, 1, 1, 0, 0, 0), (27, .iconst (-1), 1, 0, 0, (-1), 0), (28, .iastore, 1, 0, 0, 0, 0), (29, .iconst 1, 1, 0, 0, 1, 0), (30, .ireturn, 1, 0, 0, 0, 0), (31, .aload_n 0, 1, 0, 0, 0, 0), (32, .iconst 0, 1, 0, 0, 0, 0), (33, .bipush 30, 2, 0, 0, 30, 0), (35, .invokevirtual 70, 3, 1, 2, 0, 0), (38, .istore_n 2, 1, 2, 0, 0, 0), (39, .iload_n 2, 1, 2, 0, 0, 0), (40, .iconst (-1), 1, 0, 0, (-1), 0), (41, .if_icmp .ne 5, 3, 46, 0, 0, 0), (44, .iconst 0, 1, 0, 0, 0, 0), (45, .ireturn, 1, 0, 0, 0, 0), (46, .aload_n 0, 1, 0, 0, 0, 0), (47, .getfield 22, 3, 2, 2, 0, 0), (50, .getfield 77, 3, 0, 6, 0, 0), (53, .iload_n 1, 1, 1, 0, 0, 0), (54, .iload_n 2, 1, 2, 0, 0, 0), (55, .iastore, 1, 0, 0, 0, 0), (56, .iconst 1, 1, 0, 0, 1, 0), (57, .ireturn, 1, 0, 0, 0, 0)]
theorem tkX2_readObservation : tOk cX2_readObservation "RumourSource$Text" 3 tX2_readObservation = true := by decide +kernel
theorem fX2_readObservation_0 : fetch tX2_readObservation 0 = some (.aload_n 0, 1, 0, 0, 0, 0) := rfl
theorem fX2_readObservation_1 : fetch tX2_readObservation 1 = some (.invokevirtual 50, 3, 0, 2, 0, 0) := rfl
theorem fX2_readObservation_4 : fetch tX2_readObservation 4 = some (.bipush 45, 2, 0, 0, 45, 0) := rfl
theorem fX2_readObservation_6 : fetch tX2_readObservation 6 = some (.if_icmp .ne 25, 3, 31, 0, 0, 0) := rfl
theorem fX2_readObservation_9 : fetch tX2_readObservation 9 = some (.aload_n 0, 1, 0, 0, 0, 0) := rfl
theorem fX2_readObservation_10 : fetch tX2_readObservation 10 = some (.dup, 1, 0, 0, 0, 0) := rfl
theorem fX2_readObservation_11 : fetch tX2_readObservation 11 = some (.getfield 26, 3, 2, 3, 0, 0) := rfl
theorem fX2_readObservation_14 : fetch tX2_readObservation 14 = some (.iconst 1, 1, 0, 0, 1, 0) := rfl
theorem fX2_readObservation_15 : fetch tX2_readObservation 15 = some (.iadd, 1, 0, 0, 0, 0) := rfl
theorem fX2_readObservation_16 : fetch tX2_readObservation 16 = some (.putfield 26, 3, 2, 3, 0, 0) := rfl
theorem fX2_readObservation_19 : fetch tX2_readObservation 19 = some (.aload_n 0, 1, 0, 0, 0, 0) := rfl
theorem fX2_readObservation_20 : fetch tX2_readObservation 20 = some (.getfield 22, 3, 2, 2, 0, 0) := rfl
theorem fX2_readObservation_23 : fetch tX2_readObservation 23 = some (.getfield 77, 3, 0, 6, 0, 0) := rfl
theorem fX2_readObservation_26 : fetch tX2_readObservation 26 = some (.iload_n 1, 1, 1, 0, 0, 0) := rfl
theorem fX2_readObservation_27 : fetch tX2_readObservation 27 = some (.iconst (-1), 1, 0, 0, (-1), 0) := rfl
theorem fX2_readObservation_28 : fetch tX2_readObservation 28 = some (.iastore, 1, 0, 0, 0, 0) := rfl
theorem fX2_readObservation_29 : fetch tX2_readObservation 29 = some (.iconst 1, 1, 0, 0, 1, 0) := rfl
theorem fX2_readObservation_30 : fetch tX2_readObservation 30 = some (.ireturn, 1, 0, 0, 0, 0) := rfl
theorem fX2_readObservation_31 : fetch tX2_readObservation 31 = some (.aload_n 0, 1, 0, 0, 0, 0) := rfl
theorem fX2_readObservation_32 : fetch tX2_readObservation 32 = some (.iconst 0, 1, 0, 0, 0, 0) := rfl
theorem fX2_readObservation_33 : fetch tX2_readObservation 33 = some (.bipush 30, 2, 0, 0, 30, 0) := rfl
theorem fX2_readObservation_35 : fetch tX2_readObservation 35 = some (.invokevirtual 70, 3, 1, 2, 0, 0) := rfl
theorem fX2_readObservation_38 : fetch tX2_readObservation 38 = some (.istore_n 2, 1, 2, 0, 0, 0) := rfl
theorem fX2_readObservation_39 : fetch tX2_readObservation 39 = some (.iload_n 2, 1, 2, 0, 0, 0) := rfl
theorem fX2_readObservation_40 : fetch tX2_readObservation 40 = some (.iconst (-1), 1, 0, 0, (-1), 0) := rfl
theorem fX2_readObservation_41 : fetch tX2_readObservation 41 = some (.if_icmp .ne 5, 3, 46, 0, 0, 0) := rfl
theorem fX2_readObservation_44 : fetch tX2_readObservation 44 = some (.iconst 0, 1, 0, 0, 0, 0) := rfl
theorem fX2_readObservation_45 : fetch tX2_readObservation 45 = some (.ireturn, 1, 0, 0, 0, 0) := rfl
theorem fX2_readObservation_46 : fetch tX2_readObservation 46 = some (.aload_n 0, 1, 0, 0, 0, 0) := rfl
theorem fX2_readObservation_47 : fetch tX2_readObservation 47 = some (.getfield 22, 3, 2, 2, 0, 0) := rfl
theorem fX2_readObservation_50 : fetch tX2_readObservation 50 = some (.getfield 77, 3, 0, 6, 0, 0) := rfl
theorem fX2_readObservation_53 : fetch tX2_readObservation 53 = some (.iload_n 1, 1, 1, 0, 0, 0) := rfl
theorem fX2_readObservation_54 : fetch tX2_readObservation 54 = some (.iload_n 2, 1, 2, 0, 0, 0) := rfl
theorem fX2_readObservation_55 : fetch tX2_readObservation 55 = some (.iastore, 1, 0, 0, 0, 0) := rfl
theorem fX2_readObservation_56 : fetch tX2_readObservation 56 = some (.iconst 1, 1, 0, 0, 1, 0) := rfl
theorem fX2_readObservation_57 : fetch tX2_readObservation 57 = some (.ireturn, 1, 0, 0, 0, 0) := rfl
def tX2_readNumber : List (Nat × TE) := [(0, .aload_n 0, 1, 0, 0, 0, 0), (1, .invokevirtual 50, 3, 0, 2, 0, 0), (4, .pop, 1, 0, 0, 0, 0), (5, .aload_n 0, 1, 0, 0, 0, 0), (6, .getfield 26, 3, 2, 3, 0, 0), (9, .istore_n 3, 1, 3, 0, 0, 0), (10, .iconst 0, 1, 0, 0, 0, 0), (11, .istore 4, 2, 4, 0, 0, 0), (13, .aload_n 0, 1, 0, 0, 0, 0), (14, .getfield 26, 3, 2, 3, 0, 0), (17, .aload_n 0, 1, 0, 0, 0, 0), (18, .getfield 15, 3, 2, 1, 0, 0), (21, .if_icmp .ge 64, 3, 85, 0, 0, 0), (24, .aload_n 0, 1, 0, 0, 0, 0), (25, .getfield 9, 3, 2, 0, 0, 0), (28, .aload_n 0, 1, 0, 0, 0, 0), (29, .getfield 26, 3, 2, 3, 0, 0), (32, .iaload, 1, 0, 0, 0, 0), (33, .bipush 48, 2, 0, 0, 48, 0), (35, .if_icmp .lt 50, 3, 85, 0, 0, 0), (38, .aload_n 0, 1, 0, 0, 0, 0), (39, .getfield 9, 3, 2, 0, 0, 0), (42, .aload_n 0, 1, 0, 0, 0, 0), (43, .getfield 26, 3, 2, 3, 0, 0), (46, .iaload, 1, 0, 0, 0, 0), (47, .bipush 57, 2, 0, 0, 57, 0), (49, .if_icmp .gt 36, 3, 85, 0, 0, 0), (52, .iload 4, 2, 4, 0, 0, 0), (54, .bipush 10, 2, 0, 0, 10, 0), (56, .imul, 1, 0, 0, 0, 0), (57, .aload_n 0, 1, 0, 0, 0, 0), (58, .getfield 9, 3, 2, 0, 0, 0), (61, .aload_n 0, 1, 0, 0, 0, 0), (62, .getfield 26, 3, 2, 3, 0, 0), (65, .iaload, 1, 0, 0, 0, 0), (66, .bipush 48, 2, 0, 0, 48, 0), (68, .isub, 1, 0, 0, 0, 0), (69, .iadd, 1, 0, 0, 0, 0), (70, .istore 4, 2, 4, 0, 0, 0), (72, .aload_n 0, 1, 0, 0, 0, 0), (73, .dup, 1, 0, 0, 0, 0), (74, .getfield 26, 3, 2, 3, 0, 0), (77, .iconst 1, 1, 0, 0, 1, 0), (78, .iadd, 1, 0, 0, 0, 0), (79, .putfield 26, 3, 2, 3, 0, 0), (82, .goto (-69), 3, 13, 0, 0, 0), (85, .aload_n 0, 1, 0, 0, 0, 0), (86, .getfield 26, 3, 2, 3, 0, 0), (89, .iload_n 3, 1, 3, 0, 0, 0), (90, .isub, 1, 0, 0, 0, 0), (91, .istore 5, 2, 5, 0, 0, 0), (93, .iload 5, 2, 5, 0, 0, 0), (95, .iconst 1, 1, 0, 0, 1, 0), (96, .if_icmp .lt 21, 3, 117, 0, 0, 0), (99, .iload 5, 2, 5, 0, 0, 0), (101, .iconst 2, 1, 0, 0, 2, 0), (102, .if_icmp .gt 15, 3, 117, 0, 0, 0), (105, .iload 4, 2, 4, 0, 0, 0), (107, .iload_n 1, 1, 1, 0, 0, 0), (108, .if_icmp .lt 9, 3, 117, 0, 0, 0), (111, .iload 4, 2, 4, 0, 0, 0), (113, .iload_n 2, 1, 2, 0, 0, 0), (114, .if_icmp .le 15, 3, 129, 0, 0, 0), (117, .aload_n 0, 1, 0, 0, 0, 0), (118, .iload_n 3, 1, 3, 0, 0, 0), (119, .putfield 26, 3, 2, 3, 0, 0), (122, .aload_n 0, 1, 0, 0, 0, 0), (123, .invokevirtual 47, 3, 1, 2, 0, 0), (126, .pop, 1, 0, 0, 0, 0), (127, .iconst (-1), 1, 0, 0, (-1), 0), (128, .ireturn, 1, 0, 0, 0, 0), (129, .iload 4, 2, 4, 0, 0, 0), (131, .ireturn, 1, 0, 0, 0, 0)]
theorem tkX2_readNumber : tOk cX2_readNumber "RumourSource$Text" 6 tX2_readNumber = true := by decide +kernel
theorem fX2_readNumber_0 : fetch tX2_readNumber 0 = some (.aload_n 0, 1, 0, 0, 0, 0) := rfl
theorem fX2_readNumber_1 : fetch tX2_readNumber 1 = some (.invokevirtual 50, 3, 0, 2, 0, 0) := rfl
theorem fX2_readNumber_4 : fetch tX2_readNumber 4 = some (.pop, 1, 0, 0, 0, 0) := rfl
theorem fX2_readNumber_5 : fetch tX2_readNumber 5 = some (.aload_n 0, 1, 0, 0, 0, 0) := rfl
theorem fX2_readNumber_6 : fetch tX2_readNumber 6 = some (.getfield 26, 3, 2, 3, 0, 0) := rfl
theorem fX2_readNumber_9 : fetch tX2_readNumber 9 = some (.istore_n 3, 1, 3, 0, 0, 0) := rfl
theorem fX2_readNumber_10 : fetch tX2_readNumber 10 = some (.iconst 0, 1, 0, 0, 0, 0) := rfl
theorem fX2_readNumber_11 : fetch tX2_readNumber 11 = some (.istore 4, 2, 4, 0, 0, 0) := rfl
theorem fX2_readNumber_13 : fetch tX2_readNumber 13 = some (.aload_n 0, 1, 0, 0, 0, 0) := rfl
theorem fX2_readNumber_14 : fetch tX2_readNumber 14 = some (.getfield 26, 3, 2, 3, 0, 0) := rfl
theorem fX2_readNumber_17 : fetch tX2_readNumber 17 = some (.aload_n 0, 1, 0, 0, 0, 0) := rfl
theorem fX2_readNumber_18 : fetch tX2_readNumber 18 = some (.getfield 15, 3, 2, 1, 0, 0) := rfl
theorem fX2_readNumber_21 : fetch tX2_readNumber 21 = some (.if_icmp .ge 64, 3, 85, 0, 0, 0) := rfl
theorem fX2_readNumber_24 : fetch tX2_readNumber 24 = some (.aload_n 0, 1, 0, 0, 0, 0) := rfl
theorem fX2_readNumber_25 : fetch tX2_readNumber 25 = some (.getfield 9, 3, 2, 0, 0, 0) := rfl
theorem fX2_readNumber_28 : fetch tX2_readNumber 28 = some (.aload_n 0, 1, 0, 0, 0, 0) := rfl
theorem fX2_readNumber_29 : fetch tX2_readNumber 29 = some (.getfield 26, 3, 2, 3, 0, 0) := rfl
theorem fX2_readNumber_32 : fetch tX2_readNumber 32 = some (.iaload, 1, 0, 0, 0, 0) := rfl
theorem fX2_readNumber_33 : fetch tX2_readNumber 33 = some (.bipush 48, 2, 0, 0, 48, 0) := rfl
theorem fX2_readNumber_35 : fetch tX2_readNumber 35 = some (.if_icmp .lt 50, 3, 85, 0, 0, 0) := rfl
theorem fX2_readNumber_38 : fetch tX2_readNumber 38 = some (.aload_n 0, 1, 0, 0, 0, 0) := rfl
theorem fX2_readNumber_39 : fetch tX2_readNumber 39 = some (.getfield 9, 3, 2, 0, 0, 0) := rfl
theorem fX2_readNumber_42 : fetch tX2_readNumber 42 = some (.aload_n 0, 1, 0, 0, 0, 0) := rfl
theorem fX2_readNumber_43 : fetch tX2_readNumber 43 = some (.getfield 26, 3, 2, 3, 0, 0) := rfl
theorem fX2_readNumber_46 : fetch tX2_readNumber 46 = some (.iaload, 1, 0, 0, 0, 0) := rfl
theorem fX2_readNumber_47 : fetch tX2_readNumber 47 = some (.bipush 57, 2, 0, 0, 57, 0) := rfl
theorem fX2_readNumber_49 : fetch tX2_readNumber 49 = some (.if_icmp .gt 36, 3, 85, 0, 0, 0) := rfl
theorem fX2_readNumber_52 : fetch tX2_readNumber 52 = some (.iload 4, 2, 4, 0, 0, 0) := rfl
theorem fX2_readNumber_54 : fetch tX2_readNumber 54 = some (.bipush 10, 2, 0, 0, 10, 0) := rfl
theorem fX2_readNumber_56 : fetch tX2_readNumber 56 = some (.imul, 1, 0, 0, 0, 0) := rfl
theorem fX2_readNumber_57 : fetch tX2_readNumber 57 = some (.aload_n 0, 1, 0, 0, 0, 0) := rfl
theorem fX2_readNumber_58 : fetch tX2_readNumber 58 = some (.getfield 9, 3, 2, 0, 0, 0) := rfl
theorem fX2_readNumber_61 : fetch tX2_readNumber 61 = some (.aload_n 0, 1, 0, 0, 0, 0) := rfl
theorem fX2_readNumber_62 : fetch tX2_readNumber 62 = some (.getfield 26, 3, 2, 3, 0, 0) := rfl
theorem fX2_readNumber_65 : fetch tX2_readNumber 65 = some (.iaload, 1, 0, 0, 0, 0) := rfl
theorem fX2_readNumber_66 : fetch tX2_readNumber 66 = some (.bipush 48, 2, 0, 0, 48, 0) := rfl
theorem fX2_readNumber_68 : fetch tX2_readNumber 68 = some (.isub, 1, 0, 0, 0, 0) := rfl
theorem fX2_readNumber_69 : fetch tX2_readNumber 69 = some (.iadd, 1, 0, 0, 0, 0) := rfl
theorem fX2_readNumber_70 : fetch tX2_readNumber 70 = some (.istore 4, 2, 4, 0, 0, 0) := rfl
theorem fX2_readNumber_72 : fetch tX2_readNumber 72 = some (.aload_n 0, 1, 0, 0, 0, 0) := rfl
theorem fX2_readNumber_73 : fetch tX2_readNumber 73 = some (.dup, 1, 0, 0, 0, 0) := rfl
theorem fX2_readNumber_74 : fetch tX2_readNumber 74 = some (.getfield 26, 3, 2, 3, 0, 0) := rfl
theorem fX2_readNumber_77 : fetch tX2_readNumber 77 = some (.iconst 1, 1, 0, 0, 1, 0) := rfl
theorem fX2_readNumber_78 : fetch tX2_readNumber 78 = some (.iadd, 1, 0, 0, 0, 0) := rfl
theorem fX2_readNumber_79 : fetch tX2_readNumber 79 = some (.putfield 26, 3, 2, 3, 0, 0) := rfl
theorem fX2_readNumber_82 : fetch tX2_readNumber 82 = some (.goto (-69), 3, 13, 0, 0, 0) := rfl
theorem fX2_readNumber_85 : fetch tX2_readNumber 85 = some (.aload_n 0, 1, 0, 0, 0, 0) := rfl
theorem fX2_readNumber_86 : fetch tX2_readNumber 86 = some (.getfield 26, 3, 2, 3, 0, 0) := rfl
theorem fX2_readNumber_89 : fetch tX2_readNumber 89 = some (.iload_n 3, 1, 3, 0, 0, 0) := rfl
theorem fX2_readNumber_90 : fetch tX2_readNumber 90 = some (.isub, 1, 0, 0, 0, 0) := rfl
theorem fX2_readNumber_91 : fetch tX2_readNumber 91 = some (.istore 5, 2, 5, 0, 0, 0) := rfl
theorem fX2_readNumber_93 : fetch tX2_readNumber 93 = some (.iload 5, 2, 5, 0, 0, 0) := rfl
theorem fX2_readNumber_95 : fetch tX2_readNumber 95 = some (.iconst 1, 1, 0, 0, 1, 0) := rfl
theorem fX2_readNumber_96 : fetch tX2_readNumber 96 = some (.if_icmp .lt 21, 3, 117, 0, 0, 0) := rfl
theorem fX2_readNumber_99 : fetch tX2_readNumber 99 = some (.iload 5, 2, 5, 0, 0, 0) := rfl
theorem fX2_readNumber_101 : fetch tX2_readNumber 101 = some (.iconst 2, 1, 0, 0, 2, 0) := rfl
theorem fX2_readNumber_102 : fetch tX2_readNumber 102 = some (.if_icmp .gt 15, 3, 117, 0, 0, 0) := rfl
theorem fX2_readNumber_105 : fetch tX2_readNumber 105 = some (.iload 4, 2, 4, 0, 0, 0) := rfl
theorem fX2_readNumber_107 : fetch tX2_readNumber 107 = some (.iload_n 1, 1, 1, 0, 0, 0) := rfl
theorem fX2_readNumber_108 : fetch tX2_readNumber 108 = some (.if_icmp .lt 9, 3, 117, 0, 0, 0) := rfl
theorem fX2_readNumber_111 : fetch tX2_readNumber 111 = some (.iload 4, 2, 4, 0, 0, 0) := rfl
theorem fX2_readNumber_113 : fetch tX2_readNumber 113 = some (.iload_n 2, 1, 2, 0, 0, 0) := rfl
theorem fX2_readNumber_114 : fetch tX2_readNumber 114 = some (.if_icmp .le 15, 3, 129, 0, 0, 0) := rfl
theorem fX2_readNumber_117 : fetch tX2_readNumber 117 = some (.aload_n 0, 1, 0, 0, 0, 0) := rfl
theorem fX2_readNumber_118 : fetch tX2_readNumber 118 = some (.iload_n 3, 1, 3, 0, 0, 0) := rfl
theorem fX2_readNumber_119 : fetch tX2_readNumber 119 = some (.putfield 26, 3, 2, 3, 0, 0) := rfl
theorem fX2_readNumber_122 : fetch tX2_readNumber 122 = some (.aload_n 0, 1, 0, 0, 0, 0) := rfl
theorem fX2_readNumber_123 : fetch tX2_readNumber 123 = some (.invokevirtual 47, 3, 1, 2, 0, 0) := rfl
theorem fX2_readNumber_126 : fetch tX2_readNumber 126 = some (.pop, 1, 0, 0, 0, 0) := rfl
theorem fX2_readNumber_127 : fetch tX2_readNumber 127 = some (.iconst (-1), 1, 0, 0, (-1), 0) := rfl
theorem fX2_readNumber_128 : fetch tX2_readNumber 128 = some (.ireturn, 1, 0, 0, 0, 0) := rfl
theorem fX2_readNumber_129 : fetch tX2_readNumber 129 = some (.iload 4, 2, 4, 0, 0, 0) := rfl
theorem fX2_readNumber_131 : fetch tX2_readNumber 131 = some (.ireturn, 1, 0, 0, 0, 0) := rfl
def tX2_nextByte : List (Nat × TE) := [(0, .aload_n 0, 1, 0, 0, 0, 0), (1, .getfield 26, 3, 2, 3, 0, 0), (4, .aload_n 0, 1, 0, 0, 0, 0), (5, .getfield 15, 3, 2, 1, 0, 0), (8, .if_icmp .ge 30, 3, 38, 0, 0, 0), (11, .aload_n 0, 1, 0, 0, 0, 0), (12, .getfield 9, 3, 2, 0, 0, 0), (15, .aload_n 0, 1, 0, 0, 0, 0), (16, .getfield 26, 3, 2, 3, 0, 0), (19, .iaload, 1, 0, 0, 0, 0), (20, .bipush 32, 2, 0, 0, 32, 0), (22, .if_icmp .ne 16, 3, 38, 0, 0, 0), (25, .aload_n 0, 1, 0, 0, 0, 0), (26, .dup, 1, 0, 0, 0, 0), (27, .getfield 26, 3, 2, 3, 0, 0), (30, .iconst 1, 1, 0, 0, 1, 0), (31, .iadd, 1, 0, 0, 0, 0), (32, .putfield 26, 3, 2, 3, 0, 0), (35, .goto (-35), 3, 0, 0, 0, 0), (38, .aload_n 0, 1, 0, 0, 0, 0), (39, .getfield 26, 3, 2, 3, 0, 0), (42, .aload_n 0, 1, 0, 0, 0, 0), (43, .getfield 15, 3, 2, 1, 0, 0), (46, .if_icmp .ge 15, 3, 61, 0, 0, 0), (49, .aload_n 0, 1, 0, 0, 0, 0), (50, .getfield 9, 3, 2, 0, 0, 0), (53, .aload_n 0, 1, 0, 0, 0, 0), (54, .getfield 26, 3, 2, 3, 0, 0), (57, .iaload, 1, 0, 0, 0, 0), (58, .goto 4, 3, 62, 0, 0, 0), (61, .iconst (-1), 1, 0, 0, (-1), 0), (62, .ireturn, 1, 0, 0, 0, 0)]
theorem tkX2_nextByte : tOk cX2_nextByte "RumourSource$Text" 1 tX2_nextByte = true := by decide +kernel
theorem fX2_nextByte_0 : fetch tX2_nextByte 0 = some (.aload_n 0, 1, 0, 0, 0, 0) := rfl
theorem fX2_nextByte_1 : fetch tX2_nextByte 1 = some (.getfield 26, 3, 2, 3, 0, 0) := rfl
theorem fX2_nextByte_4 : fetch tX2_nextByte 4 = some (.aload_n 0, 1, 0, 0, 0, 0) := rfl
theorem fX2_nextByte_5 : fetch tX2_nextByte 5 = some (.getfield 15, 3, 2, 1, 0, 0) := rfl
theorem fX2_nextByte_8 : fetch tX2_nextByte 8 = some (.if_icmp .ge 30, 3, 38, 0, 0, 0) := rfl
theorem fX2_nextByte_11 : fetch tX2_nextByte 11 = some (.aload_n 0, 1, 0, 0, 0, 0) := rfl
theorem fX2_nextByte_12 : fetch tX2_nextByte 12 = some (.getfield 9, 3, 2, 0, 0, 0) := rfl
theorem fX2_nextByte_15 : fetch tX2_nextByte 15 = some (.aload_n 0, 1, 0, 0, 0, 0) := rfl
theorem fX2_nextByte_16 : fetch tX2_nextByte 16 = some (.getfield 26, 3, 2, 3, 0, 0) := rfl
theorem fX2_nextByte_19 : fetch tX2_nextByte 19 = some (.iaload, 1, 0, 0, 0, 0) := rfl
theorem fX2_nextByte_20 : fetch tX2_nextByte 20 = some (.bipush 32, 2, 0, 0, 32, 0) := rfl
theorem fX2_nextByte_22 : fetch tX2_nextByte 22 = some (.if_icmp .ne 16, 3, 38, 0, 0, 0) := rfl
theorem fX2_nextByte_25 : fetch tX2_nextByte 25 = some (.aload_n 0, 1, 0, 0, 0, 0) := rfl
theorem fX2_nextByte_26 : fetch tX2_nextByte 26 = some (.dup, 1, 0, 0, 0, 0) := rfl
theorem fX2_nextByte_27 : fetch tX2_nextByte 27 = some (.getfield 26, 3, 2, 3, 0, 0) := rfl
theorem fX2_nextByte_30 : fetch tX2_nextByte 30 = some (.iconst 1, 1, 0, 0, 1, 0) := rfl
theorem fX2_nextByte_31 : fetch tX2_nextByte 31 = some (.iadd, 1, 0, 0, 0, 0) := rfl
theorem fX2_nextByte_32 : fetch tX2_nextByte 32 = some (.putfield 26, 3, 2, 3, 0, 0) := rfl
theorem fX2_nextByte_35 : fetch tX2_nextByte 35 = some (.goto (-35), 3, 0, 0, 0, 0) := rfl
theorem fX2_nextByte_38 : fetch tX2_nextByte 38 = some (.aload_n 0, 1, 0, 0, 0, 0) := rfl
theorem fX2_nextByte_39 : fetch tX2_nextByte 39 = some (.getfield 26, 3, 2, 3, 0, 0) := rfl
theorem fX2_nextByte_42 : fetch tX2_nextByte 42 = some (.aload_n 0, 1, 0, 0, 0, 0) := rfl
theorem fX2_nextByte_43 : fetch tX2_nextByte 43 = some (.getfield 15, 3, 2, 1, 0, 0) := rfl
theorem fX2_nextByte_46 : fetch tX2_nextByte 46 = some (.if_icmp .ge 15, 3, 61, 0, 0, 0) := rfl
theorem fX2_nextByte_49 : fetch tX2_nextByte 49 = some (.aload_n 0, 1, 0, 0, 0, 0) := rfl
theorem fX2_nextByte_50 : fetch tX2_nextByte 50 = some (.getfield 9, 3, 2, 0, 0, 0) := rfl
theorem fX2_nextByte_53 : fetch tX2_nextByte 53 = some (.aload_n 0, 1, 0, 0, 0, 0) := rfl
theorem fX2_nextByte_54 : fetch tX2_nextByte 54 = some (.getfield 26, 3, 2, 3, 0, 0) := rfl
theorem fX2_nextByte_57 : fetch tX2_nextByte 57 = some (.iaload, 1, 0, 0, 0, 0) := rfl
theorem fX2_nextByte_58 : fetch tX2_nextByte 58 = some (.goto 4, 3, 62, 0, 0, 0) := rfl
theorem fX2_nextByte_61 : fetch tX2_nextByte 61 = some (.iconst (-1), 1, 0, 0, (-1), 0) := rfl
theorem fX2_nextByte_62 : fetch tX2_nextByte 62 = some (.ireturn, 1, 0, 0, 0, 0) := rfl
def tX2_nextNode : List (Nat × TE) := [(0, .aload_n 0, 1, 0, 0, 0, 0), (1, .invokevirtual 50, 3, 0, 2, 0, 0), (4, .bipush 48, 2, 0, 0, 48, 0), (6, .isub, 1, 0, 0, 0, 0), (7, .istore_n 1, 1, 1, 0, 0, 0), (8, .iload_n 1, 1, 1, 0, 0, 0), (9, .invokestatic 80, 3, 1, 3, 0, 0), (12, .ifCond .eq 7, 3, 19, 0, 0, 0), (15, .iload_n 1, 1, 1, 0, 0, 0), (16, .goto 4, 3, 20, 0, 0, 0), (19, .iconst (-1), 1, 0, 0, (-1), 0), (20, .ireturn, 1, 0, 0, 0, 0)]
theorem tkX2_nextNode : tOk cX2_nextNode "RumourSource$Text" 2 tX2_nextNode = true := by decide +kernel
theorem fX2_nextNode_0 : fetch tX2_nextNode 0 = some (.aload_n 0, 1, 0, 0, 0, 0) := rfl
theorem fX2_nextNode_1 : fetch tX2_nextNode 1 = some (.invokevirtual 50, 3, 0, 2, 0, 0) := rfl
theorem fX2_nextNode_4 : fetch tX2_nextNode 4 = some (.bipush 48, 2, 0, 0, 48, 0) := rfl
theorem fX2_nextNode_6 : fetch tX2_nextNode 6 = some (.isub, 1, 0, 0, 0, 0) := rfl
theorem fX2_nextNode_7 : fetch tX2_nextNode 7 = some (.istore_n 1, 1, 1, 0, 0, 0) := rfl
theorem fX2_nextNode_8 : fetch tX2_nextNode 8 = some (.iload_n 1, 1, 1, 0, 0, 0) := rfl
theorem fX2_nextNode_9 : fetch tX2_nextNode 9 = some (.invokestatic 80, 3, 1, 3, 0, 0) := rfl
theorem fX2_nextNode_12 : fetch tX2_nextNode 12 = some (.ifCond .eq 7, 3, 19, 0, 0, 0) := rfl
theorem fX2_nextNode_15 : fetch tX2_nextNode 15 = some (.iload_n 1, 1, 1, 0, 0, 0) := rfl
theorem fX2_nextNode_16 : fetch tX2_nextNode 16 = some (.goto 4, 3, 20, 0, 0, 0) := rfl
theorem fX2_nextNode_19 : fetch tX2_nextNode 19 = some (.iconst (-1), 1, 0, 0, (-1), 0) := rfl
theorem fX2_nextNode_20 : fetch tX2_nextNode 20 = some (.ireturn, 1, 0, 0, 0, 0) := rfl
def tX2_accept : List (Nat × TE) := [(0, .aload_n 0, 1, 0, 0, 0, 0), (1, .invokevirtual 50, 3, 0, 2, 0, 0), (4, .iload_n 1, 1, 1, 0, 0, 0), (5, .if_icmp .eq 8, 3, 13, 0, 0, 0), (8, .aload_n 0, 1, 0, 0, 0, 0), (9, .invokevirtual 47, 3, 1, 2, 0, 0), (12, .ireturn, 1, 0, 0, 0, 0), (13, .aload_n 0, 1, 0, 0, 0, 0), (14, .dup, 1, 0, 0, 0, 0), (15, .getfield 26, 3, 2, 3, 0, 0), (18, .iconst 1, 1, 0, 0, 1, 0), (19, .iadd, 1, 0, 0, 0, 0), (20, .putfield 26, 3, 2, 3, 0, 0), (23, .iconst 1, 1, 0, 0, 1, 0), (24, .ireturn, 1, 0, 0, 0, 0)]
theorem tkX2_accept : tOk cX2_accept "RumourSource$Text" 2 tX2_accept = true := by decide +kernel
theorem fX2_accept_0 : fetch tX2_accept 0 = some (.aload_n 0, 1, 0, 0, 0, 0) := rfl
theorem fX2_accept_1 : fetch tX2_accept 1 = some (.invokevirtual 50, 3, 0, 2, 0, 0) := rfl
theorem fX2_accept_4 : fetch tX2_accept 4 = some (.iload_n 1, 1, 1, 0, 0, 0) := rfl
theorem fX2_accept_5 : fetch tX2_accept 5 = some (.if_icmp .eq 8, 3, 13, 0, 0, 0) := rfl
theorem fX2_accept_8 : fetch tX2_accept 8 = some (.aload_n 0, 1, 0, 0, 0, 0) := rfl
theorem fX2_accept_9 : fetch tX2_accept 9 = some (.invokevirtual 47, 3, 1, 2, 0, 0) := rfl
theorem fX2_accept_12 : fetch tX2_accept 12 = some (.ireturn, 1, 0, 0, 0, 0) := rfl
theorem fX2_accept_13 : fetch tX2_accept 13 = some (.aload_n 0, 1, 0, 0, 0, 0) := rfl
theorem fX2_accept_14 : fetch tX2_accept 14 = some (.dup, 1, 0, 0, 0, 0) := rfl
theorem fX2_accept_15 : fetch tX2_accept 15 = some (.getfield 26, 3, 2, 3, 0, 0) := rfl
theorem fX2_accept_18 : fetch tX2_accept 18 = some (.iconst 1, 1, 0, 0, 1, 0) := rfl
theorem fX2_accept_19 : fetch tX2_accept 19 = some (.iadd, 1, 0, 0, 0, 0) := rfl
theorem fX2_accept_20 : fetch tX2_accept 20 = some (.putfield 26, 3, 2, 3, 0, 0) := rfl
theorem fX2_accept_23 : fetch tX2_accept 23 = some (.iconst 1, 1, 0, 0, 1, 0) := rfl
theorem fX2_accept_24 : fetch tX2_accept 24 = some (.ireturn, 1, 0, 0, 0, 0) := rfl
def tX2_refuse : List (Nat × TE) := [(0, .aload_n 0, 1, 0, 0, 0, 0), (1, .aload_n 0, 1, 0, 0, 0, 0), (2, .getfield 26, 3, 2, 3, 0, 0), (5, .putfield 29, 3, 2, 4, 0, 0), (8, .iconst 0, 1, 0, 0, 0, 0), (9, .ireturn, 1, 0, 0, 0, 0)]
theorem tkX2_refuse : tOk cX2_refuse "RumourSource$Text" 1 tX2_refuse = true := by decide +kernel
theorem fX2_refuse_0 : fetch tX2_refuse 0 = some (.aload_n 0, 1, 0, 0, 0, 0) := rfl
theorem fX2_refuse_1 : fetch tX2_refuse 1 = some (.aload_n 0, 1, 0, 0, 0, 0) := rfl
theorem fX2_refuse_2 : fetch tX2_refuse 2 = some (.getfield 26, 3, 2, 3, 0, 0) := rfl
theorem fX2_refuse_5 : fetch tX2_refuse 5 = some (.putfield 29, 3, 2, 4, 0, 0) := rfl
theorem fX2_refuse_8 : fetch tX2_refuse 8 = some (.iconst 0, 1, 0, 0, 0, 0) := rfl
theorem fX2_refuse_9 : fetch tX2_refuse 9 = some (.ireturn, 1, 0, 0, 0, 0) := rfl
def tX3_addEdge : List (Nat × TE) := [(0, .iload_n 1, 1, 1, 0, 0, 0), (1, .invokestatic 42, 3, 0, 3, 0, 0), (4, .ifCond .eq 10, 3, 14, 0, 0, 0), (7, .iload_n 2, 1, 2, 0, 0, 0), (8, .invokestatic 42, 3, 0, 3, 0, 0), (11, .ifCond .ne 6, 3, 17, 0, 0, 0), (14, .bipush (-2), 2, 0, 0, (-2), 0), (16, .ireturn, 1, 0, 0, 0, 0), (17, .iload_n 3, 1, 3, 0, 0, 0), (18, .invokestatic 46, 3, 1, 3, 0, 0), (21, .ifCond .eq 16, 3, 37, 0, 0, 0), (24, .iload 4, 2, 4, 0, 0, 0), (26, .invokestatic 49, 3, 2, 3, 0, 0), (29, .ifCond .eq 8, 3, 37, 0, 0, 0), (32, .iload_n 1, 1, 1, 0, 0, 0), (33, .iload_n 2, 1, 2, 0, 0, 0), (34, .if_icmp .ne 6, 3, 40, 0, 0, 0), (37, .bipush (-3), 2, 0, 0, (-3), 0), (39, .ireturn, 1, 0, 0, 0, 0), (40, .aload_n 0, 1, 0, 0, 0, 0), (41, .getfield 12, 3, 3, 0, 0, 0), (44, .iload_n 1, 1, 1, 0, 0, 0), (45, .iload_n 2, 1, 2, 0, 0, 0), (46, .invokevirtual 52, 3, 3, 0, 0, 0), (49, .iconst (-1), 1, 0, 0, (-1), 0), (50, .if_icmp .eq 6, 3, 56, 0, 0, 0), (53, .bipush (-4), 2, 0, 0, (-4), 0), (55, .ireturn, 1, 0, 0, 0, 0), (56, .aload_n 0, 1, 0, 0, 0, 0), (57, .getfield 12, 3, 3, 0, 0, 0), (60, .invokevirtual 56, 3, 4, 0, 0, 0), (63, .ifCond .eq 6, 3, 69, 0, 0, 0), (66, .bipush (-5), 2, 0, 0, (-5), 0), (68, .ireturn, 1, 0, 0, 0, 0), (69, .aload_n 0, 1, 0, 0, 0, 0), (70, .invokevirtual 60, 3, 5, 3, 0, 0), (73, .aload_n 0, 1, 0, 0, 0, 0), (74, .getfield 12, 3, 3, 0, 0, 0), (77, .iload_n 1, 1, 1, 0, 0, 0), (78, .iload_n 2, 1, 2, 0, 0, 0), (79, .iload_n 3, 1, 3, 0, 0, 0), (80, .iload 4, 2, 4, 0, 0, 0), (82, .invokevirtual 63, 3, 6, 0, 0, 0), (85, .ireturn, 1, 0, 0, 0, 0)]
theorem tkX3_addEdge : tOk cX3_addEdge "RumourSource" 5 tX3_addEdge = true := by decide +kernel
theorem fX3_addEdge_0 : fetch tX3_addEdge 0 = some (.iload_n 1, 1, 1, 0, 0, 0) := rfl
theorem fX3_addEdge_1 : fetch tX3_addEdge 1 = some (.invokestatic 42, 3, 0, 3, 0, 0) := rfl
theorem fX3_addEdge_4 : fetch tX3_addEdge 4 = some (.ifCond .eq 10, 3, 14, 0, 0, 0) := rfl
theorem fX3_addEdge_7 : fetch tX3_addEdge 7 = some (.iload_n 2, 1, 2, 0, 0, 0) := rfl
theorem fX3_addEdge_8 : fetch tX3_addEdge 8 = some (.invokestatic 42, 3, 0, 3, 0, 0) := rfl
theorem fX3_addEdge_11 : fetch tX3_addEdge 11 = some (.ifCond .ne 6, 3, 17, 0, 0, 0) := rfl
theorem fX3_addEdge_14 : fetch tX3_addEdge 14 = some (.bipush (-2), 2, 0, 0, (-2), 0) := rfl
theorem fX3_addEdge_16 : fetch tX3_addEdge 16 = some (.ireturn, 1, 0, 0, 0, 0) := rfl
theorem fX3_addEdge_17 : fetch tX3_addEdge 17 = some (.iload_n 3, 1, 3, 0, 0, 0) := rfl
theorem fX3_addEdge_18 : fetch tX3_addEdge 18 = some (.invokestatic 46, 3, 1, 3, 0, 0) := rfl
theorem fX3_addEdge_21 : fetch tX3_addEdge 21 = some (.ifCond .eq 16, 3, 37, 0, 0, 0) := rfl
theorem fX3_addEdge_24 : fetch tX3_addEdge 24 = some (.iload 4, 2, 4, 0, 0, 0) := rfl
theorem fX3_addEdge_26 : fetch tX3_addEdge 26 = some (.invokestatic 49, 3, 2, 3, 0, 0) := rfl
theorem fX3_addEdge_29 : fetch tX3_addEdge 29 = some (.ifCond .eq 8, 3, 37, 0, 0, 0) := rfl
theorem fX3_addEdge_32 : fetch tX3_addEdge 32 = some (.iload_n 1, 1, 1, 0, 0, 0) := rfl
theorem fX3_addEdge_33 : fetch tX3_addEdge 33 = some (.iload_n 2, 1, 2, 0, 0, 0) := rfl
theorem fX3_addEdge_34 : fetch tX3_addEdge 34 = some (.if_icmp .ne 6, 3, 40, 0, 0, 0) := rfl
theorem fX3_addEdge_37 : fetch tX3_addEdge 37 = some (.bipush (-3), 2, 0, 0, (-3), 0) := rfl
theorem fX3_addEdge_39 : fetch tX3_addEdge 39 = some (.ireturn, 1, 0, 0, 0, 0) := rfl
theorem fX3_addEdge_40 : fetch tX3_addEdge 40 = some (.aload_n 0, 1, 0, 0, 0, 0) := rfl
theorem fX3_addEdge_41 : fetch tX3_addEdge 41 = some (.getfield 12, 3, 3, 0, 0, 0) := rfl
theorem fX3_addEdge_44 : fetch tX3_addEdge 44 = some (.iload_n 1, 1, 1, 0, 0, 0) := rfl
theorem fX3_addEdge_45 : fetch tX3_addEdge 45 = some (.iload_n 2, 1, 2, 0, 0, 0) := rfl
theorem fX3_addEdge_46 : fetch tX3_addEdge 46 = some (.invokevirtual 52, 3, 3, 0, 0, 0) := rfl
theorem fX3_addEdge_49 : fetch tX3_addEdge 49 = some (.iconst (-1), 1, 0, 0, (-1), 0) := rfl
theorem fX3_addEdge_50 : fetch tX3_addEdge 50 = some (.if_icmp .eq 6, 3, 56, 0, 0, 0) := rfl
theorem fX3_addEdge_53 : fetch tX3_addEdge 53 = some (.bipush (-4), 2, 0, 0, (-4), 0) := rfl
theorem fX3_addEdge_55 : fetch tX3_addEdge 55 = some (.ireturn, 1, 0, 0, 0, 0) := rfl
theorem fX3_addEdge_56 : fetch tX3_addEdge 56 = some (.aload_n 0, 1, 0, 0, 0, 0) := rfl
theorem fX3_addEdge_57 : fetch tX3_addEdge 57 = some (.getfield 12, 3, 3, 0, 0, 0) := rfl
theorem fX3_addEdge_60 : fetch tX3_addEdge 60 = some (.invokevirtual 56, 3, 4, 0, 0, 0) := rfl
theorem fX3_addEdge_63 : fetch tX3_addEdge 63 = some (.ifCond .eq 6, 3, 69, 0, 0, 0) := rfl
theorem fX3_addEdge_66 : fetch tX3_addEdge 66 = some (.bipush (-5), 2, 0, 0, (-5), 0) := rfl
theorem fX3_addEdge_68 : fetch tX3_addEdge 68 = some (.ireturn, 1, 0, 0, 0, 0) := rfl
theorem fX3_addEdge_69 : fetch tX3_addEdge 69 = some (.aload_n 0, 1, 0, 0, 0, 0) := rfl
theorem fX3_addEdge_70 : fetch tX3_addEdge 70 = some (.invokevirtual 60, 3, 5, 3, 0, 0) := rfl
theorem fX3_addEdge_73 : fetch tX3_addEdge 73 = some (.aload_n 0, 1, 0, 0, 0, 0) := rfl
theorem fX3_addEdge_74 : fetch tX3_addEdge 74 = some (.getfield 12, 3, 3, 0, 0, 0) := rfl
theorem fX3_addEdge_77 : fetch tX3_addEdge 77 = some (.iload_n 1, 1, 1, 0, 0, 0) := rfl
theorem fX3_addEdge_78 : fetch tX3_addEdge 78 = some (.iload_n 2, 1, 2, 0, 0, 0) := rfl
theorem fX3_addEdge_79 : fetch tX3_addEdge 79 = some (.iload_n 3, 1, 3, 0, 0, 0) := rfl
theorem fX3_addEdge_80 : fetch tX3_addEdge 80 = some (.iload 4, 2, 4, 0, 0, 0) := rfl
theorem fX3_addEdge_82 : fetch tX3_addEdge 82 = some (.invokevirtual 63, 3, 6, 0, 0, 0) := rfl
theorem fX3_addEdge_85 : fetch tX3_addEdge 85 = some (.ireturn, 1, 0, 0, 0, 0) := rfl
def tX3_setEdge : List (Nat × TE) := [(0, .aload_n 0, 1, 0, 0, 0, 0), (1, .getfield 12, 3, 3, 0, 0, 0), (4, .iload_n 1, 1, 1, 0, 0, 0), (5, .invokevirtual 67, 3, 0, 0, 0, 0), (8, .ifCond .ne 6, 3, 14, 0, 0, 0), (11, .bipush (-2), 2, 0, 0, (-2), 0), (13, .ireturn, 1, 0, 0, 0, 0), (14, .iload_n 2, 1, 2, 0, 0, 0), (15, .invokestatic 46, 3, 1, 3, 0, 0), (18, .ifCond .eq 10, 3, 28, 0, 0, 0), (21, .iload_n 3, 1, 3, 0, 0, 0), (22, .invokestatic 49, 3, 2, 3, 0, 0), (25, .ifCond .ne 6, 3, 31, 0, 0, 0), (28, .bipush (-3), 2, 0, 0, (-3), 0), (30, .ireturn, 1, 0, 0, 0, 0), (31, .aload_n 0, 1, 0, 0, 0, 0), (32, .invokevirtual 60, 3, 3, 3, 0, 0), (35, .aload_n 0, 1, 0, 0, 0, 0), (36, .getfield 12, 3, 3, 0, 0, 0), (39, .getfield 70, 3, 0, 2, 0, 0), (42, .iload_n 1, 1, 1, 0, 0, 0), (43, .iaload, 1, 0, 0, 0, 0), (44, .istore 4, 2, 4, 0, 0, 0), (46, .aload_n 0, 1, 0, 0, 0, 0), (47, .getfield 12, 3, 3, 0, 0, 0), (50, .getfield 70, 3, 0, 2, 0, 0), (53, .iload_n 1, 1, 1, 0, 0, 0), (54, .iload_n 2, 1, 2, 0, 0, 0), (55, .iastore, 1, 0, 0, 0, 0), (56, .aload_n 0, 1, 0, 0, 0, 0), (57, .getfield 12, 3, 3, 0, 0, 0), (60, .getfield 74, 3, 0, 3, 0, 0), (63, .iload_n 1, 1, 1, 0, 0, 0), (64, .iload_n 3, 1, 3, 0, 0, 0), (65, .iastore, 1, 0, 0, 0, 0), (66, .iload 4, 2, 4, 0, 0, 0), (68, .ireturn, 1, 0, 0, 0, 0)]
theorem tkX3_setEdge : tOk cX3_setEdge "RumourSource" 5 tX3_setEdge = true := by decide +kernel
theorem fX3_setEdge_0 : fetch tX3_setEdge 0 = some (.aload_n 0, 1, 0, 0, 0, 0) := rfl
theorem fX3_setEdge_1 : fetch tX3_setEdge 1 = some (.getfield 12, 3, 3, 0, 0, 0) := rfl
theorem fX3_setEdge_4 : fetch tX3_setEdge 4 = some (.iload_n 1, 1, 1, 0, 0, 0) := rfl
theorem fX3_setEdge_5 : fetch tX3_setEdge 5 = some (.invokevirtual 67, 3, 0, 0, 0, 0) := rfl
theorem fX3_setEdge_8 : fetch tX3_setEdge 8 = some (.ifCond .ne 6, 3, 14, 0, 0, 0) := rfl
theorem fX3_setEdge_11 : fetch tX3_setEdge 11 = some (.bipush (-2), 2, 0, 0, (-2), 0) := rfl
theorem fX3_setEdge_13 : fetch tX3_setEdge 13 = some (.ireturn, 1, 0, 0, 0, 0) := rfl
theorem fX3_setEdge_14 : fetch tX3_setEdge 14 = some (.iload_n 2, 1, 2, 0, 0, 0) := rfl
theorem fX3_setEdge_15 : fetch tX3_setEdge 15 = some (.invokestatic 46, 3, 1, 3, 0, 0) := rfl
theorem fX3_setEdge_18 : fetch tX3_setEdge 18 = some (.ifCond .eq 10, 3, 28, 0, 0, 0) := rfl
theorem fX3_setEdge_21 : fetch tX3_setEdge 21 = some (.iload_n 3, 1, 3, 0, 0, 0) := rfl
theorem fX3_setEdge_22 : fetch tX3_setEdge 22 = some (.invokestatic 49, 3, 2, 3, 0, 0) := rfl
theorem fX3_setEdge_25 : fetch tX3_setEdge 25 = some (.ifCond .ne 6, 3, 31, 0, 0, 0) := rfl
theorem fX3_setEdge_28 : fetch tX3_setEdge 28 = some (.bipush (-3), 2, 0, 0, (-3), 0) := rfl
theorem fX3_setEdge_30 : fetch tX3_setEdge 30 = some (.ireturn, 1, 0, 0, 0, 0) := rfl
theorem fX3_setEdge_31 : fetch tX3_setEdge 31 = some (.aload_n 0, 1, 0, 0, 0, 0) := rfl
theorem fX3_setEdge_32 : fetch tX3_setEdge 32 = some (.invokevirtual 60, 3, 3, 3, 0, 0) := rfl
theorem fX3_setEdge_35 : fetch tX3_setEdge 35 = some (.aload_n 0, 1, 0, 0, 0, 0) := rfl
theorem fX3_setEdge_36 : fetch tX3_setEdge 36 = some (.getfield 12, 3, 3, 0, 0, 0) := rfl
theorem fX3_setEdge_39 : fetch tX3_setEdge 39 = some (.getfield 70, 3, 0, 2, 0, 0) := rfl
theorem fX3_setEdge_42 : fetch tX3_setEdge 42 = some (.iload_n 1, 1, 1, 0, 0, 0) := rfl
theorem fX3_setEdge_43 : fetch tX3_setEdge 43 = some (.iaload, 1, 0, 0, 0, 0) := rfl
theorem fX3_setEdge_44 : fetch tX3_setEdge 44 = some (.istore 4, 2, 4, 0, 0, 0) := rfl
theorem fX3_setEdge_46 : fetch tX3_setEdge 46 = some (.aload_n 0, 1, 0, 0, 0, 0) := rfl
theorem fX3_setEdge_47 : fetch tX3_setEdge 47 = some (.getfield 12, 3, 3, 0, 0, 0) := rfl
theorem fX3_setEdge_50 : fetch tX3_setEdge 50 = some (.getfield 70, 3, 0, 2, 0, 0) := rfl
theorem fX3_setEdge_53 : fetch tX3_setEdge 53 = some (.iload_n 1, 1, 1, 0, 0, 0) := rfl
theorem fX3_setEdge_54 : fetch tX3_setEdge 54 = some (.iload_n 2, 1, 2, 0, 0, 0) := rfl
theorem fX3_setEdge_55 : fetch tX3_setEdge 55 = some (.iastore, 1, 0, 0, 0, 0) := rfl
theorem fX3_setEdge_56 : fetch tX3_setEdge 56 = some (.aload_n 0, 1, 0, 0, 0, 0) := rfl
theorem fX3_setEdge_57 : fetch tX3_setEdge 57 = some (.getfield 12, 3, 3, 0, 0, 0) := rfl
theorem fX3_setEdge_60 : fetch tX3_setEdge 60 = some (.getfield 74, 3, 0, 3, 0, 0) := rfl
theorem fX3_setEdge_63 : fetch tX3_setEdge 63 = some (.iload_n 1, 1, 1, 0, 0, 0) := rfl
theorem fX3_setEdge_64 : fetch tX3_setEdge 64 = some (.iload_n 3, 1, 3, 0, 0, 0) := rfl
theorem fX3_setEdge_65 : fetch tX3_setEdge 65 = some (.iastore, 1, 0, 0, 0, 0) := rfl
theorem fX3_setEdge_66 : fetch tX3_setEdge 66 = some (.iload 4, 2, 4, 0, 0, 0) := rfl
theorem fX3_setEdge_68 : fetch tX3_setEdge 68 = some (.ireturn, 1, 0, 0, 0, 0) := rfl
def tX3_removeEdge : List (Nat × TE) := [(0, .aload_n 0, 1, 0, 0, 0, 0), (1, .getfield 12, 3, 3, 0, 0, 0), (4, .iload_n 1, 1, 1, 0, 0, 0), (5, .invokevirtual 67, 3, 0, 0, 0, 0), (8, .ifCond .ne 6, 3, 14, 0, 0, 0), (11, .bipush (-2), 2, 0, 0, (-2), 0), (13, .ireturn, 1, 0, 0, 0, 0), (14, .aload_n 0, 1, 0, 0, 0, 0), (15, .invokevirtual 60, 3, 1, 3, 0, 0), (18, .aload_n 0, 1, 0, 0, 0, 0), (19, .getfield 12, 3, 3, 0, 0, 0), (22, .iload_n 1, 1, 1, 0, 0, 0), (23, .invokevirtual 77, 3, 2, 0, 0, 0), (26, .aload_n 0, 1, 0, 0, 0, 0), (27, .getfield 12, 3, 3, 0, 0, 0), (30, .getfield 81, 3, 0, 4, 0, 0), (33, .ireturn, 1, 0, 0, 0, 0)]
theorem tkX3_removeEdge : tOk cX3_removeEdge "RumourSource" 2 tX3_removeEdge = true := by decide +kernel
theorem fX3_removeEdge_0 : fetch tX3_removeEdge 0 = some (.aload_n 0, 1, 0, 0, 0, 0) := rfl
theorem fX3_removeEdge_1 : fetch tX3_removeEdge 1 = some (.getfield 12, 3, 3, 0, 0, 0) := rfl
theorem fX3_removeEdge_4 : fetch tX3_removeEdge 4 = some (.iload_n 1, 1, 1, 0, 0, 0) := rfl
theorem fX3_removeEdge_5 : fetch tX3_removeEdge 5 = some (.invokevirtual 67, 3, 0, 0, 0, 0) := rfl
theorem fX3_removeEdge_8 : fetch tX3_removeEdge 8 = some (.ifCond .ne 6, 3, 14, 0, 0, 0) := rfl
theorem fX3_removeEdge_11 : fetch tX3_removeEdge 11 = some (.bipush (-2), 2, 0, 0, (-2), 0) := rfl
theorem fX3_removeEdge_13 : fetch tX3_removeEdge 13 = some (.ireturn, 1, 0, 0, 0, 0) := rfl
theorem fX3_removeEdge_14 : fetch tX3_removeEdge 14 = some (.aload_n 0, 1, 0, 0, 0, 0) := rfl
theorem fX3_removeEdge_15 : fetch tX3_removeEdge 15 = some (.invokevirtual 60, 3, 1, 3, 0, 0) := rfl
theorem fX3_removeEdge_18 : fetch tX3_removeEdge 18 = some (.aload_n 0, 1, 0, 0, 0, 0) := rfl
theorem fX3_removeEdge_19 : fetch tX3_removeEdge 19 = some (.getfield 12, 3, 3, 0, 0, 0) := rfl
theorem fX3_removeEdge_22 : fetch tX3_removeEdge 22 = some (.iload_n 1, 1, 1, 0, 0, 0) := rfl
theorem fX3_removeEdge_23 : fetch tX3_removeEdge 23 = some (.invokevirtual 77, 3, 2, 0, 0, 0) := rfl
theorem fX3_removeEdge_26 : fetch tX3_removeEdge 26 = some (.aload_n 0, 1, 0, 0, 0, 0) := rfl
theorem fX3_removeEdge_27 : fetch tX3_removeEdge 27 = some (.getfield 12, 3, 3, 0, 0, 0) := rfl
theorem fX3_removeEdge_30 : fetch tX3_removeEdge 30 = some (.getfield 81, 3, 0, 4, 0, 0) := rfl
theorem fX3_removeEdge_33 : fetch tX3_removeEdge 33 = some (.ireturn, 1, 0, 0, 0, 0) := rfl
def tX3_edges : List (Nat × TE) := [(0, .aload_n 0, 1, 0, 0, 0, 0), (1, .getfield 12, 3, 3, 0, 0, 0), (4, .getfield 81, 3, 0, 4, 0, 0), (7, .ireturn, 1, 0, 0, 0, 0)]
theorem tkX3_edges : tOk cX3_edges "RumourSource" 1 tX3_edges = true := by decide +kernel
theorem fX3_edges_0 : fetch tX3_edges 0 = some (.aload_n 0, 1, 0, 0, 0, 0) := rfl
theorem fX3_edges_1 : fetch tX3_edges 1 = some (.getfield 12, 3, 3, 0, 0, 0) := rfl
theorem fX3_edges_4 : fetch tX3_edges 4 = some (.getfield 81, 3, 0, 4, 0, 0) := rfl
theorem fX3_edges_7 : fetch tX3_edges 7 = some (.ireturn, 1, 0, 0, 0, 0) := rfl
def tX3_edge : List (Nat × TE) := [(0, .aload_n 0, 1, 0, 0, 0, 0), (1, .getfield 12, 3, 3, 0, 0, 0), (4, .iload_n 1, 1, 1, 0, 0, 0), (5, .invokevirtual 67, 3, 0, 0, 0, 0), (8, .ifCond .ne 6, 3, 14, 0, 0, 0), (11, .bipush (-2), 2, 0, 0, (-2), 0), (13, .ireturn, 1, 0, 0, 0, 0), (14, .iload_n 2, 1, 2, 0, 0, 0), (15, .tableswitch 69 0 3 #[29, 39, 49, 59], 29, 0, 0, 0, 0), (44, .aload_n 0, 1, 0, 0, 0, 0), (45, .getfield 12, 3, 3, 0, 0, 0), (48, .getfield 84, 3, 0, 0, 0, 0), (51, .iload_n 1, 1, 1, 0, 0, 0), (52, .iaload, 1, 0, 0, 0, 0), (53, .ireturn, 1, 0, 0, 0, 0), (54, .aload_n 0, 1, 0, 0, 0, 0), (55, .getfield 12, 3, 3, 0, 0, 0), (58, .getfield 87, 3, 0, 1, 0, 0), (61, .iload_n 1, 1, 1, 0, 0, 0), (62, .iaload, 1, 0, 0, 0, 0), (63, .ireturn, 1, 0, 0, 0, 0), (64, .aload_n 0, 1, 0, 0, 0, 0), (65, .getfield 12, 3, 3, 0, 0, 0), (68, .getfield 70, 3, 0, 2, 0, 0), (71, .iload_n 1, 1, 1, 0, 0, 0), (72, .iaload, 1, 0, 0, 0, 0), (73, .ireturn, 1, 0, 0, 0, 0), (74, .aload_n 0, 1, 0, 0, 0, 0), (75, .getfield 12, 3, 3, 0, 0, 0), (78, .getfield 74, 3, 0, 3, 0, 0), (81, .iload_n 1, 1, 1, 0, 0, 0), (82, .iaload, 1, 0, 0, 0, 0), (83, .ireturn, 1, 0, 0, 0, 0), (84, .bipush (-3), 2, 0, 0, (-3), 0), (86, .ireturn, 1, 0, 0, 0, 0)]
theorem tkX3_edge : tOk cX3_edge "RumourSource" 3 tX3_edge = true := by decide +kernel
theorem fX3_edge_0 : fetch tX3_edge 0 = some (.aload_n 0, 1, 0, 0, 0, 0) := rfl
theorem fX3_edge_1 : fetch tX3_edge 1 = some (.getfield 12, 3, 3, 0, 0, 0) := rfl
theorem fX3_edge_4 : fetch tX3_edge 4 = some (.iload_n 1, 1, 1, 0, 0, 0) := rfl
theorem fX3_edge_5 : fetch tX3_edge 5 = some (.invokevirtual 67, 3, 0, 0, 0, 0) := rfl
theorem fX3_edge_8 : fetch tX3_edge 8 = some (.ifCond .ne 6, 3, 14, 0, 0, 0) := rfl
theorem fX3_edge_11 : fetch tX3_edge 11 = some (.bipush (-2), 2, 0, 0, (-2), 0) := rfl
theorem fX3_edge_13 : fetch tX3_edge 13 = some (.ireturn, 1, 0, 0, 0, 0) := rfl
theorem fX3_edge_14 : fetch tX3_edge 14 = some (.iload_n 2, 1, 2, 0, 0, 0) := rfl
theorem fX3_edge_15 : fetch tX3_edge 15 = some (.tableswitch 69 0 3 #[29, 39, 49, 59], 29, 0, 0, 0, 0) := rfl
theorem fX3_edge_44 : fetch tX3_edge 44 = some (.aload_n 0, 1, 0, 0, 0, 0) := rfl
theorem fX3_edge_45 : fetch tX3_edge 45 = some (.getfield 12, 3, 3, 0, 0, 0) := rfl
theorem fX3_edge_48 : fetch tX3_edge 48 = some (.getfield 84, 3, 0, 0, 0, 0) := rfl
theorem fX3_edge_51 : fetch tX3_edge 51 = some (.iload_n 1, 1, 1, 0, 0, 0) := rfl
theorem fX3_edge_52 : fetch tX3_edge 52 = some (.iaload, 1, 0, 0, 0, 0) := rfl
theorem fX3_edge_53 : fetch tX3_edge 53 = some (.ireturn, 1, 0, 0, 0, 0) := rfl
theorem fX3_edge_54 : fetch tX3_edge 54 = some (.aload_n 0, 1, 0, 0, 0, 0) := rfl
theorem fX3_edge_55 : fetch tX3_edge 55 = some (.getfield 12, 3, 3, 0, 0, 0) := rfl
theorem fX3_edge_58 : fetch tX3_edge 58 = some (.getfield 87, 3, 0, 1, 0, 0) := rfl
theorem fX3_edge_61 : fetch tX3_edge 61 = some (.iload_n 1, 1, 1, 0, 0, 0) := rfl
theorem fX3_edge_62 : fetch tX3_edge 62 = some (.iaload, 1, 0, 0, 0, 0) := rfl
theorem fX3_edge_63 : fetch tX3_edge 63 = some (.ireturn, 1, 0, 0, 0, 0) := rfl
theorem fX3_edge_64 : fetch tX3_edge 64 = some (.aload_n 0, 1, 0, 0, 0, 0) := rfl
theorem fX3_edge_65 : fetch tX3_edge 65 = some (.getfield 12, 3, 3, 0, 0, 0) := rfl
theorem fX3_edge_68 : fetch tX3_edge 68 = some (.getfield 70, 3, 0, 2, 0, 0) := rfl
theorem fX3_edge_71 : fetch tX3_edge 71 = some (.iload_n 1, 1, 1, 0, 0, 0) := rfl
theorem fX3_edge_72 : fetch tX3_edge 72 = some (.iaload, 1, 0, 0, 0, 0) := rfl
theorem fX3_edge_73 : fetch tX3_edge 73 = some (.ireturn, 1, 0, 0, 0, 0) := rfl
theorem fX3_edge_74 : fetch tX3_edge 74 = some (.aload_n 0, 1, 0, 0, 0, 0) := rfl
theorem fX3_edge_75 : fetch tX3_edge 75 = some (.getfield 12, 3, 3, 0, 0, 0) := rfl
theorem fX3_edge_78 : fetch tX3_edge 78 = some (.getfield 74, 3, 0, 3, 0, 0) := rfl
theorem fX3_edge_81 : fetch tX3_edge 81 = some (.iload_n 1, 1, 1, 0, 0, 0) := rfl
theorem fX3_edge_82 : fetch tX3_edge 82 = some (.iaload, 1, 0, 0, 0, 0) := rfl
theorem fX3_edge_83 : fetch tX3_edge 83 = some (.ireturn, 1, 0, 0, 0, 0) := rfl
theorem fX3_edge_84 : fetch tX3_edge 84 = some (.bipush (-3), 2, 0, 0, (-3), 0) := rfl
theorem fX3_edge_86 : fetch tX3_edge 86 = some (.ireturn, 1, 0, 0, 0, 0) := rfl
def tX3_edgeBetween : List (Nat × TE) := [(0, .iload_n 1, 1, 1, 0, 0, 0), (1, .invokestatic 42, 3, 0, 3, 0, 0), (4, .ifCond .eq 10, 3, 14, 0, 0, 0), (7, .iload_n 2, 1, 2, 0, 0, 0), (8, .invokestatic 42, 3, 0, 3, 0, 0), (11, .ifCond .ne 6, 3, 17, 0, 0, 0), (14, .bipush (-2), 2, 0, 0, (-2), 0), (16, .ireturn, 1, 0, 0, 0, 0), (17, .aload_n 0, 1, 0, 0, 0, 0), (18, .getfield 12, 3, 3, 0, 0, 0), (21, .iload_n 1, 1, 1, 0, 0, 0), (22, .iload_n 2, 1, 2, 0, 0, 0), (23, .invokevirtual 52, 3, 1, 0, 0, 0), (26, .ireturn, 1, 0, 0, 0, 0)]
theorem tkX3_edgeBetween : tOk cX3_edgeBetween "RumourSource" 3 tX3_edgeBetween = true := by decide +kernel
theorem fX3_edgeBetween_0 : fetch tX3_edgeBetween 0 = some (.iload_n 1, 1, 1, 0, 0, 0) := rfl
theorem fX3_edgeBetween_1 : fetch tX3_edgeBetween 1 = some (.invokestatic 42, 3, 0, 3, 0, 0) := rfl
theorem fX3_edgeBetween_4 : fetch tX3_edgeBetween 4 = some (.ifCond .eq 10, 3, 14, 0, 0, 0) := rfl
theorem fX3_edgeBetween_7 : fetch tX3_edgeBetween 7 = some (.iload_n 2, 1, 2, 0, 0, 0) := rfl
theorem fX3_edgeBetween_8 : fetch tX3_edgeBetween 8 = some (.invokestatic 42, 3, 0, 3, 0, 0) := rfl
theorem fX3_edgeBetween_11 : fetch tX3_edgeBetween 11 = some (.ifCond .ne 6, 3, 17, 0, 0, 0) := rfl
theorem fX3_edgeBetween_14 : fetch tX3_edgeBetween 14 = some (.bipush (-2), 2, 0, 0, (-2), 0) := rfl
theorem fX3_edgeBetween_16 : fetch tX3_edgeBetween 16 = some (.ireturn, 1, 0, 0, 0, 0) := rfl
theorem fX3_edgeBetween_17 : fetch tX3_edgeBetween 17 = some (.aload_n 0, 1, 0, 0, 0, 0) := rfl
theorem fX3_edgeBetween_18 : fetch tX3_edgeBetween 18 = some (.getfield 12, 3, 3, 0, 0, 0) := rfl
theorem fX3_edgeBetween_21 : fetch tX3_edgeBetween 21 = some (.iload_n 1, 1, 1, 0, 0, 0) := rfl
theorem fX3_edgeBetween_22 : fetch tX3_edgeBetween 22 = some (.iload_n 2, 1, 2, 0, 0, 0) := rfl
theorem fX3_edgeBetween_23 : fetch tX3_edgeBetween 23 = some (.invokevirtual 52, 3, 1, 0, 0, 0) := rfl
theorem fX3_edgeBetween_26 : fetch tX3_edgeBetween 26 = some (.ireturn, 1, 0, 0, 0, 0) := rfl
def tX3_setHorizon : List (Nat × TE) := [(0, .iload_n 1, 1, 1, 0, 0, 0), (1, .invokestatic 90, 3, 0, 3, 0, 0), (4, .ifCond .ne 6, 3, 10, 0, 0, 0), (7, .bipush (-3), 2, 0, 0, (-3), 0), (9, .ireturn, 1, 0, 0, 0, 0), (10, .aload_n 0, 1, 0, 0, 0, 0), (11, .invokevirtual 60, 3, 1, 3, 0, 0), (14, .aload_n 0, 1, 0, 0, 0, 0), (15, .getfield 12, 3, 3, 0, 0, 0), (18, .getfield 93, 3, 0, 5, 0, 0), (21, .istore_n 2, 1, 2, 0, 0, 0), (22, .aload_n 0, 1, 0, 0, 0, 0), (23, .getfield 12, 3, 3, 0, 0, 0), (26, .iload_n 1, 1, 1, 0, 0, 0), (27, .putfield 93, 3, 0, 5, 0, 0), (30, .iload_n 2, 1, 2, 0, 0, 0), (31, .ireturn, 1, 0, 0, 0, 0)]
theorem tkX3_setHorizon : tOk cX3_setHorizon "RumourSource" 3 tX3_setHorizon = true := by decide +kernel
theorem fX3_setHorizon_0 : fetch tX3_setHorizon 0 = some (.iload_n 1, 1, 1, 0, 0, 0) := rfl
theorem fX3_setHorizon_1 : fetch tX3_setHorizon 1 = some (.invokestatic 90, 3, 0, 3, 0, 0) := rfl
theorem fX3_setHorizon_4 : fetch tX3_setHorizon 4 = some (.ifCond .ne 6, 3, 10, 0, 0, 0) := rfl
theorem fX3_setHorizon_7 : fetch tX3_setHorizon 7 = some (.bipush (-3), 2, 0, 0, (-3), 0) := rfl
theorem fX3_setHorizon_9 : fetch tX3_setHorizon 9 = some (.ireturn, 1, 0, 0, 0, 0) := rfl
theorem fX3_setHorizon_10 : fetch tX3_setHorizon 10 = some (.aload_n 0, 1, 0, 0, 0, 0) := rfl
theorem fX3_setHorizon_11 : fetch tX3_setHorizon 11 = some (.invokevirtual 60, 3, 1, 3, 0, 0) := rfl
theorem fX3_setHorizon_14 : fetch tX3_setHorizon 14 = some (.aload_n 0, 1, 0, 0, 0, 0) := rfl
theorem fX3_setHorizon_15 : fetch tX3_setHorizon 15 = some (.getfield 12, 3, 3, 0, 0, 0) := rfl
theorem fX3_setHorizon_18 : fetch tX3_setHorizon 18 = some (.getfield 93, 3, 0, 5, 0, 0) := rfl
theorem fX3_setHorizon_21 : fetch tX3_setHorizon 21 = some (.istore_n 2, 1, 2, 0, 0, 0) := rfl
theorem fX3_setHorizon_22 : fetch tX3_setHorizon 22 = some (.aload_n 0, 1, 0, 0, 0, 0) := rfl
theorem fX3_setHorizon_23 : fetch tX3_setHorizon 23 = some (.getfield 12, 3, 3, 0, 0, 0) := rfl
theorem fX3_setHorizon_26 : fetch tX3_setHorizon 26 = some (.iload_n 1, 1, 1, 0, 0, 0) := rfl
theorem fX3_setHorizon_27 : fetch tX3_setHorizon 27 = some (.putfield 93, 3, 0, 5, 0, 0) := rfl
theorem fX3_setHorizon_30 : fetch tX3_setHorizon 30 = some (.iload_n 2, 1, 2, 0, 0, 0) := rfl
theorem fX3_setHorizon_31 : fetch tX3_setHorizon 31 = some (.ireturn, 1, 0, 0, 0, 0) := rfl
def tX3_observe : List (Nat × TE) := [(0, .iload_n 1, 1, 1, 0, 0, 0), (1, .invokestatic 42, 3, 0, 3, 0, 0), (4, .ifCond .ne 6, 3, 10, 0, 0, 0), (7, .bipush (-2), 2, 0, 0, (-2), 0), (9, .ireturn, 1, 0, 0, 0, 0), (10, .iload_n 2, 1, 2, 0, 0, 0), (11, .invokestatic 96, 3, 1, 3, 0, 0), (14, .ifCond .ne 6, 3, 20, 0, 0, 0), (17, .bipush (-3), 2, 0, 0, (-3), 0), (19, .ireturn, 1, 0, 0, 0, 0), (20, .aload_n 0, 1, 0, 0, 0, 0), (21, .iload_n 1, 1, 1, 0, 0, 0), (22, .iload_n 2, 1, 2, 0, 0, 0), (23, .invokevirtual 99, 3, 2, 3, 0, 0), (26, .ireturn, 1, 0, 0, 0, 0)]
theorem tkX3_observe : tOk cX3_observe "RumourSource" 3 tX3_observe = true := by decide +kernel
theorem fX3_observe_0 : fetch tX3_observe 0 = some (.iload_n 1, 1, 1, 0, 0, 0) := rfl
theorem fX3_observe_1 : fetch tX3_observe 1 = some (.invokestatic 42, 3, 0, 3, 0, 0) := rfl
theorem fX3_observe_4 : fetch tX3_observe 4 = some (.ifCond .ne 6, 3, 10, 0, 0, 0) := rfl
theorem fX3_observe_7 : fetch tX3_observe 7 = some (.bipush (-2), 2, 0, 0, (-2), 0) := rfl
theorem fX3_observe_9 : fetch tX3_observe 9 = some (.ireturn, 1, 0, 0, 0, 0) := rfl
theorem fX3_observe_10 : fetch tX3_observe 10 = some (.iload_n 2, 1, 2, 0, 0, 0) := rfl
theorem fX3_observe_11 : fetch tX3_observe 11 = some (.invokestatic 96, 3, 1, 3, 0, 0) := rfl
theorem fX3_observe_14 : fetch tX3_observe 14 = some (.ifCond .ne 6, 3, 20, 0, 0, 0) := rfl
theorem fX3_observe_17 : fetch tX3_observe 17 = some (.bipush (-3), 2, 0, 0, (-3), 0) := rfl
theorem fX3_observe_19 : fetch tX3_observe 19 = some (.ireturn, 1, 0, 0, 0, 0) := rfl
theorem fX3_observe_20 : fetch tX3_observe 20 = some (.aload_n 0, 1, 0, 0, 0, 0) := rfl
theorem fX3_observe_21 : fetch tX3_observe 21 = some (.iload_n 1, 1, 1, 0, 0, 0) := rfl
theorem fX3_observe_22 : fetch tX3_observe 22 = some (.iload_n 2, 1, 2, 0, 0, 0) := rfl
theorem fX3_observe_23 : fetch tX3_observe 23 = some (.invokevirtual 99, 3, 2, 3, 0, 0) := rfl
theorem fX3_observe_26 : fetch tX3_observe 26 = some (.ireturn, 1, 0, 0, 0, 0) := rfl
def tX3_forget : List (Nat × TE) := [(0, .iload_n 1, 1, 1, 0, 0, 0), (1, .invokestatic 42, 3, 0, 3, 0, 0), (4, .ifCond .ne 6, 3, 10, 0, 0, 0), (7, .bipush (-2), 2, 0, 0, (-2), 0), (9, .ireturn, 1, 0, 0, 0, 0), (10, .aload_n 0, 1, 0, 0, 0, 0), (11, .iload_n 1, 1, 1, 0, 0, 0), (12, .bipush 100, 2, 0, 0, 100, 0), (14, .invokevirtual 99, 3, 1, 3, 0, 0), (17, .ireturn, 1, 0, 0, 0, 0)]
theorem tkX3_forget : tOk cX3_forget "RumourSource" 2 tX3_forget = true := by decide +kernel
theorem fX3_forget_0 : fetch tX3_forget 0 = some (.iload_n 1, 1, 1, 0, 0, 0) := rfl
theorem fX3_forget_1 : fetch tX3_forget 1 = some (.invokestatic 42, 3, 0, 3, 0, 0) := rfl
theorem fX3_forget_4 : fetch tX3_forget 4 = some (.ifCond .ne 6, 3, 10, 0, 0, 0) := rfl
theorem fX3_forget_7 : fetch tX3_forget 7 = some (.bipush (-2), 2, 0, 0, (-2), 0) := rfl
theorem fX3_forget_9 : fetch tX3_forget 9 = some (.ireturn, 1, 0, 0, 0, 0) := rfl
theorem fX3_forget_10 : fetch tX3_forget 10 = some (.aload_n 0, 1, 0, 0, 0, 0) := rfl
theorem fX3_forget_11 : fetch tX3_forget 11 = some (.iload_n 1, 1, 1, 0, 0, 0) := rfl
theorem fX3_forget_12 : fetch tX3_forget 12 = some (.bipush 100, 2, 0, 0, 100, 0) := rfl
theorem fX3_forget_14 : fetch tX3_forget 14 = some (.invokevirtual 99, 3, 1, 3, 0, 0) := rfl
theorem fX3_forget_17 : fetch tX3_forget 17 = some (.ireturn, 1, 0, 0, 0, 0) := rfl
def tX3_observed : List (Nat × TE) := [(0, .iload_n 1, 1, 1, 0, 0, 0), (1, .invokestatic 42, 3, 0, 3, 0, 0), (4, .ifCond .ne 6, 3, 10, 0, 0, 0), (7, .bipush (-2), 2, 0, 0, (-2), 0), (9, .ireturn, 1, 0, 0, 0, 0), (10, .aload_n 0, 1, 0, 0, 0, 0), (11, .getfield 12, 3, 3, 0, 0, 0), (14, .getfield 102, 3, 0, 6, 0, 0), (17, .iload_n 1, 1, 1, 0, 0, 0), (18, .iaload, 1, 0, 0, 0, 0), (19, .ireturn, 1, 0, 0, 0, 0)]
theorem tkX3_observed : tOk cX3_observed "RumourSource" 2 tX3_observed = true := by decide +kernel
theorem fX3_observed_0 : fetch tX3_observed 0 = some (.iload_n 1, 1, 1, 0, 0, 0) := rfl
theorem fX3_observed_1 : fetch tX3_observed 1 = some (.invokestatic 42, 3, 0, 3, 0, 0) := rfl
theorem fX3_observed_4 : fetch tX3_observed 4 = some (.ifCond .ne 6, 3, 10, 0, 0, 0) := rfl
theorem fX3_observed_7 : fetch tX3_observed 7 = some (.bipush (-2), 2, 0, 0, (-2), 0) := rfl
theorem fX3_observed_9 : fetch tX3_observed 9 = some (.ireturn, 1, 0, 0, 0, 0) := rfl
theorem fX3_observed_10 : fetch tX3_observed 10 = some (.aload_n 0, 1, 0, 0, 0, 0) := rfl
theorem fX3_observed_11 : fetch tX3_observed 11 = some (.getfield 12, 3, 3, 0, 0, 0) := rfl
theorem fX3_observed_14 : fetch tX3_observed 14 = some (.getfield 102, 3, 0, 6, 0, 0) := rfl
theorem fX3_observed_17 : fetch tX3_observed 17 = some (.iload_n 1, 1, 1, 0, 0, 0) := rfl
theorem fX3_observed_18 : fetch tX3_observed 18 = some (.iaload, 1, 0, 0, 0, 0) := rfl
theorem fX3_observed_19 : fetch tX3_observed 19 = some (.ireturn, 1, 0, 0, 0, 0) := rfl
def tX3_setSensors : List (Nat × TE) := [(0, .iload_n 1, 1, 1, 0, 0, 0), (1, .ifCond .lt 10, 3, 11, 0, 0, 0), (4, .iload_n 1, 1, 1, 0, 0, 0), (5, .sipush 255, 3, 0, 0, 255, 0), (8, .if_icmp .le 6, 3, 14, 0, 0, 0), (11, .bipush (-3), 2, 0, 0, (-3), 0), (13, .ireturn, 1, 0, 0, 0, 0), (14, .aload_n 0, 1, 0, 0, 0, 0), (15, .invokevirtual 60, 3, 0, 3, 0, 0), (18, .aload_n 0, 1, 0, 0, 0, 0), (19, .getfield 12, 3, 3, 0, 0, 0), (22, .getfield 105, 3, 0, 7, 0, 0), (25, .istore_n 2, 1, 2, 0, 0, 0), (26, .aload_n 0, 1, 0, 0, 0, 0), (27, .getfield 12, 3, 3, 0, 0, 0), (30, .iload_n 1, 1, 1, 0, 0, 0), (31, .putfield 105, 3, 0, 7, 0, 0), (34, .iload_n 2, 1, 2, 0, 0, 0), (35, .ireturn, 1, 0, 0, 0, 0)]
theorem tkX3_setSensors : tOk cX3_setSensors "RumourSource" 3 tX3_setSensors = true := by decide +kernel
theorem fX3_setSensors_0 : fetch tX3_setSensors 0 = some (.iload_n 1, 1, 1, 0, 0, 0) := rfl
theorem fX3_setSensors_1 : fetch tX3_setSensors 1 = some (.ifCond .lt 10, 3, 11, 0, 0, 0) := rfl
theorem fX3_setSensors_4 : fetch tX3_setSensors 4 = some (.iload_n 1, 1, 1, 0, 0, 0) := rfl
theorem fX3_setSensors_5 : fetch tX3_setSensors 5 = some (.sipush 255, 3, 0, 0, 255, 0) := rfl
theorem fX3_setSensors_8 : fetch tX3_setSensors 8 = some (.if_icmp .le 6, 3, 14, 0, 0, 0) := rfl
theorem fX3_setSensors_11 : fetch tX3_setSensors 11 = some (.bipush (-3), 2, 0, 0, (-3), 0) := rfl
theorem fX3_setSensors_13 : fetch tX3_setSensors 13 = some (.ireturn, 1, 0, 0, 0, 0) := rfl
theorem fX3_setSensors_14 : fetch tX3_setSensors 14 = some (.aload_n 0, 1, 0, 0, 0, 0) := rfl
theorem fX3_setSensors_15 : fetch tX3_setSensors 15 = some (.invokevirtual 60, 3, 0, 3, 0, 0) := rfl
theorem fX3_setSensors_18 : fetch tX3_setSensors 18 = some (.aload_n 0, 1, 0, 0, 0, 0) := rfl
theorem fX3_setSensors_19 : fetch tX3_setSensors 19 = some (.getfield 12, 3, 3, 0, 0, 0) := rfl
theorem fX3_setSensors_22 : fetch tX3_setSensors 22 = some (.getfield 105, 3, 0, 7, 0, 0) := rfl
theorem fX3_setSensors_25 : fetch tX3_setSensors 25 = some (.istore_n 2, 1, 2, 0, 0, 0) := rfl
theorem fX3_setSensors_26 : fetch tX3_setSensors 26 = some (.aload_n 0, 1, 0, 0, 0, 0) := rfl
theorem fX3_setSensors_27 : fetch tX3_setSensors 27 = some (.getfield 12, 3, 3, 0, 0, 0) := rfl
theorem fX3_setSensors_30 : fetch tX3_setSensors 30 = some (.iload_n 1, 1, 1, 0, 0, 0) := rfl
theorem fX3_setSensors_31 : fetch tX3_setSensors 31 = some (.putfield 105, 3, 0, 7, 0, 0) := rfl
theorem fX3_setSensors_34 : fetch tX3_setSensors 34 = some (.iload_n 2, 1, 2, 0, 0, 0) := rfl
theorem fX3_setSensors_35 : fetch tX3_setSensors 35 = some (.ireturn, 1, 0, 0, 0, 0) := rfl
def tX3_simulate : List (Nat × TE) := [(0, .iload_n 1, 1, 1, 0, 0, 0), (1, .invokestatic 108, 3, 0, 3, 0, 0), (4, .ifCond .ne 6, 3, 10, 0, 0, 0), (7, .bipush (-3), 2, 0, 0, (-3), 0), (9, .ireturn, 1, 0, 0, 0, 0), (10, .aload_n 0, 1, 0, 0, 0, 0), (11, .invokevirtual 60, 3, 1, 3, 0, 0), (14, .aload_n 0, 1, 0, 0, 0, 0), (15, .getfield 23, 3, 3, 2, 0, 0), (18, .aload_n 0, 1, 0, 0, 0, 0), (19, .getfield 12, 3, 3, 0, 0, 0), (22, .iload_n 1, 1, 1, 0, 0, 0), (23, .aload_n 0, 1, 0, 0, 0, 0), (24, .iload_n 2, 1, 2, 0, 0, 0), (25, .invokevirtual 111, 3, 2, 3, 0, 0), (28, .invokevirtual 115, 3, 3, 1, 0, 0), (31, .iconst 0, 1, 0, 0, 0, 0), (32, .istore_n 3, 1, 3, 0, 0, 0), (33, .iconst 0, 1, 0, 0, 0, 0), (34, .istore 4, 2, 4, 0, 0, 0), (36, .iload 4, 2, 4, 0, 0, 0), (38, .bipush 8, 2, 0, 0, 8, 0), (40, .if_icmp .ge 66, 3, 106, 0, 0, 0), (43, .aload_n 0, 1, 0, 0, 0, 0), (44, .getfield 23, 3, 3, 2, 0, 0), (47, .getfield 119, 3, 1, 0, 0, 0), (50, .iload 4, 2, 4, 0, 0, 0), (52, .iaload, 1, 0, 0, 0, 0), (53, .invokestatic 122, 3, 4, 3, 0, 0), (56, .istore 5, 2, 5, 0, 0, 0), (58, .aload_n 0, 1, 0, 0, 0, 0), (59, .getfield 12, 3, 3, 0, 0, 0), (62, .getfield 102, 3, 0, 6, 0, 0), (65, .iload 4, 2, 4, 0, 0, 0), (67, .aload_n 0, 1, 0, 0, 0, 0), (68, .getfield 12, 3, 3, 0, 0, 0), (71, .getfield 105, 3, 0, 7, 0, 0), (74, .iload 4, 2, 4, 0, 0, 0), (76, .ishr, 1, 0, 0, 0, 0), (77, .iconst 1, 1, 0, 0, 1, 0), (78, .iand, 1, 0, 0, 0, 0), (79, .iconst 1, 1, 0, 0, 1, 0), (80, .if_icmp .ne 8, 3, 88, 0, 0, 0), (83, .iload 5, 2, 5, 0, 0, 0), (85, .goto 5, 3, 90, 0, 0, 0), (88, .bipush 100, 2, 0, 0, 100, 0), (90, .iastore, 1, 0, 0, 0, 0), (91, .iload 5, 2, 5, 0, 0, 0), (93, .iconst (-1), 1, 0, 0, (-1), 0), (94, .if_icmp .eq 6, 3, 100, 0, 0, 0), (97, .iinc 3 1, 3, 3, 0, 1, 0), (100, .iinc 4 1, 3, 4, 0, 1, 0), (103, .goto (-67), 3, 36, 0, 0, 0), (106, .iload_n 3, 1, 3, 0, 0, 0), (107, .ireturn, 1, 0, 0, 0, 0)]
theorem tkX3_simulate : tOk cX3_simulate "RumourSource" 6 tX3_simulate = true := by decide +kernel
theorem fX3_simulate_0 : fetch tX3_simulate 0 = some (.iload_n 1, 1, 1, 0, 0, 0) := rfl
theorem fX3_simulate_1 : fetch tX3_simulate 1 = some (.invokestatic 108, 3, 0, 3, 0, 0) := rfl
theorem fX3_simulate_4 : fetch tX3_simulate 4 = some (.ifCond .ne 6, 3, 10, 0, 0, 0) := rfl
theorem fX3_simulate_7 : fetch tX3_simulate 7 = some (.bipush (-3), 2, 0, 0, (-3), 0) := rfl
theorem fX3_simulate_9 : fetch tX3_simulate 9 = some (.ireturn, 1, 0, 0, 0, 0) := rfl
theorem fX3_simulate_10 : fetch tX3_simulate 10 = some (.aload_n 0, 1, 0, 0, 0, 0) := rfl
theorem fX3_simulate_11 : fetch tX3_simulate 11 = some (.invokevirtual 60, 3, 1, 3, 0, 0) := rfl
theorem fX3_simulate_14 : fetch tX3_simulate 14 = some (.aload_n 0, 1, 0, 0, 0, 0) := rfl
theorem fX3_simulate_15 : fetch tX3_simulate 15 = some (.getfield 23, 3, 3, 2, 0, 0) := rfl
theorem fX3_simulate_18 : fetch tX3_simulate 18 = some (.aload_n 0, 1, 0, 0, 0, 0) := rfl
theorem fX3_simulate_19 : fetch tX3_simulate 19 = some (.getfield 12, 3, 3, 0, 0, 0) := rfl
theorem fX3_simulate_22 : fetch tX3_simulate 22 = some (.iload_n 1, 1, 1, 0, 0, 0) := rfl
theorem fX3_simulate_23 : fetch tX3_simulate 23 = some (.aload_n 0, 1, 0, 0, 0, 0) := rfl
theorem fX3_simulate_24 : fetch tX3_simulate 24 = some (.iload_n 2, 1, 2, 0, 0, 0) := rfl
theorem fX3_simulate_25 : fetch tX3_simulate 25 = some (.invokevirtual 111, 3, 2, 3, 0, 0) := rfl
theorem fX3_simulate_28 : fetch tX3_simulate 28 = some (.invokevirtual 115, 3, 3, 1, 0, 0) := rfl
theorem fX3_simulate_31 : fetch tX3_simulate 31 = some (.iconst 0, 1, 0, 0, 0, 0) := rfl
theorem fX3_simulate_32 : fetch tX3_simulate 32 = some (.istore_n 3, 1, 3, 0, 0, 0) := rfl
theorem fX3_simulate_33 : fetch tX3_simulate 33 = some (.iconst 0, 1, 0, 0, 0, 0) := rfl
theorem fX3_simulate_34 : fetch tX3_simulate 34 = some (.istore 4, 2, 4, 0, 0, 0) := rfl
theorem fX3_simulate_36 : fetch tX3_simulate 36 = some (.iload 4, 2, 4, 0, 0, 0) := rfl
theorem fX3_simulate_38 : fetch tX3_simulate 38 = some (.bipush 8, 2, 0, 0, 8, 0) := rfl
theorem fX3_simulate_40 : fetch tX3_simulate 40 = some (.if_icmp .ge 66, 3, 106, 0, 0, 0) := rfl
theorem fX3_simulate_43 : fetch tX3_simulate 43 = some (.aload_n 0, 1, 0, 0, 0, 0) := rfl
theorem fX3_simulate_44 : fetch tX3_simulate 44 = some (.getfield 23, 3, 3, 2, 0, 0) := rfl
theorem fX3_simulate_47 : fetch tX3_simulate 47 = some (.getfield 119, 3, 1, 0, 0, 0) := rfl
theorem fX3_simulate_50 : fetch tX3_simulate 50 = some (.iload 4, 2, 4, 0, 0, 0) := rfl
theorem fX3_simulate_52 : fetch tX3_simulate 52 = some (.iaload, 1, 0, 0, 0, 0) := rfl
theorem fX3_simulate_53 : fetch tX3_simulate 53 = some (.invokestatic 122, 3, 4, 3, 0, 0) := rfl
theorem fX3_simulate_56 : fetch tX3_simulate 56 = some (.istore 5, 2, 5, 0, 0, 0) := rfl
theorem fX3_simulate_58 : fetch tX3_simulate 58 = some (.aload_n 0, 1, 0, 0, 0, 0) := rfl
theorem fX3_simulate_59 : fetch tX3_simulate 59 = some (.getfield 12, 3, 3, 0, 0, 0) := rfl
theorem fX3_simulate_62 : fetch tX3_simulate 62 = some (.getfield 102, 3, 0, 6, 0, 0) := rfl
theorem fX3_simulate_65 : fetch tX3_simulate 65 = some (.iload 4, 2, 4, 0, 0, 0) := rfl
theorem fX3_simulate_67 : fetch tX3_simulate 67 = some (.aload_n 0, 1, 0, 0, 0, 0) := rfl
theorem fX3_simulate_68 : fetch tX3_simulate 68 = some (.getfield 12, 3, 3, 0, 0, 0) := rfl
theorem fX3_simulate_71 : fetch tX3_simulate 71 = some (.getfield 105, 3, 0, 7, 0, 0) := rfl
theorem fX3_simulate_74 : fetch tX3_simulate 74 = some (.iload 4, 2, 4, 0, 0, 0) := rfl
theorem fX3_simulate_76 : fetch tX3_simulate 76 = some (.ishr, 1, 0, 0, 0, 0) := rfl
theorem fX3_simulate_77 : fetch tX3_simulate 77 = some (.iconst 1, 1, 0, 0, 1, 0) := rfl
theorem fX3_simulate_78 : fetch tX3_simulate 78 = some (.iand, 1, 0, 0, 0, 0) := rfl
theorem fX3_simulate_79 : fetch tX3_simulate 79 = some (.iconst 1, 1, 0, 0, 1, 0) := rfl
theorem fX3_simulate_80 : fetch tX3_simulate 80 = some (.if_icmp .ne 8, 3, 88, 0, 0, 0) := rfl
theorem fX3_simulate_83 : fetch tX3_simulate 83 = some (.iload 5, 2, 5, 0, 0, 0) := rfl
theorem fX3_simulate_85 : fetch tX3_simulate 85 = some (.goto 5, 3, 90, 0, 0, 0) := rfl
theorem fX3_simulate_88 : fetch tX3_simulate 88 = some (.bipush 100, 2, 0, 0, 100, 0) := rfl
theorem fX3_simulate_90 : fetch tX3_simulate 90 = some (.iastore, 1, 0, 0, 0, 0) := rfl
theorem fX3_simulate_91 : fetch tX3_simulate 91 = some (.iload 5, 2, 5, 0, 0, 0) := rfl
theorem fX3_simulate_93 : fetch tX3_simulate 93 = some (.iconst (-1), 1, 0, 0, (-1), 0) := rfl
theorem fX3_simulate_94 : fetch tX3_simulate 94 = some (.if_icmp .eq 6, 3, 100, 0, 0, 0) := rfl
theorem fX3_simulate_97 : fetch tX3_simulate 97 = some (.iinc 3 1, 3, 3, 0, 1, 0) := rfl
theorem fX3_simulate_100 : fetch tX3_simulate 100 = some (.iinc 4 1, 3, 4, 0, 1, 0) := rfl
theorem fX3_simulate_103 : fetch tX3_simulate 103 = some (.goto (-67), 3, 36, 0, 0, 0) := rfl
theorem fX3_simulate_106 : fetch tX3_simulate 106 = some (.iload_n 3, 1, 3, 0, 0, 0) := rfl
theorem fX3_simulate_107 : fetch tX3_simulate 107 = some (.ireturn, 1, 0, 0, 0, 0) := rfl
def tX3_timeBy : List (Nat × TE) := [(0, .iload_n 3, 1, 3, 0, 0, 0), (1, .invokestatic 42, 3, 0, 3, 0, 0), (4, .ifCond .ne 6, 3, 10, 0, 0, 0), (7, .bipush (-2), 2, 0, 0, (-2), 0), (9, .ireturn, 1, 0, 0, 0, 0), (10, .iload_n 1, 1, 1, 0, 0, 0), (11, .invokestatic 108, 3, 1, 3, 0, 0), (14, .ifCond .eq 11, 3, 25, 0, 0, 0), (17, .aload_n 0, 1, 0, 0, 0, 0), (18, .iload_n 2, 1, 2, 0, 0, 0), (19, .invokevirtual 125, 3, 2, 3, 0, 0), (22, .ifCond .ne 6, 3, 28, 0, 0, 0), (25, .bipush (-3), 2, 0, 0, (-3), 0), (27, .ireturn, 1, 0, 0, 0, 0), (28, .aload_n 0, 1, 0, 0, 0, 0), (29, .getfield 23, 3, 3, 2, 0, 0), (32, .aload_n 0, 1, 0, 0, 0, 0), (33, .getfield 12, 3, 3, 0, 0, 0), (36, .iload_n 1, 1, 1, 0, 0, 0), (37, .iload_n 2, 1, 2, 0, 0, 0), (38, .invokevirtual 115, 3, 3, 1, 0, 0), (41, .aload_n 0, 1, 0, 0, 0, 0), (42, .getfield 23, 3, 3, 2, 0, 0), (45, .getfield 119, 3, 1, 0, 0, 0), (48, .iload_n 3, 1, 3, 0, 0, 0), (49, .iaload, 1, 0, 0, 0, 0), (50, .invokestatic 122, 3, 4, 3, 0, 0), (53, .ireturn, 1, 0, 0, 0, 0)]
theorem tkX3_timeBy : tOk cX3_timeBy "RumourSource" 4 tX3_timeBy = true := by decide +kernel
theorem fX3_timeBy_0 : fetch tX3_timeBy 0 = some (.iload_n 3, 1, 3, 0, 0, 0) := rfl
theorem fX3_timeBy_1 : fetch tX3_timeBy 1 = some (.invokestatic 42, 3, 0, 3, 0, 0) := rfl
theorem fX3_timeBy_4 : fetch tX3_timeBy 4 = some (.ifCond .ne 6, 3, 10, 0, 0, 0) := rfl
theorem fX3_timeBy_7 : fetch tX3_timeBy 7 = some (.bipush (-2), 2, 0, 0, (-2), 0) := rfl
theorem fX3_timeBy_9 : fetch tX3_timeBy 9 = some (.ireturn, 1, 0, 0, 0, 0) := rfl
theorem fX3_timeBy_10 : fetch tX3_timeBy 10 = some (.iload_n 1, 1, 1, 0, 0, 0) := rfl
theorem fX3_timeBy_11 : fetch tX3_timeBy 11 = some (.invokestatic 108, 3, 1, 3, 0, 0) := rfl
theorem fX3_timeBy_14 : fetch tX3_timeBy 14 = some (.ifCond .eq 11, 3, 25, 0, 0, 0) := rfl
theorem fX3_timeBy_17 : fetch tX3_timeBy 17 = some (.aload_n 0, 1, 0, 0, 0, 0) := rfl
theorem fX3_timeBy_18 : fetch tX3_timeBy 18 = some (.iload_n 2, 1, 2, 0, 0, 0) := rfl
theorem fX3_timeBy_19 : fetch tX3_timeBy 19 = some (.invokevirtual 125, 3, 2, 3, 0, 0) := rfl
theorem fX3_timeBy_22 : fetch tX3_timeBy 22 = some (.ifCond .ne 6, 3, 28, 0, 0, 0) := rfl
theorem fX3_timeBy_25 : fetch tX3_timeBy 25 = some (.bipush (-3), 2, 0, 0, (-3), 0) := rfl
theorem fX3_timeBy_27 : fetch tX3_timeBy 27 = some (.ireturn, 1, 0, 0, 0, 0) := rfl
theorem fX3_timeBy_28 : fetch tX3_timeBy 28 = some (.aload_n 0, 1, 0, 0, 0, 0) := rfl
theorem fX3_timeBy_29 : fetch tX3_timeBy 29 = some (.getfield 23, 3, 3, 2, 0, 0) := rfl
theorem fX3_timeBy_32 : fetch tX3_timeBy 32 = some (.aload_n 0, 1, 0, 0, 0, 0) := rfl
theorem fX3_timeBy_33 : fetch tX3_timeBy 33 = some (.getfield 12, 3, 3, 0, 0, 0) := rfl
theorem fX3_timeBy_36 : fetch tX3_timeBy 36 = some (.iload_n 1, 1, 1, 0, 0, 0) := rfl
theorem fX3_timeBy_37 : fetch tX3_timeBy 37 = some (.iload_n 2, 1, 2, 0, 0, 0) := rfl
theorem fX3_timeBy_38 : fetch tX3_timeBy 38 = some (.invokevirtual 115, 3, 3, 1, 0, 0) := rfl
theorem fX3_timeBy_41 : fetch tX3_timeBy 41 = some (.aload_n 0, 1, 0, 0, 0, 0) := rfl
theorem fX3_timeBy_42 : fetch tX3_timeBy 42 = some (.getfield 23, 3, 3, 2, 0, 0) := rfl
theorem fX3_timeBy_45 : fetch tX3_timeBy 45 = some (.getfield 119, 3, 1, 0, 0, 0) := rfl
theorem fX3_timeBy_48 : fetch tX3_timeBy 48 = some (.iload_n 3, 1, 3, 0, 0, 0) := rfl
theorem fX3_timeBy_49 : fetch tX3_timeBy 49 = some (.iaload, 1, 0, 0, 0, 0) := rfl
theorem fX3_timeBy_50 : fetch tX3_timeBy 50 = some (.invokestatic 122, 3, 4, 3, 0, 0) := rfl
theorem fX3_timeBy_53 : fetch tX3_timeBy 53 = some (.ireturn, 1, 0, 0, 0, 0) := rfl
def tX3_weight : List (Nat × TE) := [(0, .aload_n 0, 1, 0, 0, 0, 0), (1, .iload_n 1, 1, 1, 0, 0, 0), (2, .invokevirtual 125, 3, 0, 3, 0, 0), (5, .ifCond .ne 7, 3, 12, 0, 0, 0), (8, .ldc2_w 128, 3, 0, 0, 0, (-3)), (11, .lreturn, 1, 0, 0, 0, 0), (12, .lconst 1, 1, 0, 0, 0, 1), (13, .lstore_n 2, 1, 2, 0, 0, 0), (14, .iconst 0, 1, 0, 0, 0, 0), (15, .istore 4, 2, 4, 0, 0, 0), (17, .iload 4, 2, 4, 0, 0, 0), (19, .aload_n 0, 1, 0, 0, 0, 0), (20, .getfield 12, 3, 3, 0, 0, 0), (23, .getfield 81, 3, 0, 4, 0, 0), (26, .if_icmp .ge 46, 3, 72, 0, 0, 0), (29, .aload_n 0, 1, 0, 0, 0, 0), (30, .getfield 12, 3, 3, 0, 0, 0), (33, .getfield 70, 3, 0, 2, 0, 0), (36, .iload 4, 2, 4, 0, 0, 0), (38, .iaload, 1, 0, 0, 0, 0), (39, .istore 5, 2, 5, 0, 0, 0), (41, .lload_n 2, 1, 2, 0, 0, 0), (42, .iload_n 1, 1, 1, 0, 0, 0), (43, .iload 4, 2, 4, 0, 0, 0), (45, .ishr, 1, 0, 0, 0, 0), (46, .iconst 1, 1, 0, 0, 1, 0), (47, .iand, 1, 0, 0, 0, 0), (48, .iconst 1, 1, 0, 0, 1, 0), (49, .if_icmp .ne 9, 3, 58, 0, 0, 0), (52, .iload 5, 2, 5, 0, 0, 0), (54, .i2l, 1, 0, 0, 0, 0), (55, .goto 9, 3, 64, 0, 0, 0), (58, .bipush 10, 2, 0, 0, 10, 0), (60, .iload 5, 2, 5, 0, 0, 0), (62, .isub, 1, 0, 0, 0, 0), (63, .i2l, 1, 0, 0, 0, 0), (64, .lmul, 1, 0, 0, 0, 0), (65, .lstore_n 2, 1, 2, 0, 0, 0), (66, .iinc 4 1, 3, 4, 0, 1, 0), (69, .goto (-52), 3, 17, 0, 0, 0), (72, .lload_n 2, 1, 2, 0, 0, 0), (73, .lreturn, 1, 0, 0, 0, 0)]
theorem tkX3_weight : tOk cX3_weight "RumourSource" 6 tX3_weight = true := by decide +kernel
theorem fX3_weight_0 : fetch tX3_weight 0 = some (.aload_n 0, 1, 0, 0, 0, 0) := rfl
theorem fX3_weight_1 : fetch tX3_weight 1 = some (.iload_n 1, 1, 1, 0, 0, 0) := rfl
theorem fX3_weight_2 : fetch tX3_weight 2 = some (.invokevirtual 125, 3, 0, 3, 0, 0) := rfl
theorem fX3_weight_5 : fetch tX3_weight 5 = some (.ifCond .ne 7, 3, 12, 0, 0, 0) := rfl
theorem fX3_weight_8 : fetch tX3_weight 8 = some (.ldc2_w 128, 3, 0, 0, 0, (-3)) := rfl
theorem fX3_weight_11 : fetch tX3_weight 11 = some (.lreturn, 1, 0, 0, 0, 0) := rfl
theorem fX3_weight_12 : fetch tX3_weight 12 = some (.lconst 1, 1, 0, 0, 0, 1) := rfl
theorem fX3_weight_13 : fetch tX3_weight 13 = some (.lstore_n 2, 1, 2, 0, 0, 0) := rfl
theorem fX3_weight_14 : fetch tX3_weight 14 = some (.iconst 0, 1, 0, 0, 0, 0) := rfl
theorem fX3_weight_15 : fetch tX3_weight 15 = some (.istore 4, 2, 4, 0, 0, 0) := rfl
theorem fX3_weight_17 : fetch tX3_weight 17 = some (.iload 4, 2, 4, 0, 0, 0) := rfl
theorem fX3_weight_19 : fetch tX3_weight 19 = some (.aload_n 0, 1, 0, 0, 0, 0) := rfl
theorem fX3_weight_20 : fetch tX3_weight 20 = some (.getfield 12, 3, 3, 0, 0, 0) := rfl
theorem fX3_weight_23 : fetch tX3_weight 23 = some (.getfield 81, 3, 0, 4, 0, 0) := rfl
theorem fX3_weight_26 : fetch tX3_weight 26 = some (.if_icmp .ge 46, 3, 72, 0, 0, 0) := rfl
theorem fX3_weight_29 : fetch tX3_weight 29 = some (.aload_n 0, 1, 0, 0, 0, 0) := rfl
theorem fX3_weight_30 : fetch tX3_weight 30 = some (.getfield 12, 3, 3, 0, 0, 0) := rfl
theorem fX3_weight_33 : fetch tX3_weight 33 = some (.getfield 70, 3, 0, 2, 0, 0) := rfl
theorem fX3_weight_36 : fetch tX3_weight 36 = some (.iload 4, 2, 4, 0, 0, 0) := rfl
theorem fX3_weight_38 : fetch tX3_weight 38 = some (.iaload, 1, 0, 0, 0, 0) := rfl
theorem fX3_weight_39 : fetch tX3_weight 39 = some (.istore 5, 2, 5, 0, 0, 0) := rfl
theorem fX3_weight_41 : fetch tX3_weight 41 = some (.lload_n 2, 1, 2, 0, 0, 0) := rfl
theorem fX3_weight_42 : fetch tX3_weight 42 = some (.iload_n 1, 1, 1, 0, 0, 0) := rfl
theorem fX3_weight_43 : fetch tX3_weight 43 = some (.iload 4, 2, 4, 0, 0, 0) := rfl
theorem fX3_weight_45 : fetch tX3_weight 45 = some (.ishr, 1, 0, 0, 0, 0) := rfl
theorem fX3_weight_46 : fetch tX3_weight 46 = some (.iconst 1, 1, 0, 0, 1, 0) := rfl
theorem fX3_weight_47 : fetch tX3_weight 47 = some (.iand, 1, 0, 0, 0, 0) := rfl
theorem fX3_weight_48 : fetch tX3_weight 48 = some (.iconst 1, 1, 0, 0, 1, 0) := rfl
theorem fX3_weight_49 : fetch tX3_weight 49 = some (.if_icmp .ne 9, 3, 58, 0, 0, 0) := rfl
theorem fX3_weight_52 : fetch tX3_weight 52 = some (.iload 5, 2, 5, 0, 0, 0) := rfl
theorem fX3_weight_54 : fetch tX3_weight 54 = some (.i2l, 1, 0, 0, 0, 0) := rfl
theorem fX3_weight_55 : fetch tX3_weight 55 = some (.goto 9, 3, 64, 0, 0, 0) := rfl
theorem fX3_weight_58 : fetch tX3_weight 58 = some (.bipush 10, 2, 0, 0, 10, 0) := rfl
theorem fX3_weight_60 : fetch tX3_weight 60 = some (.iload 5, 2, 5, 0, 0, 0) := rfl
theorem fX3_weight_62 : fetch tX3_weight 62 = some (.isub, 1, 0, 0, 0, 0) := rfl
theorem fX3_weight_63 : fetch tX3_weight 63 = some (.i2l, 1, 0, 0, 0, 0) := rfl
theorem fX3_weight_64 : fetch tX3_weight 64 = some (.lmul, 1, 0, 0, 0, 0) := rfl
theorem fX3_weight_65 : fetch tX3_weight 65 = some (.lstore_n 2, 1, 2, 0, 0, 0) := rfl
theorem fX3_weight_66 : fetch tX3_weight 66 = some (.iinc 4 1, 3, 4, 0, 1, 0) := rfl
theorem fX3_weight_69 : fetch tX3_weight 69 = some (.goto (-52), 3, 17, 0, 0, 0) := rfl
theorem fX3_weight_72 : fetch tX3_weight 72 = some (.lload_n 2, 1, 2, 0, 0, 0) := rfl
theorem fX3_weight_73 : fetch tX3_weight 73 = some (.lreturn, 1, 0, 0, 0, 0) := rfl
def tX3_fits : List (Nat × TE) := [(0, .iload_n 1, 1, 1, 0, 0, 0), (1, .invokestatic 108, 3, 0, 3, 0, 0), (4, .ifCond .eq 11, 3, 15, 0, 0, 0), (7, .aload_n 0, 1, 0, 0, 0, 0), (8, .iload_n 2, 1, 2, 0, 0, 0), (9, .invokevirtual 125, 3, 1, 3, 0, 0), (12, .ifCond .ne 6, 3, 18, 0, 0, 0), (15, .bipush (-3), 2, 0, 0, (-3), 0), (17, .ireturn, 1, 0, 0, 0, 0), (18, .aload_n 0, 1, 0, 0, 0, 0), (19, .getfield 23, 3, 3, 2, 0, 0), (22, .aload_n 0, 1, 0, 0, 0, 0), (23, .getfield 12, 3, 3, 0, 0, 0), (26, .invokevirtual 130, 3, 2, 1, 0, 0), (29, .aload_n 0, 1, 0, 0, 0, 0), (30, .getfield 23, 3, 3, 2, 0, 0), (33, .aload_n 0, 1, 0, 0, 0, 0), (34, .getfield 12, 3, 3, 0, 0, 0), (37, .iload_n 1, 1, 1, 0, 0, 0), (38, .iload_n 2, 1, 2, 0, 0, 0), (39, .invokevirtual 115, 3, 3, 1, 0, 0), (42, .aload_n 0, 1, 0, 0, 0, 0), (43, .getfield 23, 3, 3, 2, 0, 0), (46, .invokevirtual 134, 3, 4, 1, 0, 0), (49, .ifCond .eq 7, 3, 56, 0, 0, 0), (52, .iconst 1, 1, 0, 0, 1, 0), (53, .goto 4, 3, 57, 0, 0, 0), (56, .iconst 0, 1, 0, 0, 0, 0), (57, .ireturn, 1, 0, 0, 0, 0)]
theorem tkX3_fits : tOk cX3_fits "RumourSource" 3 tX3_fits = true := by decide +kernel
theorem fX3_fits_0 : fetch tX3_fits 0 = some (.iload_n 1, 1, 1, 0, 0, 0) := rfl
theorem fX3_fits_1 : fetch tX3_fits 1 = some (.invokestatic 108, 3, 0, 3, 0, 0) := rfl
theorem fX3_fits_4 : fetch tX3_fits 4 = some (.ifCond .eq 11, 3, 15, 0, 0, 0) := rfl
theorem fX3_fits_7 : fetch tX3_fits 7 = some (.aload_n 0, 1, 0, 0, 0, 0) := rfl
theorem fX3_fits_8 : fetch tX3_fits 8 = some (.iload_n 2, 1, 2, 0, 0, 0) := rfl
theorem fX3_fits_9 : fetch tX3_fits 9 = some (.invokevirtual 125, 3, 1, 3, 0, 0) := rfl
theorem fX3_fits_12 : fetch tX3_fits 12 = some (.ifCond .ne 6, 3, 18, 0, 0, 0) := rfl
theorem fX3_fits_15 : fetch tX3_fits 15 = some (.bipush (-3), 2, 0, 0, (-3), 0) := rfl
theorem fX3_fits_17 : fetch tX3_fits 17 = some (.ireturn, 1, 0, 0, 0, 0) := rfl
theorem fX3_fits_18 : fetch tX3_fits 18 = some (.aload_n 0, 1, 0, 0, 0, 0) := rfl
theorem fX3_fits_19 : fetch tX3_fits 19 = some (.getfield 23, 3, 3, 2, 0, 0) := rfl
theorem fX3_fits_22 : fetch tX3_fits 22 = some (.aload_n 0, 1, 0, 0, 0, 0) := rfl
theorem fX3_fits_23 : fetch tX3_fits 23 = some (.getfield 12, 3, 3, 0, 0, 0) := rfl
theorem fX3_fits_26 : fetch tX3_fits 26 = some (.invokevirtual 130, 3, 2, 1, 0, 0) := rfl
theorem fX3_fits_29 : fetch tX3_fits 29 = some (.aload_n 0, 1, 0, 0, 0, 0) := rfl
theorem fX3_fits_30 : fetch tX3_fits 30 = some (.getfield 23, 3, 3, 2, 0, 0) := rfl
theorem fX3_fits_33 : fetch tX3_fits 33 = some (.aload_n 0, 1, 0, 0, 0, 0) := rfl
theorem fX3_fits_34 : fetch tX3_fits 34 = some (.getfield 12, 3, 3, 0, 0, 0) := rfl
theorem fX3_fits_37 : fetch tX3_fits 37 = some (.iload_n 1, 1, 1, 0, 0, 0) := rfl
theorem fX3_fits_38 : fetch tX3_fits 38 = some (.iload_n 2, 1, 2, 0, 0, 0) := rfl
theorem fX3_fits_39 : fetch tX3_fits 39 = some (.invokevirtual 115, 3, 3, 1, 0, 0) := rfl
theorem fX3_fits_42 : fetch tX3_fits 42 = some (.aload_n 0, 1, 0, 0, 0, 0) := rfl
theorem fX3_fits_43 : fetch tX3_fits 43 = some (.getfield 23, 3, 3, 2, 0, 0) := rfl
theorem fX3_fits_46 : fetch tX3_fits 46 = some (.invokevirtual 134, 3, 4, 1, 0, 0) := rfl
theorem fX3_fits_49 : fetch tX3_fits 49 = some (.ifCond .eq 7, 3, 56, 0, 0, 0) := rfl
theorem fX3_fits_52 : fetch tX3_fits 52 = some (.iconst 1, 1, 0, 0, 1, 0) := rfl
theorem fX3_fits_53 : fetch tX3_fits 53 = some (.goto 4, 3, 57, 0, 0, 0) := rfl
theorem fX3_fits_56 : fetch tX3_fits 56 = some (.iconst 0, 1, 0, 0, 0, 0) := rfl
theorem fX3_fits_57 : fetch tX3_fits 57 = some (.ireturn, 1, 0, 0, 0, 0) := rfl
def tX3_timeWeight : List (Nat × TE) := [(0, .iload_n 2, 1, 2, 0, 0, 0), (1, .invokestatic 42, 3, 0, 3, 0, 0), (4, .ifCond .ne 7, 3, 11, 0, 0, 0), (7, .ldc2_w 137, 3, 0, 0, 0, (-2)), (10, .lreturn, 1, 0, 0, 0, 0), (11, .iload_n 1, 1, 1, 0, 0, 0), (12, .invokestatic 108, 3, 1, 3, 0, 0), (15, .ifCond .eq 10, 3, 25, 0, 0, 0), (18, .iload_n 3, 1, 3, 0, 0, 0), (19, .invokestatic 96, 3, 2, 3, 0, 0), (22, .ifCond .ne 7, 3, 29, 0, 0, 0), (25, .ldc2_w 128, 3, 0, 0, 0, (-3)), (28, .lreturn, 1, 0, 0, 0, 0), (29, .aload_n 0, 1, 0, 0, 0, 0), (30, .getfield 23, 3, 3, 2, 0, 0), (33, .iload_n 2, 1, 2, 0, 0, 0), (34, .iload_n 3, 1, 3, 0, 0, 0), (35, .invokevirtual 139, 3, 3, 1, 0, 0), (38, .aload_n 0, 1, 0, 0, 0, 0), (39, .getfield 23, 3, 3, 2, 0, 0), (42, .aload_n 0, 1, 0, 0, 0, 0), (43, .getfield 12, 3, 3, 0, 0, 0), (46, .iload_n 1, 1, 1, 0, 0, 0), (47, .iconst 0, 1, 0, 0, 0, 0), (48, .invokevirtual 143, 3, 4, 1, 0, 0), (51, .aload_n 0, 1, 0, 0, 0, 0), (52, .getfield 23, 3, 3, 2, 0, 0), (55, .getfield 147, 3, 1, 2, 0, 0), (58, .lreturn, 1, 0, 0, 0, 0)]
theorem tkX3_timeWeight : tOk cX3_timeWeight "RumourSource" 4 tX3_timeWeight = true := by decide +kernel
theorem fX3_timeWeight_0 : fetch tX3_timeWeight 0 = some (.iload_n 2, 1, 2, 0, 0, 0) := rfl
theorem fX3_timeWeight_1 : fetch tX3_timeWeight 1 = some (.invokestatic 42, 3, 0, 3, 0, 0) := rfl
theorem fX3_timeWeight_4 : fetch tX3_timeWeight 4 = some (.ifCond .ne 7, 3, 11, 0, 0, 0) := rfl
theorem fX3_timeWeight_7 : fetch tX3_timeWeight 7 = some (.ldc2_w 137, 3, 0, 0, 0, (-2)) := rfl
theorem fX3_timeWeight_10 : fetch tX3_timeWeight 10 = some (.lreturn, 1, 0, 0, 0, 0) := rfl
theorem fX3_timeWeight_11 : fetch tX3_timeWeight 11 = some (.iload_n 1, 1, 1, 0, 0, 0) := rfl
theorem fX3_timeWeight_12 : fetch tX3_timeWeight 12 = some (.invokestatic 108, 3, 1, 3, 0, 0) := rfl
theorem fX3_timeWeight_15 : fetch tX3_timeWeight 15 = some (.ifCond .eq 10, 3, 25, 0, 0, 0) := rfl
theorem fX3_timeWeight_18 : fetch tX3_timeWeight 18 = some (.iload_n 3, 1, 3, 0, 0, 0) := rfl
theorem fX3_timeWeight_19 : fetch tX3_timeWeight 19 = some (.invokestatic 96, 3, 2, 3, 0, 0) := rfl
theorem fX3_timeWeight_22 : fetch tX3_timeWeight 22 = some (.ifCond .ne 7, 3, 29, 0, 0, 0) := rfl
theorem fX3_timeWeight_25 : fetch tX3_timeWeight 25 = some (.ldc2_w 128, 3, 0, 0, 0, (-3)) := rfl
theorem fX3_timeWeight_28 : fetch tX3_timeWeight 28 = some (.lreturn, 1, 0, 0, 0, 0) := rfl
theorem fX3_timeWeight_29 : fetch tX3_timeWeight 29 = some (.aload_n 0, 1, 0, 0, 0, 0) := rfl
theorem fX3_timeWeight_30 : fetch tX3_timeWeight 30 = some (.getfield 23, 3, 3, 2, 0, 0) := rfl
theorem fX3_timeWeight_33 : fetch tX3_timeWeight 33 = some (.iload_n 2, 1, 2, 0, 0, 0) := rfl
theorem fX3_timeWeight_34 : fetch tX3_timeWeight 34 = some (.iload_n 3, 1, 3, 0, 0, 0) := rfl
theorem fX3_timeWeight_35 : fetch tX3_timeWeight 35 = some (.invokevirtual 139, 3, 3, 1, 0, 0) := rfl
theorem fX3_timeWeight_38 : fetch tX3_timeWeight 38 = some (.aload_n 0, 1, 0, 0, 0, 0) := rfl
theorem fX3_timeWeight_39 : fetch tX3_timeWeight 39 = some (.getfield 23, 3, 3, 2, 0, 0) := rfl
theorem fX3_timeWeight_42 : fetch tX3_timeWeight 42 = some (.aload_n 0, 1, 0, 0, 0, 0) := rfl
theorem fX3_timeWeight_43 : fetch tX3_timeWeight 43 = some (.getfield 12, 3, 3, 0, 0, 0) := rfl
theorem fX3_timeWeight_46 : fetch tX3_timeWeight 46 = some (.iload_n 1, 1, 1, 0, 0, 0) := rfl
theorem fX3_timeWeight_47 : fetch tX3_timeWeight 47 = some (.iconst 0, 1, 0, 0, 0, 0) := rfl
theorem fX3_timeWeight_48 : fetch tX3_timeWeight 48 = some (.invokevirtual 143, 3, 4, 1, 0, 0) := rfl
theorem fX3_timeWeight_51 : fetch tX3_timeWeight 51 = some (.aload_n 0, 1, 0, 0, 0, 0) := rfl
theorem fX3_timeWeight_52 : fetch tX3_timeWeight 52 = some (.getfield 23, 3, 3, 2, 0, 0) := rfl
theorem fX3_timeWeight_55 : fetch tX3_timeWeight 55 = some (.getfield 147, 3, 1, 2, 0, 0) := rfl
theorem fX3_timeWeight_58 : fetch tX3_timeWeight 58 = some (.lreturn, 1, 0, 0, 0, 0) := rfl
def tX3_reach : List (Nat × TE) := [(0, .iload_n 1, 1, 1, 0, 0, 0), (1, .invokestatic 108, 3, 0, 3, 0, 0), (4, .ifCond .ne 7, 3, 11, 0, 0, 0), (7, .ldc2_w 128, 3, 0, 0, 0, (-3)), (10, .lreturn, 1, 0, 0, 0, 0), (11, .aload_n 0, 1, 0, 0, 0, 0), (12, .getfield 23, 3, 3, 2, 0, 0), (15, .invokevirtual 151, 3, 1, 1, 0, 0), (18, .aload_n 0, 1, 0, 0, 0, 0), (19, .getfield 23, 3, 3, 2, 0, 0), (22, .aload_n 0, 1, 0, 0, 0, 0), (23, .getfield 12, 3, 3, 0, 0, 0), (26, .iload_n 1, 1, 1, 0, 0, 0), (27, .iconst 0, 1, 0, 0, 0, 0), (28, .invokevirtual 143, 3, 2, 1, 0, 0), (31, .aload_n 0, 1, 0, 0, 0, 0), (32, .getfield 23, 3, 3, 2, 0, 0), (35, .getfield 154, 3, 1, 3, 0, 0), (38, .lreturn, 1, 0, 0, 0, 0)]
theorem tkX3_reach : tOk cX3_reach "RumourSource" 2 tX3_reach = true := by decide +kernel
theorem fX3_reach_0 : fetch tX3_reach 0 = some (.iload_n 1, 1, 1, 0, 0, 0) := rfl
theorem fX3_reach_1 : fetch tX3_reach 1 = some (.invokestatic 108, 3, 0, 3, 0, 0) := rfl
theorem fX3_reach_4 : fetch tX3_reach 4 = some (.ifCond .ne 7, 3, 11, 0, 0, 0) := rfl
theorem fX3_reach_7 : fetch tX3_reach 7 = some (.ldc2_w 128, 3, 0, 0, 0, (-3)) := rfl
theorem fX3_reach_10 : fetch tX3_reach 10 = some (.lreturn, 1, 0, 0, 0, 0) := rfl
theorem fX3_reach_11 : fetch tX3_reach 11 = some (.aload_n 0, 1, 0, 0, 0, 0) := rfl
theorem fX3_reach_12 : fetch tX3_reach 12 = some (.getfield 23, 3, 3, 2, 0, 0) := rfl
theorem fX3_reach_15 : fetch tX3_reach 15 = some (.invokevirtual 151, 3, 1, 1, 0, 0) := rfl
theorem fX3_reach_18 : fetch tX3_reach 18 = some (.aload_n 0, 1, 0, 0, 0, 0) := rfl
theorem fX3_reach_19 : fetch tX3_reach 19 = some (.getfield 23, 3, 3, 2, 0, 0) := rfl
theorem fX3_reach_22 : fetch tX3_reach 22 = some (.aload_n 0, 1, 0, 0, 0, 0) := rfl
theorem fX3_reach_23 : fetch tX3_reach 23 = some (.getfield 12, 3, 3, 0, 0, 0) := rfl
theorem fX3_reach_26 : fetch tX3_reach 26 = some (.iload_n 1, 1, 1, 0, 0, 0) := rfl
theorem fX3_reach_27 : fetch tX3_reach 27 = some (.iconst 0, 1, 0, 0, 0, 0) := rfl
theorem fX3_reach_28 : fetch tX3_reach 28 = some (.invokevirtual 143, 3, 2, 1, 0, 0) := rfl
theorem fX3_reach_31 : fetch tX3_reach 31 = some (.aload_n 0, 1, 0, 0, 0, 0) := rfl
theorem fX3_reach_32 : fetch tX3_reach 32 = some (.getfield 23, 3, 3, 2, 0, 0) := rfl
theorem fX3_reach_35 : fetch tX3_reach 35 = some (.getfield 154, 3, 1, 3, 0, 0) := rfl
theorem fX3_reach_38 : fetch tX3_reach 38 = some (.lreturn, 1, 0, 0, 0, 0) := rfl
def tX3_likelihood : List (Nat × TE) := [(0, .iload_n 1, 1, 1, 0, 0, 0), (1, .invokestatic 108, 3, 0, 3, 0, 0), (4, .ifCond .ne 7, 3, 11, 0, 0, 0), (7, .ldc2_w 128, 3, 0, 0, 0, (-3)), (10, .lreturn, 1, 0, 0, 0, 0), (11, .aload_n 0, 1, 0, 0, 0, 0), (12, .iload_n 1, 1, 1, 0, 0, 0), (13, .invokevirtual 157, 3, 1, 3, 0, 0), (16, .lreturn, 1, 0, 0, 0, 0)]
theorem tkX3_likelihood : tOk cX3_likelihood "RumourSource" 2 tX3_likelihood = true := by decide +kernel
theorem fX3_likelihood_0 : fetch tX3_likelihood 0 = some (.iload_n 1, 1, 1, 0, 0, 0) := rfl
theorem fX3_likelihood_1 : fetch tX3_likelihood 1 = some (.invokestatic 108, 3, 0, 3, 0, 0) := rfl
theorem fX3_likelihood_4 : fetch tX3_likelihood 4 = some (.ifCond .ne 7, 3, 11, 0, 0, 0) := rfl
theorem fX3_likelihood_7 : fetch tX3_likelihood 7 = some (.ldc2_w 128, 3, 0, 0, 0, (-3)) := rfl
theorem fX3_likelihood_10 : fetch tX3_likelihood 10 = some (.lreturn, 1, 0, 0, 0, 0) := rfl
theorem fX3_likelihood_11 : fetch tX3_likelihood 11 = some (.aload_n 0, 1, 0, 0, 0, 0) := rfl
theorem fX3_likelihood_12 : fetch tX3_likelihood 12 = some (.iload_n 1, 1, 1, 0, 0, 0) := rfl
theorem fX3_likelihood_13 : fetch tX3_likelihood 13 = some (.invokevirtual 157, 3, 1, 3, 0, 0) := rfl
theorem fX3_likelihood_16 : fetch tX3_likelihood 16 = some (.lreturn, 1, 0, 0, 0, 0) := rfl
def tX3_candidates : List (Nat × TE) := [(0, .iconst 0, 1, 0, 0, 0, 0), (1, .istore_n 1, 1, 1, 0, 0, 0), (2, .iconst 0, 1, 0, 0, 0, 0), (3, .istore_n 2, 1, 2, 0, 0, 0), (4, .iload_n 2, 1, 2, 0, 0, 0), (5, .bipush 8, 2, 0, 0, 8, 0), (7, .if_icmp .ge 19, 3, 26, 0, 0, 0), (10, .iload_n 1, 1, 1, 0, 0, 0), (11, .aload_n 0, 1, 0, 0, 0, 0), (12, .iconst 1, 1, 0, 0, 1, 0), (13, .iload_n 2, 1, 2, 0, 0, 0), (14, .ishl, 1, 0, 0, 0, 0), (15, .invokevirtual 161, 3, 0, 3, 0, 0), (18, .iadd, 1, 0, 0, 0, 0), (19, .istore_n 1, 1, 1, 0, 0, 0), (20, .iinc 2 1, 3, 2, 0, 1, 0), (23, .goto (-19), 3, 4, 0, 0, 0), (26, .iload_n 1, 1, 1, 0, 0, 0), (27, .ireturn, 1, 0, 0, 0, 0)]
theorem tkX3_candidates : tOk cX3_candidates "RumourSource" 3 tX3_candidates = true := by decide +kernel
theorem fX3_candidates_0 : fetch tX3_candidates 0 = some (.iconst 0, 1, 0, 0, 0, 0) := rfl
theorem fX3_candidates_1 : fetch tX3_candidates 1 = some (.istore_n 1, 1, 1, 0, 0, 0) := rfl
theorem fX3_candidates_2 : fetch tX3_candidates 2 = some (.iconst 0, 1, 0, 0, 0, 0) := rfl
theorem fX3_candidates_3 : fetch tX3_candidates 3 = some (.istore_n 2, 1, 2, 0, 0, 0) := rfl
theorem fX3_candidates_4 : fetch tX3_candidates 4 = some (.iload_n 2, 1, 2, 0, 0, 0) := rfl
theorem fX3_candidates_5 : fetch tX3_candidates 5 = some (.bipush 8, 2, 0, 0, 8, 0) := rfl
theorem fX3_candidates_7 : fetch tX3_candidates 7 = some (.if_icmp .ge 19, 3, 26, 0, 0, 0) := rfl
theorem fX3_candidates_10 : fetch tX3_candidates 10 = some (.iload_n 1, 1, 1, 0, 0, 0) := rfl
theorem fX3_candidates_11 : fetch tX3_candidates 11 = some (.aload_n 0, 1, 0, 0, 0, 0) := rfl
theorem fX3_candidates_12 : fetch tX3_candidates 12 = some (.iconst 1, 1, 0, 0, 1, 0) := rfl
theorem fX3_candidates_13 : fetch tX3_candidates 13 = some (.iload_n 2, 1, 2, 0, 0, 0) := rfl
theorem fX3_candidates_14 : fetch tX3_candidates 14 = some (.ishl, 1, 0, 0, 0, 0) := rfl
theorem fX3_candidates_15 : fetch tX3_candidates 15 = some (.invokevirtual 161, 3, 0, 3, 0, 0) := rfl
theorem fX3_candidates_18 : fetch tX3_candidates 18 = some (.iadd, 1, 0, 0, 0, 0) := rfl
theorem fX3_candidates_19 : fetch tX3_candidates 19 = some (.istore_n 1, 1, 1, 0, 0, 0) := rfl
theorem fX3_candidates_20 : fetch tX3_candidates 20 = some (.iinc 2 1, 3, 2, 0, 1, 0) := rfl
theorem fX3_candidates_23 : fetch tX3_candidates 23 = some (.goto (-19), 3, 4, 0, 0, 0) := rfl
theorem fX3_candidates_26 : fetch tX3_candidates 26 = some (.iload_n 1, 1, 1, 0, 0, 0) := rfl
theorem fX3_candidates_27 : fetch tX3_candidates 27 = some (.ireturn, 1, 0, 0, 0, 0) := rfl
def tX3_candidate : List (Nat × TE) := [(0, .aload_n 0, 1, 0, 0, 0, 0), (1, .invokevirtual 164, 3, 0, 3, 0, 0), (4, .iconst 0, 1, 0, 0, 0, 0), (5, .istore_n 2, 1, 2, 0, 0, 0), (6, .iload_n 2, 1, 2, 0, 0, 0), (7, .bipush 8, 2, 0, 0, 8, 0), (9, .if_icmp .ge 31, 3, 40, 0, 0, 0), (12, .aload_n 0, 1, 0, 0, 0, 0), (13, .getfield 34, 3, 3, 4, 0, 0), (16, .iload_n 2, 1, 2, 0, 0, 0), (17, .laload, 1, 0, 0, 0, 0), (18, .lconst 0, 1, 0, 0, 0, 0), (19, .lcmp, 1, 0, 0, 0, 0), (20, .ifCond .le 14, 3, 34, 0, 0, 0), (23, .aload_n 0, 1, 0, 0, 0, 0), (24, .iload_n 2, 1, 2, 0, 0, 0), (25, .invokevirtual 167, 3, 1, 3, 0, 0), (28, .iload_n 1, 1, 1, 0, 0, 0), (29, .if_icmp .ne 5, 3, 34, 0, 0, 0), (32, .iload_n 2, 1, 2, 0, 0, 0), (33, .ireturn, 1, 0, 0, 0, 0), (34, .iinc 2 1, 3, 2, 0, 1, 0), (37, .goto (-31), 3, 6, 0, 0, 0), (40, .bipush (-2), 2, 0, 0, (-2), 0), (42, .ireturn, 1, 0, 0, 0, 0)]
theorem tkX3_candidate : tOk cX3_candidate "RumourSource" 3 tX3_candidate = true := by decide +kernel
theorem fX3_candidate_0 : fetch tX3_candidate 0 = some (.aload_n 0, 1, 0, 0, 0, 0) := rfl
theorem fX3_candidate_1 : fetch tX3_candidate 1 = some (.invokevirtual 164, 3, 0, 3, 0, 0) := rfl
theorem fX3_candidate_4 : fetch tX3_candidate 4 = some (.iconst 0, 1, 0, 0, 0, 0) := rfl
theorem fX3_candidate_5 : fetch tX3_candidate 5 = some (.istore_n 2, 1, 2, 0, 0, 0) := rfl
theorem fX3_candidate_6 : fetch tX3_candidate 6 = some (.iload_n 2, 1, 2, 0, 0, 0) := rfl
theorem fX3_candidate_7 : fetch tX3_candidate 7 = some (.bipush 8, 2, 0, 0, 8, 0) := rfl
theorem fX3_candidate_9 : fetch tX3_candidate 9 = some (.if_icmp .ge 31, 3, 40, 0, 0, 0) := rfl
theorem fX3_candidate_12 : fetch tX3_candidate 12 = some (.aload_n 0, 1, 0, 0, 0, 0) := rfl
theorem fX3_candidate_13 : fetch tX3_candidate 13 = some (.getfield 34, 3, 3, 4, 0, 0) := rfl
theorem fX3_candidate_16 : fetch tX3_candidate 16 = some (.iload_n 2, 1, 2, 0, 0, 0) := rfl
theorem fX3_candidate_17 : fetch tX3_candidate 17 = some (.laload, 1, 0, 0, 0, 0) := rfl
theorem fX3_candidate_18 : fetch tX3_candidate 18 = some (.lconst 0, 1, 0, 0, 0, 0) := rfl
theorem fX3_candidate_19 : fetch tX3_candidate 19 = some (.lcmp, 1, 0, 0, 0, 0) := rfl
theorem fX3_candidate_20 : fetch tX3_candidate 20 = some (.ifCond .le 14, 3, 34, 0, 0, 0) := rfl
theorem fX3_candidate_23 : fetch tX3_candidate 23 = some (.aload_n 0, 1, 0, 0, 0, 0) := rfl
theorem fX3_candidate_24 : fetch tX3_candidate 24 = some (.iload_n 2, 1, 2, 0, 0, 0) := rfl
theorem fX3_candidate_25 : fetch tX3_candidate 25 = some (.invokevirtual 167, 3, 1, 3, 0, 0) := rfl
theorem fX3_candidate_28 : fetch tX3_candidate 28 = some (.iload_n 1, 1, 1, 0, 0, 0) := rfl
theorem fX3_candidate_29 : fetch tX3_candidate 29 = some (.if_icmp .ne 5, 3, 34, 0, 0, 0) := rfl
theorem fX3_candidate_32 : fetch tX3_candidate 32 = some (.iload_n 2, 1, 2, 0, 0, 0) := rfl
theorem fX3_candidate_33 : fetch tX3_candidate 33 = some (.ireturn, 1, 0, 0, 0, 0) := rfl
theorem fX3_candidate_34 : fetch tX3_candidate 34 = some (.iinc 2 1, 3, 2, 0, 1, 0) := rfl
theorem fX3_candidate_37 : fetch tX3_candidate 37 = some (.goto (-31), 3, 6, 0, 0, 0) := rfl
theorem fX3_candidate_40 : fetch tX3_candidate 40 = some (.bipush (-2), 2, 0, 0, (-2), 0) := rfl
theorem fX3_candidate_42 : fetch tX3_candidate 42 = some (.ireturn, 1, 0, 0, 0, 0) := rfl
def tX3_belief : List (Nat × TE) := [(0, .iload_n 1, 1, 1, 0, 0, 0), (1, .invokestatic 42, 3, 0, 3, 0, 0), (4, .ifCond .ne 6, 3, 10, 0, 0, 0), (7, .bipush (-2), 2, 0, 0, (-2), 0), (9, .ireturn, 1, 0, 0, 0, 0), (10, .aload_n 0, 1, 0, 0, 0, 0), (11, .invokevirtual 164, 3, 1, 3, 0, 0), (14, .lconst 0, 1, 0, 0, 0, 0), (15, .lstore_n 2, 1, 2, 0, 0, 0), (16, .iconst 0, 1, 0, 0, 0, 0), (17, .istore 4, 2, 4, 0, 0, 0), (19, .iload 4, 2, 4, 0, 0, 0), (21, .bipush 8, 2, 0, 0, 8, 0), (23, .if_icmp .ge 19, 3, 42, 0, 0, 0), (26, .lload_n 2, 1, 2, 0, 0, 0), (27, .aload_n 0, 1, 0, 0, 0, 0), (28, .getfield 34, 3, 3, 4, 0, 0), (31, .iload 4, 2, 4, 0, 0, 0), (33, .laload, 1, 0, 0, 0, 0), (34, .ladd, 1, 0, 0, 0, 0), (35, .lstore_n 2, 1, 2, 0, 0, 0), (36, .iinc 4 1, 3, 4, 0, 1, 0), (39, .goto (-20), 3, 19, 0, 0, 0), (42, .lload_n 2, 1, 2, 0, 0, 0), (43, .lconst 0, 1, 0, 0, 0, 0), (44, .lcmp, 1, 0, 0, 0, 0), (45, .ifCond .le 19, 3, 64, 0, 0, 0), (48, .ldc2_w 170, 3, 0, 0, 0, 1000), (51, .aload_n 0, 1, 0, 0, 0, 0), (52, .getfield 34, 3, 3, 4, 0, 0), (55, .iload_n 1, 1, 1, 0, 0, 0), (56, .laload, 1, 0, 0, 0, 0), (57, .lmul, 1, 0, 0, 0, 0), (58, .lload_n 2, 1, 2, 0, 0, 0), (59, .ldiv, 1, 0, 0, 0, 0), (60, .l2i, 1, 0, 0, 0, 0), (61, .goto 4, 3, 65, 0, 0, 0), (64, .iconst 0, 1, 0, 0, 0, 0), (65, .ireturn, 1, 0, 0, 0, 0)]
theorem tkX3_belief : tOk cX3_belief "RumourSource" 5 tX3_belief = true := by decide +kernel
theorem fX3_belief_0 : fetch tX3_belief 0 = some (.iload_n 1, 1, 1, 0, 0, 0) := rfl
theorem fX3_belief_1 : fetch tX3_belief 1 = some (.invokestatic 42, 3, 0, 3, 0, 0) := rfl
theorem fX3_belief_4 : fetch tX3_belief 4 = some (.ifCond .ne 6, 3, 10, 0, 0, 0) := rfl
theorem fX3_belief_7 : fetch tX3_belief 7 = some (.bipush (-2), 2, 0, 0, (-2), 0) := rfl
theorem fX3_belief_9 : fetch tX3_belief 9 = some (.ireturn, 1, 0, 0, 0, 0) := rfl
theorem fX3_belief_10 : fetch tX3_belief 10 = some (.aload_n 0, 1, 0, 0, 0, 0) := rfl
theorem fX3_belief_11 : fetch tX3_belief 11 = some (.invokevirtual 164, 3, 1, 3, 0, 0) := rfl
theorem fX3_belief_14 : fetch tX3_belief 14 = some (.lconst 0, 1, 0, 0, 0, 0) := rfl
theorem fX3_belief_15 : fetch tX3_belief 15 = some (.lstore_n 2, 1, 2, 0, 0, 0) := rfl
theorem fX3_belief_16 : fetch tX3_belief 16 = some (.iconst 0, 1, 0, 0, 0, 0) := rfl
theorem fX3_belief_17 : fetch tX3_belief 17 = some (.istore 4, 2, 4, 0, 0, 0) := rfl
theorem fX3_belief_19 : fetch tX3_belief 19 = some (.iload 4, 2, 4, 0, 0, 0) := rfl
theorem fX3_belief_21 : fetch tX3_belief 21 = some (.bipush 8, 2, 0, 0, 8, 0) := rfl
theorem fX3_belief_23 : fetch tX3_belief 23 = some (.if_icmp .ge 19, 3, 42, 0, 0, 0) := rfl
theorem fX3_belief_26 : fetch tX3_belief 26 = some (.lload_n 2, 1, 2, 0, 0, 0) := rfl
theorem fX3_belief_27 : fetch tX3_belief 27 = some (.aload_n 0, 1, 0, 0, 0, 0) := rfl
theorem fX3_belief_28 : fetch tX3_belief 28 = some (.getfield 34, 3, 3, 4, 0, 0) := rfl
theorem fX3_belief_31 : fetch tX3_belief 31 = some (.iload 4, 2, 4, 0, 0, 0) := rfl
theorem fX3_belief_33 : fetch tX3_belief 33 = some (.laload, 1, 0, 0, 0, 0) := rfl
theorem fX3_belief_34 : fetch tX3_belief 34 = some (.ladd, 1, 0, 0, 0, 0) := rfl
theorem fX3_belief_35 : fetch tX3_belief 35 = some (.lstore_n 2, 1, 2, 0, 0, 0) := rfl
theorem fX3_belief_36 : fetch tX3_belief 36 = some (.iinc 4 1, 3, 4, 0, 1, 0) := rfl
theorem fX3_belief_39 : fetch tX3_belief 39 = some (.goto (-20), 3, 19, 0, 0, 0) := rfl
theorem fX3_belief_42 : fetch tX3_belief 42 = some (.lload_n 2, 1, 2, 0, 0, 0) := rfl
theorem fX3_belief_43 : fetch tX3_belief 43 = some (.lconst 0, 1, 0, 0, 0, 0) := rfl
theorem fX3_belief_44 : fetch tX3_belief 44 = some (.lcmp, 1, 0, 0, 0, 0) := rfl
theorem fX3_belief_45 : fetch tX3_belief 45 = some (.ifCond .le 19, 3, 64, 0, 0, 0) := rfl
theorem fX3_belief_48 : fetch tX3_belief 48 = some (.ldc2_w 170, 3, 0, 0, 0, 1000) := rfl
theorem fX3_belief_51 : fetch tX3_belief 51 = some (.aload_n 0, 1, 0, 0, 0, 0) := rfl
theorem fX3_belief_52 : fetch tX3_belief 52 = some (.getfield 34, 3, 3, 4, 0, 0) := rfl
theorem fX3_belief_55 : fetch tX3_belief 55 = some (.iload_n 1, 1, 1, 0, 0, 0) := rfl
theorem fX3_belief_56 : fetch tX3_belief 56 = some (.laload, 1, 0, 0, 0, 0) := rfl
theorem fX3_belief_57 : fetch tX3_belief 57 = some (.lmul, 1, 0, 0, 0, 0) := rfl
theorem fX3_belief_58 : fetch tX3_belief 58 = some (.lload_n 2, 1, 2, 0, 0, 0) := rfl
theorem fX3_belief_59 : fetch tX3_belief 59 = some (.ldiv, 1, 0, 0, 0, 0) := rfl
theorem fX3_belief_60 : fetch tX3_belief 60 = some (.l2i, 1, 0, 0, 0, 0) := rfl
theorem fX3_belief_61 : fetch tX3_belief 61 = some (.goto 4, 3, 65, 0, 0, 0) := rfl
theorem fX3_belief_64 : fetch tX3_belief 64 = some (.iconst 0, 1, 0, 0, 0, 0) := rfl
theorem fX3_belief_65 : fetch tX3_belief 65 = some (.ireturn, 1, 0, 0, 0, 0) := rfl
def tX3_decoy : List (Nat × TE) := [(0, .iload_n 1, 1, 1, 0, 0, 0), (1, .invokestatic 42, 3, 0, 3, 0, 0), (4, .ifCond .ne 6, 3, 10, 0, 0, 0), (7, .bipush (-2), 2, 0, 0, (-2), 0), (9, .ireturn, 1, 0, 0, 0, 0), (10, .iconst (-1), 1, 0, 0, (-1), 0), (11, .istore_n 2, 1, 2, 0, 0, 0), (12, .lconst 0, 1, 0, 0, 0, 0), (13, .lstore_n 3, 1, 3, 0, 0, 0), (14, .iconst 0, 1, 0, 0, 0, 0), (15, .istore 5, 2, 5, 0, 0, 0), (17, .iload 5, 2, 5, 0, 0, 0), (19, .bipush 8, 2, 0, 0, 8, 0), (21, .if_icmp .ge 45, 3, 66, 0, 0, 0), (24, .iload 5, 2, 5, 0, 0, 0), (26, .iload_n 1, 1, 1, 0, 0, 0), (27, .if_icmp .ne 6, 3, 33, 0, 0, 0), (30, .goto 30, 3, 60, 0, 0, 0), (33, .aload_n 0, 1, 0, 0, 0, 0), (34, .iconst 1, 1, 0, 0, 1, 0), (35, .iload_n 1, 1, 1, 0, 0, 0), (36, .ishl, 1, 0, 0, 0, 0), (37, .iconst 1, 1, 0, 0, 1, 0), (38, .iload 5, 2, 5, 0, 0, 0), (40, .ishl, 1, 0, 0, 0, 0), (41, .ior, 1, 0, 0, 0, 0), (42, .invokevirtual 157, 3, 1, 3, 0, 0), (45, .lstore 6, 2, 6, 0, 0, 0), (47, .lload 6, 2, 6, 0, 0, 0), (49, .lload_n 3, 1, 3, 0, 0, 0), (50, .lcmp, 1, 0, 0, 0, 0), (51, .ifCond .le 9, 3, 60, 0, 0, 0), (54, .lload 6, 2, 6, 0, 0, 0), (56, .lstore_n 3, 1, 3, 0, 0, 0), (57, .iload 5, 2, 5, 0, 0, 0), (59, .istore_n 2, 1, 2, 0, 0, 0), (60, .iinc 5 1, 3, 5, 0, 1, 0), (63, .goto (-46), 3, 17, 0, 0, 0), (66, .iload_n 2, 1, 2, 0, 0, 0), (67, .ireturn, 1, 0, 0, 0, 0)]
theorem tkX3_decoy : tOk cX3_decoy "RumourSource" 8 tX3_decoy = true := by decide +kernel
theorem fX3_decoy_0 : fetch tX3_decoy 0 = some (.iload_n 1, 1, 1, 0, 0, 0) := rfl
theorem fX3_decoy_1 : fetch tX3_decoy 1 = some (.invokestatic 42, 3, 0, 3, 0, 0) := rfl
theorem fX3_decoy_4 : fetch tX3_decoy 4 = some (.ifCond .ne 6, 3, 10, 0, 0, 0) := rfl
theorem fX3_decoy_7 : fetch tX3_decoy 7 = some (.bipush (-2), 2, 0, 0, (-2), 0) := rfl
theorem fX3_decoy_9 : fetch tX3_decoy 9 = some (.ireturn, 1, 0, 0, 0, 0) := rfl
theorem fX3_decoy_10 : fetch tX3_decoy 10 = some (.iconst (-1), 1, 0, 0, (-1), 0) := rfl
theorem fX3_decoy_11 : fetch tX3_decoy 11 = some (.istore_n 2, 1, 2, 0, 0, 0) := rfl
theorem fX3_decoy_12 : fetch tX3_decoy 12 = some (.lconst 0, 1, 0, 0, 0, 0) := rfl
theorem fX3_decoy_13 : fetch tX3_decoy 13 = some (.lstore_n 3, 1, 3, 0, 0, 0) := rfl
theorem fX3_decoy_14 : fetch tX3_decoy 14 = some (.iconst 0, 1, 0, 0, 0, 0) := rfl
theorem fX3_decoy_15 : fetch tX3_decoy 15 = some (.istore 5, 2, 5, 0, 0, 0) := rfl
theorem fX3_decoy_17 : fetch tX3_decoy 17 = some (.iload 5, 2, 5, 0, 0, 0) := rfl
theorem fX3_decoy_19 : fetch tX3_decoy 19 = some (.bipush 8, 2, 0, 0, 8, 0) := rfl
theorem fX3_decoy_21 : fetch tX3_decoy 21 = some (.if_icmp .ge 45, 3, 66, 0, 0, 0) := rfl
theorem fX3_decoy_24 : fetch tX3_decoy 24 = some (.iload 5, 2, 5, 0, 0, 0) := rfl
theorem fX3_decoy_26 : fetch tX3_decoy 26 = some (.iload_n 1, 1, 1, 0, 0, 0) := rfl
theorem fX3_decoy_27 : fetch tX3_decoy 27 = some (.if_icmp .ne 6, 3, 33, 0, 0, 0) := rfl
theorem fX3_decoy_30 : fetch tX3_decoy 30 = some (.goto 30, 3, 60, 0, 0, 0) := rfl
theorem fX3_decoy_33 : fetch tX3_decoy 33 = some (.aload_n 0, 1, 0, 0, 0, 0) := rfl
theorem fX3_decoy_34 : fetch tX3_decoy 34 = some (.iconst 1, 1, 0, 0, 1, 0) := rfl
theorem fX3_decoy_35 : fetch tX3_decoy 35 = some (.iload_n 1, 1, 1, 0, 0, 0) := rfl
theorem fX3_decoy_36 : fetch tX3_decoy 36 = some (.ishl, 1, 0, 0, 0, 0) := rfl
theorem fX3_decoy_37 : fetch tX3_decoy 37 = some (.iconst 1, 1, 0, 0, 1, 0) := rfl
theorem fX3_decoy_38 : fetch tX3_decoy 38 = some (.iload 5, 2, 5, 0, 0, 0) := rfl
theorem fX3_decoy_40 : fetch tX3_decoy 40 = some (.ishl, 1, 0, 0, 0, 0) := rfl
theorem fX3_decoy_41 : fetch tX3_decoy 41 = some (.ior, 1, 0, 0, 0, 0) := rfl
theorem fX3_decoy_42 : fetch tX3_decoy 42 = some (.invokevirtual 157, 3, 1, 3, 0, 0) := rfl
theorem fX3_decoy_45 : fetch tX3_decoy 45 = some (.lstore 6, 2, 6, 0, 0, 0) := rfl
theorem fX3_decoy_47 : fetch tX3_decoy 47 = some (.lload 6, 2, 6, 0, 0, 0) := rfl
theorem fX3_decoy_49 : fetch tX3_decoy 49 = some (.lload_n 3, 1, 3, 0, 0, 0) := rfl
theorem fX3_decoy_50 : fetch tX3_decoy 50 = some (.lcmp, 1, 0, 0, 0, 0) := rfl
theorem fX3_decoy_51 : fetch tX3_decoy 51 = some (.ifCond .le 9, 3, 60, 0, 0, 0) := rfl
theorem fX3_decoy_54 : fetch tX3_decoy 54 = some (.lload 6, 2, 6, 0, 0, 0) := rfl
theorem fX3_decoy_56 : fetch tX3_decoy 56 = some (.lstore_n 3, 1, 3, 0, 0, 0) := rfl
theorem fX3_decoy_57 : fetch tX3_decoy 57 = some (.iload 5, 2, 5, 0, 0, 0) := rfl
theorem fX3_decoy_59 : fetch tX3_decoy 59 = some (.istore_n 2, 1, 2, 0, 0, 0) := rfl
theorem fX3_decoy_60 : fetch tX3_decoy 60 = some (.iinc 5 1, 3, 5, 0, 1, 0) := rfl
theorem fX3_decoy_63 : fetch tX3_decoy 63 = some (.goto (-46), 3, 17, 0, 0, 0) := rfl
theorem fX3_decoy_66 : fetch tX3_decoy 66 = some (.iload_n 2, 1, 2, 0, 0, 0) := rfl
theorem fX3_decoy_67 : fetch tX3_decoy 67 = some (.ireturn, 1, 0, 0, 0, 0) := rfl
def tX3_possible : List (Nat × TE) := [(0, .iconst 0, 1, 0, 0, 0, 0), (1, .istore_n 1, 1, 1, 0, 0, 0), (2, .iconst 0, 1, 0, 0, 0, 0), (3, .istore_n 2, 1, 2, 0, 0, 0), (4, .iload_n 2, 1, 2, 0, 0, 0), (5, .bipush 8, 2, 0, 0, 8, 0), (7, .if_icmp .ge 37, 3, 44, 0, 0, 0), (10, .iload_n 2, 1, 2, 0, 0, 0), (11, .istore_n 3, 1, 3, 0, 0, 0), (12, .iload_n 3, 1, 3, 0, 0, 0), (13, .bipush 8, 2, 0, 0, 8, 0), (15, .if_icmp .ge 23, 3, 38, 0, 0, 0), (18, .iload_n 1, 1, 1, 0, 0, 0), (19, .aload_n 0, 1, 0, 0, 0, 0), (20, .iconst 1, 1, 0, 0, 1, 0), (21, .iload_n 2, 1, 2, 0, 0, 0), (22, .ishl, 1, 0, 0, 0, 0), (23, .iconst 1, 1, 0, 0, 1, 0), (24, .iload_n 3, 1, 3, 0, 0, 0), (25, .ishl, 1, 0, 0, 0, 0), (26, .ior, 1, 0, 0, 0, 0), (27, .invokevirtual 161, 3, 0, 3, 0, 0), (30, .iadd, 1, 0, 0, 0, 0), (31, .istore_n 1, 1, 1, 0, 0, 0), (32, .iinc 3 1, 3, 3, 0, 1, 0), (35, .goto (-23), 3, 12, 0, 0, 0), (38, .iinc 2 1, 3, 2, 0, 1, 0), (41, .goto (-37), 3, 4, 0, 0, 0), (44, .iload_n 1, 1, 1, 0, 0, 0), (45, .ireturn, 1, 0, 0, 0, 0)]
theorem tkX3_possible : tOk cX3_possible "RumourSource" 4 tX3_possible = true := by decide +kernel
theorem fX3_possible_0 : fetch tX3_possible 0 = some (.iconst 0, 1, 0, 0, 0, 0) := rfl
theorem fX3_possible_1 : fetch tX3_possible 1 = some (.istore_n 1, 1, 1, 0, 0, 0) := rfl
theorem fX3_possible_2 : fetch tX3_possible 2 = some (.iconst 0, 1, 0, 0, 0, 0) := rfl
theorem fX3_possible_3 : fetch tX3_possible 3 = some (.istore_n 2, 1, 2, 0, 0, 0) := rfl
theorem fX3_possible_4 : fetch tX3_possible 4 = some (.iload_n 2, 1, 2, 0, 0, 0) := rfl
theorem fX3_possible_5 : fetch tX3_possible 5 = some (.bipush 8, 2, 0, 0, 8, 0) := rfl
theorem fX3_possible_7 : fetch tX3_possible 7 = some (.if_icmp .ge 37, 3, 44, 0, 0, 0) := rfl
theorem fX3_possible_10 : fetch tX3_possible 10 = some (.iload_n 2, 1, 2, 0, 0, 0) := rfl
theorem fX3_possible_11 : fetch tX3_possible 11 = some (.istore_n 3, 1, 3, 0, 0, 0) := rfl
theorem fX3_possible_12 : fetch tX3_possible 12 = some (.iload_n 3, 1, 3, 0, 0, 0) := rfl
theorem fX3_possible_13 : fetch tX3_possible 13 = some (.bipush 8, 2, 0, 0, 8, 0) := rfl
theorem fX3_possible_15 : fetch tX3_possible 15 = some (.if_icmp .ge 23, 3, 38, 0, 0, 0) := rfl
theorem fX3_possible_18 : fetch tX3_possible 18 = some (.iload_n 1, 1, 1, 0, 0, 0) := rfl
theorem fX3_possible_19 : fetch tX3_possible 19 = some (.aload_n 0, 1, 0, 0, 0, 0) := rfl
theorem fX3_possible_20 : fetch tX3_possible 20 = some (.iconst 1, 1, 0, 0, 1, 0) := rfl
theorem fX3_possible_21 : fetch tX3_possible 21 = some (.iload_n 2, 1, 2, 0, 0, 0) := rfl
theorem fX3_possible_22 : fetch tX3_possible 22 = some (.ishl, 1, 0, 0, 0, 0) := rfl
theorem fX3_possible_23 : fetch tX3_possible 23 = some (.iconst 1, 1, 0, 0, 1, 0) := rfl
theorem fX3_possible_24 : fetch tX3_possible 24 = some (.iload_n 3, 1, 3, 0, 0, 0) := rfl
theorem fX3_possible_25 : fetch tX3_possible 25 = some (.ishl, 1, 0, 0, 0, 0) := rfl
theorem fX3_possible_26 : fetch tX3_possible 26 = some (.ior, 1, 0, 0, 0, 0) := rfl
theorem fX3_possible_27 : fetch tX3_possible 27 = some (.invokevirtual 161, 3, 0, 3, 0, 0) := rfl
theorem fX3_possible_30 : fetch tX3_possible 30 = some (.iadd, 1, 0, 0, 0, 0) := rfl
theorem fX3_possible_31 : fetch tX3_possible 31 = some (.istore_n 1, 1, 1, 0, 0, 0) := rfl
theorem fX3_possible_32 : fetch tX3_possible 32 = some (.iinc 3 1, 3, 3, 0, 1, 0) := rfl
theorem fX3_possible_35 : fetch tX3_possible 35 = some (.goto (-23), 3, 12, 0, 0, 0) := rfl
theorem fX3_possible_38 : fetch tX3_possible 38 = some (.iinc 2 1, 3, 2, 0, 1, 0) := rfl
theorem fX3_possible_41 : fetch tX3_possible 41 = some (.goto (-37), 3, 4, 0, 0, 0) := rfl
theorem fX3_possible_44 : fetch tX3_possible 44 = some (.iload_n 1, 1, 1, 0, 0, 0) := rfl
theorem fX3_possible_45 : fetch tX3_possible 45 = some (.ireturn, 1, 0, 0, 0, 0) := rfl
def tX3_explanation : List (Nat × TE) := [(0, .iload_n 1, 1, 1, 0, 0, 0), (1, .invokestatic 108, 3, 0, 3, 0, 0), (4, .ifCond .ne 6, 3, 10, 0, 0, 0), (7, .bipush (-3), 2, 0, 0, (-3), 0), (9, .ireturn, 1, 0, 0, 0, 0), (10, .aload_n 0, 1, 0, 0, 0, 0), (11, .getfield 23, 3, 3, 2, 0, 0), (14, .aload_n 0, 1, 0, 0, 0, 0), (15, .getfield 12, 3, 3, 0, 0, 0), (18, .invokevirtual 130, 3, 1, 1, 0, 0), (21, .aload_n 0, 1, 0, 0, 0, 0), (22, .getfield 23, 3, 3, 2, 0, 0), (25, .aload_n 0, 1, 0, 0, 0, 0), (26, .getfield 12, 3, 3, 0, 0, 0), (29, .iload_n 1, 1, 1, 0, 0, 0), (30, .iconst 0, 1, 0, 0, 0, 0), (31, .invokevirtual 143, 3, 2, 1, 0, 0), (34, .aload_n 0, 1, 0, 0, 0, 0), (35, .getfield 23, 3, 3, 2, 0, 0), (38, .getfield 172, 3, 1, 5, 0, 0), (41, .ireturn, 1, 0, 0, 0, 0)]
theorem tkX3_explanation : tOk cX3_explanation "RumourSource" 2 tX3_explanation = true := by decide +kernel
theorem fX3_explanation_0 : fetch tX3_explanation 0 = some (.iload_n 1, 1, 1, 0, 0, 0) := rfl
theorem fX3_explanation_1 : fetch tX3_explanation 1 = some (.invokestatic 108, 3, 0, 3, 0, 0) := rfl
theorem fX3_explanation_4 : fetch tX3_explanation 4 = some (.ifCond .ne 6, 3, 10, 0, 0, 0) := rfl
theorem fX3_explanation_7 : fetch tX3_explanation 7 = some (.bipush (-3), 2, 0, 0, (-3), 0) := rfl
theorem fX3_explanation_9 : fetch tX3_explanation 9 = some (.ireturn, 1, 0, 0, 0, 0) := rfl
theorem fX3_explanation_10 : fetch tX3_explanation 10 = some (.aload_n 0, 1, 0, 0, 0, 0) := rfl
theorem fX3_explanation_11 : fetch tX3_explanation 11 = some (.getfield 23, 3, 3, 2, 0, 0) := rfl
theorem fX3_explanation_14 : fetch tX3_explanation 14 = some (.aload_n 0, 1, 0, 0, 0, 0) := rfl
theorem fX3_explanation_15 : fetch tX3_explanation 15 = some (.getfield 12, 3, 3, 0, 0, 0) := rfl
theorem fX3_explanation_18 : fetch tX3_explanation 18 = some (.invokevirtual 130, 3, 1, 1, 0, 0) := rfl
theorem fX3_explanation_21 : fetch tX3_explanation 21 = some (.aload_n 0, 1, 0, 0, 0, 0) := rfl
theorem fX3_explanation_22 : fetch tX3_explanation 22 = some (.getfield 23, 3, 3, 2, 0, 0) := rfl
theorem fX3_explanation_25 : fetch tX3_explanation 25 = some (.aload_n 0, 1, 0, 0, 0, 0) := rfl
theorem fX3_explanation_26 : fetch tX3_explanation 26 = some (.getfield 12, 3, 3, 0, 0, 0) := rfl
theorem fX3_explanation_29 : fetch tX3_explanation 29 = some (.iload_n 1, 1, 1, 0, 0, 0) := rfl
theorem fX3_explanation_30 : fetch tX3_explanation 30 = some (.iconst 0, 1, 0, 0, 0, 0) := rfl
theorem fX3_explanation_31 : fetch tX3_explanation 31 = some (.invokevirtual 143, 3, 2, 1, 0, 0) := rfl
theorem fX3_explanation_34 : fetch tX3_explanation 34 = some (.aload_n 0, 1, 0, 0, 0, 0) := rfl
theorem fX3_explanation_35 : fetch tX3_explanation 35 = some (.getfield 23, 3, 3, 2, 0, 0) := rfl
theorem fX3_explanation_38 : fetch tX3_explanation 38 = some (.getfield 172, 3, 1, 5, 0, 0) := rfl
theorem fX3_explanation_41 : fetch tX3_explanation 41 = some (.ireturn, 1, 0, 0, 0, 0) := rfl
def tX3_values : List (Nat × TE) := [(0, .iload_n 1, 1, 1, 0, 0, 0), (1, .invokestatic 42, 3, 0, 3, 0, 0), (4, .ifCond .ne 6, 3, 10, 0, 0, 0), (7, .bipush (-2), 2, 0, 0, (-2), 0), (9, .ireturn, 1, 0, 0, 0, 0), (10, .aload_n 0, 1, 0, 0, 0, 0), (11, .getfield 12, 3, 3, 0, 0, 0), (14, .getfield 102, 3, 0, 6, 0, 0), (17, .iload_n 1, 1, 1, 0, 0, 0), (18, .iaload, 1, 0, 0, 0, 0), (19, .bipush 100, 2, 0, 0, 100, 0), (21, .if_icmp .eq 16, 3, 37, 0, 0, 0), (24, .aload_n 0, 1, 0, 0, 0, 0), (25, .invokevirtual 175, 3, 1, 3, 0, 0), (28, .ifCond .le 7, 3, 35, 0, 0, 0), (31, .iconst 1, 1, 0, 0, 1, 0), (32, .goto 4, 3, 36, 0, 0, 0), (35, .iconst 0, 1, 0, 0, 0, 0), (36, .ireturn, 1, 0, 0, 0, 0), (37, .aload_n 0, 1, 0, 0, 0, 0), (38, .getfield 23, 3, 3, 2, 0, 0), (41, .aload_n 0, 1, 0, 0, 0, 0), (42, .getfield 12, 3, 3, 0, 0, 0), (45, .invokevirtual 130, 3, 2, 1, 0, 0), (48, .lconst 0, 1, 0, 0, 0, 0), (49, .lstore_n 2, 1, 2, 0, 0, 0), (50, .iconst 0, 1, 0, 0, 0, 0), (51, .istore 4, 2, 4, 0, 0, 0), (53, .iload 4, 2, 4, 0, 0, 0), (55, .bipush 8, 2, 0, 0, 8, 0), (57, .if_icmp .ge 37, 3, 94, 0, 0, 0), (60, .aload_n 0, 1, 0, 0, 0, 0), (61, .getfield 23, 3, 3, 2, 0, 0), (64, .aload_n 0, 1, 0, 0, 0, 0), (65, .getfield 12, 3, 3, 0, 0, 0), (68, .iconst 1, 1, 0, 0, 1, 0), (69, .iload 4, 2, 4, 0, 0, 0), (71, .ishl, 1, 0, 0, 0, 0), (72, .iconst 0, 1, 0, 0, 0, 0), (73, .invokevirtual 143, 3, 3, 1, 0, 0), (76, .lload_n 2, 1, 2, 0, 0, 0), (77, .aload_n 0, 1, 0, 0, 0, 0), (78, .getfield 23, 3, 3, 2, 0, 0), (81, .getfield 179, 3, 1, 6, 0, 0), (84, .iload_n 1, 1, 1, 0, 0, 0), (85, .laload, 1, 0, 0, 0, 0), (86, .lor, 1, 0, 0, 0, 0), (87, .lstore_n 2, 1, 2, 0, 0, 0), (88, .iinc 4 1, 3, 4, 0, 1, 0), (91, .goto (-38), 3, 53, 0, 0, 0), (94, .lload_n 2, 1, 2, 0, 0, 0), (95, .invokestatic 182, 3, 4, 0, 0, 0), (98, .ireturn, 1, 0, 0, 0, 0)]
theorem tkX3_values : tOk cX3_values "RumourSource" 5 tX3_values = true := by decide +kernel
theorem fX3_values_0 : fetch tX3_values 0 = some (.iload_n 1, 1, 1, 0, 0, 0) := rfl
theorem fX3_values_1 : fetch tX3_values 1 = some (.invokestatic 42, 3, 0, 3, 0, 0) := rfl
theorem fX3_values_4 : fetch tX3_values 4 = some (.ifCond .ne 6, 3, 10, 0, 0, 0) := rfl
theorem fX3_values_7 : fetch tX3_values 7 = some (.bipush (-2), 2, 0, 0, (-2), 0) := rfl
theorem fX3_values_9 : fetch tX3_values 9 = some (.ireturn, 1, 0, 0, 0, 0) := rfl
theorem fX3_values_10 : fetch tX3_values 10 = some (.aload_n 0, 1, 0, 0, 0, 0) := rfl
theorem fX3_values_11 : fetch tX3_values 11 = some (.getfield 12, 3, 3, 0, 0, 0) := rfl
theorem fX3_values_14 : fetch tX3_values 14 = some (.getfield 102, 3, 0, 6, 0, 0) := rfl
theorem fX3_values_17 : fetch tX3_values 17 = some (.iload_n 1, 1, 1, 0, 0, 0) := rfl
theorem fX3_values_18 : fetch tX3_values 18 = some (.iaload, 1, 0, 0, 0, 0) := rfl
theorem fX3_values_19 : fetch tX3_values 19 = some (.bipush 100, 2, 0, 0, 100, 0) := rfl
theorem fX3_values_21 : fetch tX3_values 21 = some (.if_icmp .eq 16, 3, 37, 0, 0, 0) := rfl
theorem fX3_values_24 : fetch tX3_values 24 = some (.aload_n 0, 1, 0, 0, 0, 0) := rfl
theorem fX3_values_25 : fetch tX3_values 25 = some (.invokevirtual 175, 3, 1, 3, 0, 0) := rfl
theorem fX3_values_28 : fetch tX3_values 28 = some (.ifCond .le 7, 3, 35, 0, 0, 0) := rfl
theorem fX3_values_31 : fetch tX3_values 31 = some (.iconst 1, 1, 0, 0, 1, 0) := rfl
theorem fX3_values_32 : fetch tX3_values 32 = some (.goto 4, 3, 36, 0, 0, 0) := rfl
theorem fX3_values_35 : fetch tX3_values 35 = some (.iconst 0, 1, 0, 0, 0, 0) := rfl
theorem fX3_values_36 : fetch tX3_values 36 = some (.ireturn, 1, 0, 0, 0, 0) := rfl
theorem fX3_values_37 : fetch tX3_values 37 = some (.aload_n 0, 1, 0, 0, 0, 0) := rfl
theorem fX3_values_38 : fetch tX3_values 38 = some (.getfield 23, 3, 3, 2, 0, 0) := rfl
theorem fX3_values_41 : fetch tX3_values 41 = some (.aload_n 0, 1, 0, 0, 0, 0) := rfl
theorem fX3_values_42 : fetch tX3_values 42 = some (.getfield 12, 3, 3, 0, 0, 0) := rfl
theorem fX3_values_45 : fetch tX3_values 45 = some (.invokevirtual 130, 3, 2, 1, 0, 0) := rfl
theorem fX3_values_48 : fetch tX3_values 48 = some (.lconst 0, 1, 0, 0, 0, 0) := rfl
theorem fX3_values_49 : fetch tX3_values 49 = some (.lstore_n 2, 1, 2, 0, 0, 0) := rfl
theorem fX3_values_50 : fetch tX3_values 50 = some (.iconst 0, 1, 0, 0, 0, 0) := rfl
theorem fX3_values_51 : fetch tX3_values 51 = some (.istore 4, 2, 4, 0, 0, 0) := rfl
theorem fX3_values_53 : fetch tX3_values 53 = some (.iload 4, 2, 4, 0, 0, 0) := rfl
theorem fX3_values_55 : fetch tX3_values 55 = some (.bipush 8, 2, 0, 0, 8, 0) := rfl
theorem fX3_values_57 : fetch tX3_values 57 = some (.if_icmp .ge 37, 3, 94, 0, 0, 0) := rfl
theorem fX3_values_60 : fetch tX3_values 60 = some (.aload_n 0, 1, 0, 0, 0, 0) := rfl
theorem fX3_values_61 : fetch tX3_values 61 = some (.getfield 23, 3, 3, 2, 0, 0) := rfl
theorem fX3_values_64 : fetch tX3_values 64 = some (.aload_n 0, 1, 0, 0, 0, 0) := rfl
theorem fX3_values_65 : fetch tX3_values 65 = some (.getfield 12, 3, 3, 0, 0, 0) := rfl
theorem fX3_values_68 : fetch tX3_values 68 = some (.iconst 1, 1, 0, 0, 1, 0) := rfl
theorem fX3_values_69 : fetch tX3_values 69 = some (.iload 4, 2, 4, 0, 0, 0) := rfl
theorem fX3_values_71 : fetch tX3_values 71 = some (.ishl, 1, 0, 0, 0, 0) := rfl
theorem fX3_values_72 : fetch tX3_values 72 = some (.iconst 0, 1, 0, 0, 0, 0) := rfl
theorem fX3_values_73 : fetch tX3_values 73 = some (.invokevirtual 143, 3, 3, 1, 0, 0) := rfl
theorem fX3_values_76 : fetch tX3_values 76 = some (.lload_n 2, 1, 2, 0, 0, 0) := rfl
theorem fX3_values_77 : fetch tX3_values 77 = some (.aload_n 0, 1, 0, 0, 0, 0) := rfl
theorem fX3_values_78 : fetch tX3_values 78 = some (.getfield 23, 3, 3, 2, 0, 0) := rfl
theorem fX3_values_81 : fetch tX3_values 81 = some (.getfield 179, 3, 1, 6, 0, 0) := rfl
theorem fX3_values_84 : fetch tX3_values 84 = some (.iload_n 1, 1, 1, 0, 0, 0) := rfl
theorem fX3_values_85 : fetch tX3_values 85 = some (.laload, 1, 0, 0, 0, 0) := rfl
theorem fX3_values_86 : fetch tX3_values 86 = some (.lor, 1, 0, 0, 0, 0) := rfl
theorem fX3_values_87 : fetch tX3_values 87 = some (.lstore_n 2, 1, 2, 0, 0, 0) := rfl
theorem fX3_values_88 : fetch tX3_values 88 = some (.iinc 4 1, 3, 4, 0, 1, 0) := rfl
theorem fX3_values_91 : fetch tX3_values 91 = some (.goto (-38), 3, 53, 0, 0, 0) := rfl
theorem fX3_values_94 : fetch tX3_values 94 = some (.lload_n 2, 1, 2, 0, 0, 0) := rfl
theorem fX3_values_95 : fetch tX3_values 95 = some (.invokestatic 182, 3, 4, 0, 0, 0) := rfl
theorem fX3_values_98 : fetch tX3_values 98 = some (.ireturn, 1, 0, 0, 0, 0) := rfl
def tX3_undo : List (Nat × TE) := [(0, .aload_n 0, 1, 0, 0, 0, 0), (1, .getfield 38, 3, 3, 5, 0, 0), (4, .iconst 1, 1, 0, 0, 1, 0), (5, .if_icmp .lt 15, 3, 20, 0, 0, 0), (8, .aload_n 0, 1, 0, 0, 0, 0), (9, .getfield 38, 3, 3, 5, 0, 0), (12, .aload_n 0, 1, 0, 0, 0, 0), (13, .getfield 16, 3, 3, 1, 0, 0), (16, .arraylength, 1, 0, 0, 0, 0), (17, .if_icmp .le 6, 3, 23, 0, 0, 0), (20, .bipush (-4), 2, 0, 0, (-4), 0), (22, .ireturn, 1, 0, 0, 0, 0), (23, .aload_n 0, 1, 0, 0, 0, 0), (24, .dup, 1, 0, 0, 0, 0), (25, .getfield 38, 3, 3, 5, 0, 0), (28, .iconst 1, 1, 0, 0, 1, 0), (29, .isub, 1, 0, 0, 0, 0), (30, .putfield 38, 3, 3, 5, 0, 0), (33, .aload_n 0, 1, 0, 0, 0, 0), (34, .getfield 12, 3, 3, 0, 0, 0), (37, .aload_n 0, 1, 0, 0, 0, 0), (38, .getfield 16, 3, 3, 1, 0, 0), (41, .aload_n 0, 1, 0, 0, 0, 0), (42, .getfield 38, 3, 3, 5, 0, 0), (45, .aaload, 1, 0, 0, 0, 0), (46, .invokevirtual 188, 3, 0, 0, 0, 0), (49, .aload_n 0, 1, 0, 0, 0, 0), (50, .getfield 38, 3, 3, 5, 0, 0), (53, .ireturn, 1, 0, 0, 0, 0)]
theorem tkX3_undo : tOk cX3_undo "RumourSource" 1 tX3_undo = true := by decide +kernel
theorem fX3_undo_0 : fetch tX3_undo 0 = some (.aload_n 0, 1, 0, 0, 0, 0) := rfl
theorem fX3_undo_1 : fetch tX3_undo 1 = some (.getfield 38, 3, 3, 5, 0, 0) := rfl
theorem fX3_undo_4 : fetch tX3_undo 4 = some (.iconst 1, 1, 0, 0, 1, 0) := rfl
theorem fX3_undo_5 : fetch tX3_undo 5 = some (.if_icmp .lt 15, 3, 20, 0, 0, 0) := rfl
theorem fX3_undo_8 : fetch tX3_undo 8 = some (.aload_n 0, 1, 0, 0, 0, 0) := rfl
theorem fX3_undo_9 : fetch tX3_undo 9 = some (.getfield 38, 3, 3, 5, 0, 0) := rfl
theorem fX3_undo_12 : fetch tX3_undo 12 = some (.aload_n 0, 1, 0, 0, 0, 0) := rfl
theorem fX3_undo_13 : fetch tX3_undo 13 = some (.getfield 16, 3, 3, 1, 0, 0) := rfl
theorem fX3_undo_16 : fetch tX3_undo 16 = some (.arraylength, 1, 0, 0, 0, 0) := rfl
theorem fX3_undo_17 : fetch tX3_undo 17 = some (.if_icmp .le 6, 3, 23, 0, 0, 0) := rfl
theorem fX3_undo_20 : fetch tX3_undo 20 = some (.bipush (-4), 2, 0, 0, (-4), 0) := rfl
theorem fX3_undo_22 : fetch tX3_undo 22 = some (.ireturn, 1, 0, 0, 0, 0) := rfl
theorem fX3_undo_23 : fetch tX3_undo 23 = some (.aload_n 0, 1, 0, 0, 0, 0) := rfl
theorem fX3_undo_24 : fetch tX3_undo 24 = some (.dup, 1, 0, 0, 0, 0) := rfl
theorem fX3_undo_25 : fetch tX3_undo 25 = some (.getfield 38, 3, 3, 5, 0, 0) := rfl
theorem fX3_undo_28 : fetch tX3_undo 28 = some (.iconst 1, 1, 0, 0, 1, 0) := rfl
theorem fX3_undo_29 : fetch tX3_undo 29 = some (.isub, 1, 0, 0, 0, 0) := rfl
theorem fX3_undo_30 : fetch tX3_undo 30 = some (.putfield 38, 3, 3, 5, 0, 0) := rfl
theorem fX3_undo_33 : fetch tX3_undo 33 = some (.aload_n 0, 1, 0, 0, 0, 0) := rfl
theorem fX3_undo_34 : fetch tX3_undo 34 = some (.getfield 12, 3, 3, 0, 0, 0) := rfl
theorem fX3_undo_37 : fetch tX3_undo 37 = some (.aload_n 0, 1, 0, 0, 0, 0) := rfl
theorem fX3_undo_38 : fetch tX3_undo 38 = some (.getfield 16, 3, 3, 1, 0, 0) := rfl
theorem fX3_undo_41 : fetch tX3_undo 41 = some (.aload_n 0, 1, 0, 0, 0, 0) := rfl
theorem fX3_undo_42 : fetch tX3_undo 42 = some (.getfield 38, 3, 3, 5, 0, 0) := rfl
theorem fX3_undo_45 : fetch tX3_undo 45 = some (.aaload, 1, 0, 0, 0, 0) := rfl
theorem fX3_undo_46 : fetch tX3_undo 46 = some (.invokevirtual 188, 3, 0, 0, 0, 0) := rfl
theorem fX3_undo_49 : fetch tX3_undo 49 = some (.aload_n 0, 1, 0, 0, 0, 0) := rfl
theorem fX3_undo_50 : fetch tX3_undo 50 = some (.getfield 38, 3, 3, 5, 0, 0) := rfl
theorem fX3_undo_53 : fetch tX3_undo 53 = some (.ireturn, 1, 0, 0, 0, 0) := rfl
def tX3_load : List (Nat × TE) := [(0, .aload_n 0, 1, 0, 0, 0, 0), (1, .getfield 30, 3, 3, 3, 0, 0), (4, .aload_n 0, 1, 0, 0, 0, 0), (5, .getfield 12, 3, 3, 0, 0, 0), (8, .invokevirtual 197, 3, 0, 2, 0, 0), (11, .iconst (-1), 1, 0, 0, (-1), 0), (12, .if_icmp .eq 6, 3, 18, 0, 0, 0), (15, .bipush (-4), 2, 0, 0, (-4), 0), (17, .ireturn, 1, 0, 0, 0, 0), (18, .aload_n 0, 1, 0, 0, 0, 0), (19, .invokevirtual 60, 3, 1, 3, 0, 0), (22, .aload_n 0, 1, 0, 0, 0, 0), (23, .getfield 12, 3, 3, 0, 0, 0), (26, .aload_n 0, 1, 0, 0, 0, 0), (27, .getfield 30, 3, 3, 3, 0, 0), (30, .getfield 201, 3, 2, 2, 0, 0), (33, .invokevirtual 188, 3, 2, 0, 0, 0), (36, .aload_n 0, 1, 0, 0, 0, 0), (37, .getfield 12, 3, 3, 0, 0, 0), (40, .getfield 81, 3, 0, 4, 0, 0), (43, .ireturn, 1, 0, 0, 0, 0)]
theorem tkX3_load : tOk cX3_load "RumourSource" 1 tX3_load = true := by decide +kernel
theorem fX3_load_0 : fetch tX3_load 0 = some (.aload_n 0, 1, 0, 0, 0, 0) := rfl
theorem fX3_load_1 : fetch tX3_load 1 = some (.getfield 30, 3, 3, 3, 0, 0) := rfl
theorem fX3_load_4 : fetch tX3_load 4 = some (.aload_n 0, 1, 0, 0, 0, 0) := rfl
theorem fX3_load_5 : fetch tX3_load 5 = some (.getfield 12, 3, 3, 0, 0, 0) := rfl
theorem fX3_load_8 : fetch tX3_load 8 = some (.invokevirtual 197, 3, 0, 2, 0, 0) := rfl
theorem fX3_load_11 : fetch tX3_load 11 = some (.iconst (-1), 1, 0, 0, (-1), 0) := rfl
theorem fX3_load_12 : fetch tX3_load 12 = some (.if_icmp .eq 6, 3, 18, 0, 0, 0) := rfl
theorem fX3_load_15 : fetch tX3_load 15 = some (.bipush (-4), 2, 0, 0, (-4), 0) := rfl
theorem fX3_load_17 : fetch tX3_load 17 = some (.ireturn, 1, 0, 0, 0, 0) := rfl
theorem fX3_load_18 : fetch tX3_load 18 = some (.aload_n 0, 1, 0, 0, 0, 0) := rfl
theorem fX3_load_19 : fetch tX3_load 19 = some (.invokevirtual 60, 3, 1, 3, 0, 0) := rfl
theorem fX3_load_22 : fetch tX3_load 22 = some (.aload_n 0, 1, 0, 0, 0, 0) := rfl
theorem fX3_load_23 : fetch tX3_load 23 = some (.getfield 12, 3, 3, 0, 0, 0) := rfl
theorem fX3_load_26 : fetch tX3_load 26 = some (.aload_n 0, 1, 0, 0, 0, 0) := rfl
theorem fX3_load_27 : fetch tX3_load 27 = some (.getfield 30, 3, 3, 3, 0, 0) := rfl
theorem fX3_load_30 : fetch tX3_load 30 = some (.getfield 201, 3, 2, 2, 0, 0) := rfl
theorem fX3_load_33 : fetch tX3_load 33 = some (.invokevirtual 188, 3, 2, 0, 0, 0) := rfl
theorem fX3_load_36 : fetch tX3_load 36 = some (.aload_n 0, 1, 0, 0, 0, 0) := rfl
theorem fX3_load_37 : fetch tX3_load 37 = some (.getfield 12, 3, 3, 0, 0, 0) := rfl
theorem fX3_load_40 : fetch tX3_load 40 = some (.getfield 81, 3, 0, 4, 0, 0) := rfl
theorem fX3_load_43 : fetch tX3_load 43 = some (.ireturn, 1, 0, 0, 0, 0) := rfl
def tX3_digest : List (Nat × TE) := [(0, .ldc2_w 204, 3, 0, 0, 0, 527), (3, .aload_n 0, 1, 0, 0, 0, 0), (4, .getfield 12, 3, 3, 0, 0, 0), (7, .getfield 81, 3, 0, 4, 0, 0), (10, .i2l, 1, 0, 0, 0, 0), (11, .ladd, 1, 0, 0, 0, 0), (12, .lstore_n 1, 1, 1, 0, 0, 0), (13, .iconst 0, 1, 0, 0, 0, 0), (14, .istore_n 3, 1, 3, 0, 0, 0), (15, .iload_n 3, 1, 3, 0, 0, 0), (16, .aload_n 0, 1, 0, 0, 0, 0), (17, .getfield 12, 3, 3, 0, 0, 0), (20, .getfield 81, 3, 0, 4, 0, 0), (23, .if_icmp .ge 77, 3, 100, 0, 0, 0), (26, .ldc2_w 206, 3, 0, 0, 0, 31), (29, .lload_n 1, 1, 1, 0, 0, 0), (30, .lmul, 1, 0, 0, 0, 0), (31, .aload_n 0, 1, 0, 0, 0, 0), (32, .getfield 12, 3, 3, 0, 0, 0), (35, .getfield 84, 3, 0, 0, 0, 0), (38, .iload_n 3, 1, 3, 0, 0, 0), (39, .iaload, 1, 0, 0, 0, 0), (40, .i2l, 1, 0, 0, 0, 0), (41, .ladd, 1, 0, 0, 0, 0), (42, .lstore_n 1, 1, 1, 0, 0, 0), (43, .ldc2_w 206, 3, 0, 0, 0, 31), (46, .lload_n 1, 1, 1, 0, 0, 0), (47, .lmul, 1, 0, 0, 0, 0), (48, .aload_n 0, 1, 0, 0, 0, 0), (49, .getfield 12, 3, 3, 0, 0, 0), (52, .getfield 87, 3, 0, 1, 0, 0), (55, .iload_n 3, 1, 3, 0, 0, 0), (56, .iaload, 1, 0, 0, 0, 0), (57, .i2l, 1, 0, 0, 0, 0), (58, .ladd, 1, 0, 0, 0, 0), (59, .lstore_n 1, 1, 1, 0, 0, 0), (60, .ldc2_w 206, 3, 0, 0, 0, 31), (63, .lload_n 1, 1, 1, 0, 0, 0), (64, .lmul, 1, 0, 0, 0, 0), (65, .aload_n 0, 1, 0, 0, 0, 0), (66, .getfield 12, 3, 3, 0, 0, 0), (69, .getfield 70, 3, 0, 2, 0, 0), (72, .iload_n 3, 1, 3, 0, 0, 0), (73, .iaload, 1, 0, 0, 0, 0), (74, .i2l, 1, 0, 0, 0, 0), (75, .ladd, 1, 0, 0, 0, 0), (76, .lstore_n 1, 1, 1, 0, 0, 0), (77, .ldc2_w 206, 3, 0, 0, 0, 31), (80, .lload_n 1, 1, 1, 0, 0, 0), (81, .lmul, 1, 0, 0, 0, 0), (82, .aload_n 0, 1, 0, 0, 0, 0), (83, .getfield 12, 3, 3, 0, 0, 0), (86, .getfield 74, 3, 0, 3, 0, 0), (89, .iload_n 3, 1, 3, 0, 0, 0), (90, .iaload, 1, 0, 0, 0, 0), (91, .i2l, 1, 0, 0, 0, 0), (92, .ladd, 1, 0, 0, 0, 0), (93, .lstore_n 1, 1, 1, 0, 0, 0), (94, .iinc 3 1, 3, 3, 0, 1, 0), (97, .goto (-82), 3, 15, 0, 0, 0), (100, .ldc2_w 206, 3, 0, 0, 0, 31), (103, .lload_n 1, 1, 1, 0, 0, 0), (104, .lmul, 1, 0, 0, 0, 0), (105, .aload_n 0, 1, 0, 0, 0, 0), (106, .getfield 12, 3, 3, 0, 0, 0), (109, .getfield 93, 3, 0, 5, 0, 0), (112, .i2l, 1, 0, 0, 0, 0), (113, .ladd, 1, 0, 0, 0, 0), (114, .lstore_n 1, 1, 1, 0, 0, 0), (115, .iconst 0, 1, 0, 0, 0, 0), (116, .istore_n 3, 1, 3, 0, 0, 0), (117, .iload_n 3, 1, 3, 0, 0, 0), (118, .bipush 8, 2, 0, 0, 8, 0), (120, .if_icmp .ge 26, 3, 146, 0, 0, 0), (123, .ldc2_w 206, 3, 0, 0, 0, 31), (126, .lload_n 1, 1, 1, 0, 0, 0), (127, .lmul, 1, 0, 0, 0, 0), (128, .aload_n 0, 1, 0, 0, 0, 0), (129, .getfield 12, 3, 3, 0, 0, 0), (132, .getfield 102, 3, 0, 6, 0, 0), (135, .iload_n 3, 1, 3, 0, 0, 0), (136, .iaload, 1, 0, 0, 0, 0), (137, .i2l, 1, 0, 0, 0, 0), (138, .ladd, 1, 0, 0, 0, 0), (139, .lstore_n 1, 1, 1, 0, 0, 0), (140, .iinc 3 1, 3, 3, 0, 1, 0), (143, .goto (-26), 3, 117, 0, 0, 0), (146, .ldc2_w 206, 3, 0, 0, 0, 31), (149, .lload_n 1, 1, 1, 0, 0, 0), (150, .lmul, 1, 0, 0, 0, 0), (151, .aload_n 0, 1, 0, 0, 0, 0), (152, .getfield 12, 3, 3, 0, 0, 0), (155, .getfield 105, 3, 0, 7, 0, 0), (158, .i2l, 1, 0, 0, 0, 0), (159, .ladd, 1, 0, 0, 0, 0), (160, .lreturn, 1, 0, 0, 0, 0)]
theorem tkX3_digest : tOk cX3_digest "RumourSource" 4 tX3_digest = true := by decide +kernel
theorem fX3_digest_0 : fetch tX3_digest 0 = some (.ldc2_w 204, 3, 0, 0, 0, 527) := rfl
theorem fX3_digest_3 : fetch tX3_digest 3 = some (.aload_n 0, 1, 0, 0, 0, 0) := rfl
theorem fX3_digest_4 : fetch tX3_digest 4 = some (.getfield 12, 3, 3, 0, 0, 0) := rfl
theorem fX3_digest_7 : fetch tX3_digest 7 = some (.getfield 81, 3, 0, 4, 0, 0) := rfl
theorem fX3_digest_10 : fetch tX3_digest 10 = some (.i2l, 1, 0, 0, 0, 0) := rfl
theorem fX3_digest_11 : fetch tX3_digest 11 = some (.ladd, 1, 0, 0, 0, 0) := rfl
theorem fX3_digest_12 : fetch tX3_digest 12 = some (.lstore_n 1, 1, 1, 0, 0, 0) := rfl
theorem fX3_digest_13 : fetch tX3_digest 13 = some (.iconst 0, 1, 0, 0, 0, 0) := rfl
theorem fX3_digest_14 : fetch tX3_digest 14 = some (.istore_n 3, 1, 3, 0, 0, 0) := rfl
theorem fX3_digest_15 : fetch tX3_digest 15 = some (.iload_n 3, 1, 3, 0, 0, 0) := rfl
theorem fX3_digest_16 : fetch tX3_digest 16 = some (.aload_n 0, 1, 0, 0, 0, 0) := rfl
theorem fX3_digest_17 : fetch tX3_digest 17 = some (.getfield 12, 3, 3, 0, 0, 0) := rfl
theorem fX3_digest_20 : fetch tX3_digest 20 = some (.getfield 81, 3, 0, 4, 0, 0) := rfl
theorem fX3_digest_23 : fetch tX3_digest 23 = some (.if_icmp .ge 77, 3, 100, 0, 0, 0) := rfl
theorem fX3_digest_26 : fetch tX3_digest 26 = some (.ldc2_w 206, 3, 0, 0, 0, 31) := rfl
theorem fX3_digest_29 : fetch tX3_digest 29 = some (.lload_n 1, 1, 1, 0, 0, 0) := rfl
theorem fX3_digest_30 : fetch tX3_digest 30 = some (.lmul, 1, 0, 0, 0, 0) := rfl
theorem fX3_digest_31 : fetch tX3_digest 31 = some (.aload_n 0, 1, 0, 0, 0, 0) := rfl
theorem fX3_digest_32 : fetch tX3_digest 32 = some (.getfield 12, 3, 3, 0, 0, 0) := rfl
theorem fX3_digest_35 : fetch tX3_digest 35 = some (.getfield 84, 3, 0, 0, 0, 0) := rfl
theorem fX3_digest_38 : fetch tX3_digest 38 = some (.iload_n 3, 1, 3, 0, 0, 0) := rfl
theorem fX3_digest_39 : fetch tX3_digest 39 = some (.iaload, 1, 0, 0, 0, 0) := rfl
theorem fX3_digest_40 : fetch tX3_digest 40 = some (.i2l, 1, 0, 0, 0, 0) := rfl
theorem fX3_digest_41 : fetch tX3_digest 41 = some (.ladd, 1, 0, 0, 0, 0) := rfl
theorem fX3_digest_42 : fetch tX3_digest 42 = some (.lstore_n 1, 1, 1, 0, 0, 0) := rfl
theorem fX3_digest_43 : fetch tX3_digest 43 = some (.ldc2_w 206, 3, 0, 0, 0, 31) := rfl
theorem fX3_digest_46 : fetch tX3_digest 46 = some (.lload_n 1, 1, 1, 0, 0, 0) := rfl
theorem fX3_digest_47 : fetch tX3_digest 47 = some (.lmul, 1, 0, 0, 0, 0) := rfl
theorem fX3_digest_48 : fetch tX3_digest 48 = some (.aload_n 0, 1, 0, 0, 0, 0) := rfl
theorem fX3_digest_49 : fetch tX3_digest 49 = some (.getfield 12, 3, 3, 0, 0, 0) := rfl
theorem fX3_digest_52 : fetch tX3_digest 52 = some (.getfield 87, 3, 0, 1, 0, 0) := rfl
theorem fX3_digest_55 : fetch tX3_digest 55 = some (.iload_n 3, 1, 3, 0, 0, 0) := rfl
theorem fX3_digest_56 : fetch tX3_digest 56 = some (.iaload, 1, 0, 0, 0, 0) := rfl
theorem fX3_digest_57 : fetch tX3_digest 57 = some (.i2l, 1, 0, 0, 0, 0) := rfl
theorem fX3_digest_58 : fetch tX3_digest 58 = some (.ladd, 1, 0, 0, 0, 0) := rfl
theorem fX3_digest_59 : fetch tX3_digest 59 = some (.lstore_n 1, 1, 1, 0, 0, 0) := rfl
theorem fX3_digest_60 : fetch tX3_digest 60 = some (.ldc2_w 206, 3, 0, 0, 0, 31) := rfl
theorem fX3_digest_63 : fetch tX3_digest 63 = some (.lload_n 1, 1, 1, 0, 0, 0) := rfl
theorem fX3_digest_64 : fetch tX3_digest 64 = some (.lmul, 1, 0, 0, 0, 0) := rfl
theorem fX3_digest_65 : fetch tX3_digest 65 = some (.aload_n 0, 1, 0, 0, 0, 0) := rfl
theorem fX3_digest_66 : fetch tX3_digest 66 = some (.getfield 12, 3, 3, 0, 0, 0) := rfl
theorem fX3_digest_69 : fetch tX3_digest 69 = some (.getfield 70, 3, 0, 2, 0, 0) := rfl
theorem fX3_digest_72 : fetch tX3_digest 72 = some (.iload_n 3, 1, 3, 0, 0, 0) := rfl
theorem fX3_digest_73 : fetch tX3_digest 73 = some (.iaload, 1, 0, 0, 0, 0) := rfl
theorem fX3_digest_74 : fetch tX3_digest 74 = some (.i2l, 1, 0, 0, 0, 0) := rfl
theorem fX3_digest_75 : fetch tX3_digest 75 = some (.ladd, 1, 0, 0, 0, 0) := rfl
theorem fX3_digest_76 : fetch tX3_digest 76 = some (.lstore_n 1, 1, 1, 0, 0, 0) := rfl
theorem fX3_digest_77 : fetch tX3_digest 77 = some (.ldc2_w 206, 3, 0, 0, 0, 31) := rfl
theorem fX3_digest_80 : fetch tX3_digest 80 = some (.lload_n 1, 1, 1, 0, 0, 0) := rfl
theorem fX3_digest_81 : fetch tX3_digest 81 = some (.lmul, 1, 0, 0, 0, 0) := rfl
theorem fX3_digest_82 : fetch tX3_digest 82 = some (.aload_n 0, 1, 0, 0, 0, 0) := rfl
theorem fX3_digest_83 : fetch tX3_digest 83 = some (.getfield 12, 3, 3, 0, 0, 0) := rfl
theorem fX3_digest_86 : fetch tX3_digest 86 = some (.getfield 74, 3, 0, 3, 0, 0) := rfl
theorem fX3_digest_89 : fetch tX3_digest 89 = some (.iload_n 3, 1, 3, 0, 0, 0) := rfl
theorem fX3_digest_90 : fetch tX3_digest 90 = some (.iaload, 1, 0, 0, 0, 0) := rfl
theorem fX3_digest_91 : fetch tX3_digest 91 = some (.i2l, 1, 0, 0, 0, 0) := rfl
theorem fX3_digest_92 : fetch tX3_digest 92 = some (.ladd, 1, 0, 0, 0, 0) := rfl
theorem fX3_digest_93 : fetch tX3_digest 93 = some (.lstore_n 1, 1, 1, 0, 0, 0) := rfl
theorem fX3_digest_94 : fetch tX3_digest 94 = some (.iinc 3 1, 3, 3, 0, 1, 0) := rfl
theorem fX3_digest_97 : fetch tX3_digest 97 = some (.goto (-82), 3, 15, 0, 0, 0) := rfl
theorem fX3_digest_100 : fetch tX3_digest 100 = some (.ldc2_w 206, 3, 0, 0, 0, 31) := rfl
theorem fX3_digest_103 : fetch tX3_digest 103 = some (.lload_n 1, 1, 1, 0, 0, 0) := rfl
theorem fX3_digest_104 : fetch tX3_digest 104 = some (.lmul, 1, 0, 0, 0, 0) := rfl
theorem fX3_digest_105 : fetch tX3_digest 105 = some (.aload_n 0, 1, 0, 0, 0, 0) := rfl
theorem fX3_digest_106 : fetch tX3_digest 106 = some (.getfield 12, 3, 3, 0, 0, 0) := rfl
theorem fX3_digest_109 : fetch tX3_digest 109 = some (.getfield 93, 3, 0, 5, 0, 0) := rfl
theorem fX3_digest_112 : fetch tX3_digest 112 = some (.i2l, 1, 0, 0, 0, 0) := rfl
theorem fX3_digest_113 : fetch tX3_digest 113 = some (.ladd, 1, 0, 0, 0, 0) := rfl
theorem fX3_digest_114 : fetch tX3_digest 114 = some (.lstore_n 1, 1, 1, 0, 0, 0) := rfl
theorem fX3_digest_115 : fetch tX3_digest 115 = some (.iconst 0, 1, 0, 0, 0, 0) := rfl
theorem fX3_digest_116 : fetch tX3_digest 116 = some (.istore_n 3, 1, 3, 0, 0, 0) := rfl
theorem fX3_digest_117 : fetch tX3_digest 117 = some (.iload_n 3, 1, 3, 0, 0, 0) := rfl
theorem fX3_digest_118 : fetch tX3_digest 118 = some (.bipush 8, 2, 0, 0, 8, 0) := rfl
theorem fX3_digest_120 : fetch tX3_digest 120 = some (.if_icmp .ge 26, 3, 146, 0, 0, 0) := rfl
theorem fX3_digest_123 : fetch tX3_digest 123 = some (.ldc2_w 206, 3, 0, 0, 0, 31) := rfl
theorem fX3_digest_126 : fetch tX3_digest 126 = some (.lload_n 1, 1, 1, 0, 0, 0) := rfl
theorem fX3_digest_127 : fetch tX3_digest 127 = some (.lmul, 1, 0, 0, 0, 0) := rfl
theorem fX3_digest_128 : fetch tX3_digest 128 = some (.aload_n 0, 1, 0, 0, 0, 0) := rfl
theorem fX3_digest_129 : fetch tX3_digest 129 = some (.getfield 12, 3, 3, 0, 0, 0) := rfl
theorem fX3_digest_132 : fetch tX3_digest 132 = some (.getfield 102, 3, 0, 6, 0, 0) := rfl
theorem fX3_digest_135 : fetch tX3_digest 135 = some (.iload_n 3, 1, 3, 0, 0, 0) := rfl
theorem fX3_digest_136 : fetch tX3_digest 136 = some (.iaload, 1, 0, 0, 0, 0) := rfl
theorem fX3_digest_137 : fetch tX3_digest 137 = some (.i2l, 1, 0, 0, 0, 0) := rfl
theorem fX3_digest_138 : fetch tX3_digest 138 = some (.ladd, 1, 0, 0, 0, 0) := rfl
theorem fX3_digest_139 : fetch tX3_digest 139 = some (.lstore_n 1, 1, 1, 0, 0, 0) := rfl
theorem fX3_digest_140 : fetch tX3_digest 140 = some (.iinc 3 1, 3, 3, 0, 1, 0) := rfl
theorem fX3_digest_143 : fetch tX3_digest 143 = some (.goto (-26), 3, 117, 0, 0, 0) := rfl
theorem fX3_digest_146 : fetch tX3_digest 146 = some (.ldc2_w 206, 3, 0, 0, 0, 31) := rfl
theorem fX3_digest_149 : fetch tX3_digest 149 = some (.lload_n 1, 1, 1, 0, 0, 0) := rfl
theorem fX3_digest_150 : fetch tX3_digest 150 = some (.lmul, 1, 0, 0, 0, 0) := rfl
theorem fX3_digest_151 : fetch tX3_digest 151 = some (.aload_n 0, 1, 0, 0, 0, 0) := rfl
theorem fX3_digest_152 : fetch tX3_digest 152 = some (.getfield 12, 3, 3, 0, 0, 0) := rfl
theorem fX3_digest_155 : fetch tX3_digest 155 = some (.getfield 105, 3, 0, 7, 0, 0) := rfl
theorem fX3_digest_158 : fetch tX3_digest 158 = some (.i2l, 1, 0, 0, 0, 0) := rfl
theorem fX3_digest_159 : fetch tX3_digest 159 = some (.ladd, 1, 0, 0, 0, 0) := rfl
theorem fX3_digest_160 : fetch tX3_digest 160 = some (.lreturn, 1, 0, 0, 0, 0) := rfl
def tX3_isNode : List (Nat × TE) := [(0, .iload_n 0, 1, 0, 0, 0, 0), (1, .ifCond .lt 13, 3, 14, 0, 0, 0), (4, .iload_n 0, 1, 0, 0, 0, 0), (5, .bipush 8, 2, 0, 0, 8, 0), (7, .if_icmp .ge 7, 3, 14, 0, 0, 0), (10, .iconst 1, 1, 0, 0, 1, 0), (11, .goto 4, 3, 15, 0, 0, 0), (14, .iconst 0, 1, 0, 0, 0, 0), (15, .ireturn, 1, 0, 0, 0, 0)]
theorem tkX3_isNode : tOk cX3_isNode "RumourSource" 1 tX3_isNode = true := by decide +kernel
theorem fX3_isNode_0 : fetch tX3_isNode 0 = some (.iload_n 0, 1, 0, 0, 0, 0) := rfl
theorem fX3_isNode_1 : fetch tX3_isNode 1 = some (.ifCond .lt 13, 3, 14, 0, 0, 0) := rfl
theorem fX3_isNode_4 : fetch tX3_isNode 4 = some (.iload_n 0, 1, 0, 0, 0, 0) := rfl
theorem fX3_isNode_5 : fetch tX3_isNode 5 = some (.bipush 8, 2, 0, 0, 8, 0) := rfl
theorem fX3_isNode_7 : fetch tX3_isNode 7 = some (.if_icmp .ge 7, 3, 14, 0, 0, 0) := rfl
theorem fX3_isNode_10 : fetch tX3_isNode 10 = some (.iconst 1, 1, 0, 0, 1, 0) := rfl
theorem fX3_isNode_11 : fetch tX3_isNode 11 = some (.goto 4, 3, 15, 0, 0, 0) := rfl
theorem fX3_isNode_14 : fetch tX3_isNode 14 = some (.iconst 0, 1, 0, 0, 0, 0) := rfl
theorem fX3_isNode_15 : fetch tX3_isNode 15 = some (.ireturn, 1, 0, 0, 0, 0) := rfl
def tX3_isTrust : List (Nat × TE) := [(0, .iload_n 0, 1, 0, 0, 0, 0), (1, .ifCond .lt 13, 3, 14, 0, 0, 0), (4, .iload_n 0, 1, 0, 0, 0, 0), (5, .bipush 10, 2, 0, 0, 10, 0), (7, .if_icmp .gt 7, 3, 14, 0, 0, 0), (10, .iconst 1, 1, 0, 0, 1, 0), (11, .goto 4, 3, 15, 0, 0, 0), (14, .iconst 0, 1, 0, 0, 0, 0), (15, .ireturn, 1, 0, 0, 0, 0)]
theorem tkX3_isTrust : tOk cX3_isTrust "RumourSource" 1 tX3_isTrust = true := by decide +kernel
theorem fX3_isTrust_0 : fetch tX3_isTrust 0 = some (.iload_n 0, 1, 0, 0, 0, 0) := rfl
theorem fX3_isTrust_1 : fetch tX3_isTrust 1 = some (.ifCond .lt 13, 3, 14, 0, 0, 0) := rfl
theorem fX3_isTrust_4 : fetch tX3_isTrust 4 = some (.iload_n 0, 1, 0, 0, 0, 0) := rfl
theorem fX3_isTrust_5 : fetch tX3_isTrust 5 = some (.bipush 10, 2, 0, 0, 10, 0) := rfl
theorem fX3_isTrust_7 : fetch tX3_isTrust 7 = some (.if_icmp .gt 7, 3, 14, 0, 0, 0) := rfl
theorem fX3_isTrust_10 : fetch tX3_isTrust 10 = some (.iconst 1, 1, 0, 0, 1, 0) := rfl
theorem fX3_isTrust_11 : fetch tX3_isTrust 11 = some (.goto 4, 3, 15, 0, 0, 0) := rfl
theorem fX3_isTrust_14 : fetch tX3_isTrust 14 = some (.iconst 0, 1, 0, 0, 0, 0) := rfl
theorem fX3_isTrust_15 : fetch tX3_isTrust 15 = some (.ireturn, 1, 0, 0, 0, 0) := rfl
def tX3_isDelay : List (Nat × TE) := [(0, .iload_n 0, 1, 0, 0, 0, 0), (1, .iconst 1, 1, 0, 0, 1, 0), (2, .if_icmp .lt 12, 3, 14, 0, 0, 0), (5, .iload_n 0, 1, 0, 0, 0, 0), (6, .iconst 5, 1, 0, 0, 5, 0), (7, .if_icmp .gt 7, 3, 14, 0, 0, 0), (10, .iconst 1, 1, 0, 0, 1, 0), (11, .goto 4, 3, 15, 0, 0, 0), (14, .iconst 0, 1, 0, 0, 0, 0), (15, .ireturn, 1, 0, 0, 0, 0)]
theorem tkX3_isDelay : tOk cX3_isDelay "RumourSource" 1 tX3_isDelay = true := by decide +kernel
theorem fX3_isDelay_0 : fetch tX3_isDelay 0 = some (.iload_n 0, 1, 0, 0, 0, 0) := rfl
theorem fX3_isDelay_1 : fetch tX3_isDelay 1 = some (.iconst 1, 1, 0, 0, 1, 0) := rfl
theorem fX3_isDelay_2 : fetch tX3_isDelay 2 = some (.if_icmp .lt 12, 3, 14, 0, 0, 0) := rfl
theorem fX3_isDelay_5 : fetch tX3_isDelay 5 = some (.iload_n 0, 1, 0, 0, 0, 0) := rfl
theorem fX3_isDelay_6 : fetch tX3_isDelay 6 = some (.iconst 5, 1, 0, 0, 5, 0) := rfl
theorem fX3_isDelay_7 : fetch tX3_isDelay 7 = some (.if_icmp .gt 7, 3, 14, 0, 0, 0) := rfl
theorem fX3_isDelay_10 : fetch tX3_isDelay 10 = some (.iconst 1, 1, 0, 0, 1, 0) := rfl
theorem fX3_isDelay_11 : fetch tX3_isDelay 11 = some (.goto 4, 3, 15, 0, 0, 0) := rfl
theorem fX3_isDelay_14 : fetch tX3_isDelay 14 = some (.iconst 0, 1, 0, 0, 0, 0) := rfl
theorem fX3_isDelay_15 : fetch tX3_isDelay 15 = some (.ireturn, 1, 0, 0, 0, 0) := rfl
def tX3_isTime : List (Nat × TE) := [(0, .iload_n 0, 1, 0, 0, 0, 0), (1, .ifCond .lt 13, 3, 14, 0, 0, 0), (4, .iload_n 0, 1, 0, 0, 0, 0), (5, .bipush 30, 2, 0, 0, 30, 0), (7, .if_icmp .gt 7, 3, 14, 0, 0, 0), (10, .iconst 1, 1, 0, 0, 1, 0), (11, .goto 4, 3, 15, 0, 0, 0), (14, .iconst 0, 1, 0, 0, 0, 0), (15, .ireturn, 1, 0, 0, 0, 0)]
theorem tkX3_isTime : tOk cX3_isTime "RumourSource" 1 tX3_isTime = true := by decide +kernel
theorem fX3_isTime_0 : fetch tX3_isTime 0 = some (.iload_n 0, 1, 0, 0, 0, 0) := rfl
theorem fX3_isTime_1 : fetch tX3_isTime 1 = some (.ifCond .lt 13, 3, 14, 0, 0, 0) := rfl
theorem fX3_isTime_4 : fetch tX3_isTime 4 = some (.iload_n 0, 1, 0, 0, 0, 0) := rfl
theorem fX3_isTime_5 : fetch tX3_isTime 5 = some (.bipush 30, 2, 0, 0, 30, 0) := rfl
theorem fX3_isTime_7 : fetch tX3_isTime 7 = some (.if_icmp .gt 7, 3, 14, 0, 0, 0) := rfl
theorem fX3_isTime_10 : fetch tX3_isTime 10 = some (.iconst 1, 1, 0, 0, 1, 0) := rfl
theorem fX3_isTime_11 : fetch tX3_isTime 11 = some (.goto 4, 3, 15, 0, 0, 0) := rfl
theorem fX3_isTime_14 : fetch tX3_isTime 14 = some (.iconst 0, 1, 0, 0, 0, 0) := rfl
theorem fX3_isTime_15 : fetch tX3_isTime 15 = some (.ireturn, 1, 0, 0, 0, 0) := rfl
def tX3_isTimeOrNone : List (Nat × TE) := [(0, .iload_n 0, 1, 0, 0, 0, 0), (1, .iconst (-1), 1, 0, 0, (-1), 0), (2, .if_icmp .eq 10, 3, 12, 0, 0, 0), (5, .iload_n 0, 1, 0, 0, 0, 0), (6, .invokestatic 90, 3, 0, 3, 0, 0), (9, .ifCond .eq 7, 3, 16, 0, 0, 0), (12, .iconst 1, 1, 0, 0, 1, 0), (13, .goto 4, 3, 17, 0, 0, 0), (16, .iconst 0, 1, 0, 0, 0, 0), (17, .ireturn, 1, 0, 0, 0, 0)]
theorem tkX3_isTimeOrNone : tOk cX3_isTimeOrNone "RumourSource" 1 tX3_isTimeOrNone = true := by decide +kernel
theorem fX3_isTimeOrNone_0 : fetch tX3_isTimeOrNone 0 = some (.iload_n 0, 1, 0, 0, 0, 0) := rfl
theorem fX3_isTimeOrNone_1 : fetch tX3_isTimeOrNone 1 = some (.iconst (-1), 1, 0, 0, (-1), 0) := rfl
theorem fX3_isTimeOrNone_2 : fetch tX3_isTimeOrNone 2 = some (.if_icmp .eq 10, 3, 12, 0, 0, 0) := rfl
theorem fX3_isTimeOrNone_5 : fetch tX3_isTimeOrNone 5 = some (.iload_n 0, 1, 0, 0, 0, 0) := rfl
theorem fX3_isTimeOrNone_6 : fetch tX3_isTimeOrNone 6 = some (.invokestatic 90, 3, 0, 3, 0, 0) := rfl
theorem fX3_isTimeOrNone_9 : fetch tX3_isTimeOrNone 9 = some (.ifCond .eq 7, 3, 16, 0, 0, 0) := rfl
theorem fX3_isTimeOrNone_12 : fetch tX3_isTimeOrNone 12 = some (.iconst 1, 1, 0, 0, 1, 0) := rfl
theorem fX3_isTimeOrNone_13 : fetch tX3_isTimeOrNone 13 = some (.goto 4, 3, 17, 0, 0, 0) := rfl
theorem fX3_isTimeOrNone_16 : fetch tX3_isTimeOrNone 16 = some (.iconst 0, 1, 0, 0, 0, 0) := rfl
theorem fX3_isTimeOrNone_17 : fetch tX3_isTimeOrNone 17 = some (.ireturn, 1, 0, 0, 0, 0) := rfl
def tX3_isStart : List (Nat × TE) := [(0, .iload_n 0, 1, 0, 0, 0, 0), (1, .iconst 1, 1, 0, 0, 1, 0), (2, .if_icmp .lt 14, 3, 16, 0, 0, 0), (5, .iload_n 0, 1, 0, 0, 0, 0), (6, .sipush 255, 3, 0, 0, 255, 0), (9, .if_icmp .gt 7, 3, 16, 0, 0, 0), (12, .iconst 1, 1, 0, 0, 1, 0), (13, .goto 4, 3, 17, 0, 0, 0), (16, .iconst 0, 1, 0, 0, 0, 0), (17, .ireturn, 1, 0, 0, 0, 0)]
theorem tkX3_isStart : tOk cX3_isStart "RumourSource" 1 tX3_isStart = true := by decide +kernel
theorem fX3_isStart_0 : fetch tX3_isStart 0 = some (.iload_n 0, 1, 0, 0, 0, 0) := rfl
theorem fX3_isStart_1 : fetch tX3_isStart 1 = some (.iconst 1, 1, 0, 0, 1, 0) := rfl
theorem fX3_isStart_2 : fetch tX3_isStart 2 = some (.if_icmp .lt 14, 3, 16, 0, 0, 0) := rfl
theorem fX3_isStart_5 : fetch tX3_isStart 5 = some (.iload_n 0, 1, 0, 0, 0, 0) := rfl
theorem fX3_isStart_6 : fetch tX3_isStart 6 = some (.sipush 255, 3, 0, 0, 255, 0) := rfl
theorem fX3_isStart_9 : fetch tX3_isStart 9 = some (.if_icmp .gt 7, 3, 16, 0, 0, 0) := rfl
theorem fX3_isStart_12 : fetch tX3_isStart 12 = some (.iconst 1, 1, 0, 0, 1, 0) := rfl
theorem fX3_isStart_13 : fetch tX3_isStart 13 = some (.goto 4, 3, 17, 0, 0, 0) := rfl
theorem fX3_isStart_16 : fetch tX3_isStart 16 = some (.iconst 0, 1, 0, 0, 0, 0) := rfl
theorem fX3_isStart_17 : fetch tX3_isStart 17 = some (.ireturn, 1, 0, 0, 0, 0) := rfl
def tX3_isOutcome : List (Nat × TE) := [(0, .iload_n 1, 1, 1, 0, 0, 0), (1, .ifCond .lt 20, 3, 21, 0, 0, 0), (4, .iload_n 1, 1, 1, 0, 0, 0), (5, .iconst 1, 1, 0, 0, 1, 0), (6, .aload_n 0, 1, 0, 0, 0, 0), (7, .getfield 12, 3, 3, 0, 0, 0), (10, .getfield 81, 3, 0, 4, 0, 0), (13, .ishl, 1, 0, 0, 0, 0), (14, .if_icmp .ge 7, 3, 21, 0, 0, 0), (17, .iconst 1, 1, 0, 0, 1, 0), (18, .goto 4, 3, 22, 0, 0, 0), (21, .iconst 0, 1, 0, 0, 0, 0), (22, .ireturn, 1, 0, 0, 0, 0)]
theorem tkX3_isOutcome : tOk cX3_isOutcome "RumourSource" 2 tX3_isOutcome = true := by decide +kernel
theorem fX3_isOutcome_0 : fetch tX3_isOutcome 0 = some (.iload_n 1, 1, 1, 0, 0, 0) := rfl
theorem fX3_isOutcome_1 : fetch tX3_isOutcome 1 = some (.ifCond .lt 20, 3, 21, 0, 0, 0) := rfl
theorem fX3_isOutcome_4 : fetch tX3_isOutcome 4 = some (.iload_n 1, 1, 1, 0, 0, 0) := rfl
theorem fX3_isOutcome_5 : fetch tX3_isOutcome 5 = some (.iconst 1, 1, 0, 0, 1, 0) := rfl
theorem fX3_isOutcome_6 : fetch tX3_isOutcome 6 = some (.aload_n 0, 1, 0, 0, 0, 0) := rfl
theorem fX3_isOutcome_7 : fetch tX3_isOutcome 7 = some (.getfield 12, 3, 3, 0, 0, 0) := rfl
theorem fX3_isOutcome_10 : fetch tX3_isOutcome 10 = some (.getfield 81, 3, 0, 4, 0, 0) := rfl
theorem fX3_isOutcome_13 : fetch tX3_isOutcome 13 = some (.ishl, 1, 0, 0, 0, 0) := rfl
theorem fX3_isOutcome_14 : fetch tX3_isOutcome 14 = some (.if_icmp .ge 7, 3, 21, 0, 0, 0) := rfl
theorem fX3_isOutcome_17 : fetch tX3_isOutcome 17 = some (.iconst 1, 1, 0, 0, 1, 0) := rfl
theorem fX3_isOutcome_18 : fetch tX3_isOutcome 18 = some (.goto 4, 3, 22, 0, 0, 0) := rfl
theorem fX3_isOutcome_21 : fetch tX3_isOutcome 21 = some (.iconst 0, 1, 0, 0, 0, 0) := rfl
theorem fX3_isOutcome_22 : fetch tX3_isOutcome 22 = some (.ireturn, 1, 0, 0, 0, 0) := rfl
def tX3_timeOrNone : List (Nat × TE) := [(0, .iload_n 0, 1, 0, 0, 0, 0), (1, .bipush 31, 2, 0, 0, 31, 0), (3, .if_icmp .ne 7, 3, 10, 0, 0, 0), (6, .iconst (-1), 1, 0, 0, (-1), 0), (7, .goto 4, 3, 11, 0, 0, 0), (10, .iload_n 0, 1, 0, 0, 0, 0), (11, .ireturn, 1, 0, 0, 0, 0)]
theorem tkX3_timeOrNone : tOk cX3_timeOrNone "RumourSource" 1 tX3_timeOrNone = true := by decide +kernel
theorem fX3_timeOrNone_0 : fetch tX3_timeOrNone 0 = some (.iload_n 0, 1, 0, 0, 0, 0) := rfl
theorem fX3_timeOrNone_1 : fetch tX3_timeOrNone 1 = some (.bipush 31, 2, 0, 0, 31, 0) := rfl
theorem fX3_timeOrNone_3 : fetch tX3_timeOrNone 3 = some (.if_icmp .ne 7, 3, 10, 0, 0, 0) := rfl
theorem fX3_timeOrNone_6 : fetch tX3_timeOrNone 6 = some (.iconst (-1), 1, 0, 0, (-1), 0) := rfl
theorem fX3_timeOrNone_7 : fetch tX3_timeOrNone 7 = some (.goto 4, 3, 11, 0, 0, 0) := rfl
theorem fX3_timeOrNone_10 : fetch tX3_timeOrNone 10 = some (.iload_n 0, 1, 0, 0, 0, 0) := rfl
theorem fX3_timeOrNone_11 : fetch tX3_timeOrNone 11 = some (.ireturn, 1, 0, 0, 0, 0) := rfl
def tX3_remember : List (Nat × TE) := [(0, .aload_n 0, 1, 0, 0, 0, 0), (1, .getfield 38, 3, 3, 5, 0, 0), (4, .aload_n 0, 1, 0, 0, 0, 0), (5, .getfield 16, 3, 3, 1, 0, 0), (8, .arraylength, 1, 0, 0, 0, 0), (9, .if_icmp .lt 65, 3, 74, 0, 0, 0), (12, .aload_n 0, 1, 0, 0, 0, 0), (13, .getfield 16, 3, 3, 1, 0, 0), (16, .iconst 0, 1, 0, 0, 0, 0), (17, .aaload, 1, 0, 0, 0, 0), (18, .astore_n 1, 1, 1, 0, 0, 0), (19, .iconst 1, 1, 0, 0, 1, 0), (20, .istore_n 2, 1, 2, 0, 0, 0), (21, .iload_n 2, 1, 2, 0, 0, 0), (22, .aload_n 0, 1, 0, 0, 0, 0), (23, .getfield 16, 3, 3, 1, 0, 0), (26, .arraylength, 1, 0, 0, 0, 0), (27, .if_icmp .ge 23, 3, 50, 0, 0, 0), (30, .aload_n 0, 1, 0, 0, 0, 0), (31, .getfield 16, 3, 3, 1, 0, 0), (34, .iload_n 2, 1, 2, 0, 0, 0), (35, .iconst 1, 1, 0, 0, 1, 0), (36, .isub, 1, 0, 0, 0, 0), (37, .aload_n 0, 1, 0, 0, 0, 0), (38, .getfield 16, 3, 3, 1, 0, 0), (41, .iload_n 2, 1, 2, 0, 0, 0), (42, .aaload, 1, 0, 0, 0, 0), (43, .aastore, 1, 0, 0, 0, 0), (44, .iinc 2 1, 3, 2, 0, 1, 0), (47, .goto (-26), 3, 21, 0, 0, 0), (50, .aload_n 0, 1, 0, 0, 0, 0), (51, .getfield 16, 3, 3, 1, 0, 0), (54, .aload_n 0, 1, 0, 0, 0, 0), (55, .getfield 16, 3, 3, 1, 0, 0), (58, .arraylength, 1, 0, 0, 0, 0), (59, .iconst 1, 1, 0, 0, 1, 0), (60, .isub, 1, 0, 0, 0, 0), (61, .aload_n 1, 1, 1, 0, 0, 0), (62, .aastore, 1, 0, 0, 0, 0), (63, .aload_n 0, 1, 0, 0, 0, 0), (64, .aload_n 0, 1, 0, 0, 0, 0), (65, .getfield 16, 3, 3, 1, 0, 0), (68, .arraylength, 1, 0, 0, 0, 0), (69, .iconst 1, 1, 0, 0, 1, 0), (70, .isub, 1, 0, 0, 0, 0), (71, .putfield 38, 3, 3, 5, 0, 0), (74, .aload_n 0, 1, 0, 0, 0, 0), (75, .getfield 16, 3, 3, 1, 0, 0), (78, .aload_n 0, 1, 0, 0, 0, 0), (79, .getfield 38, 3, 3, 5, 0, 0), (82, .aaload, 1, 0, 0, 0, 0), (83, .aload_n 0, 1, 0, 0, 0, 0), (84, .getfield 12, 3, 3, 0, 0, 0), (87, .invokevirtual 188, 3, 0, 0, 0, 0), (90, .aload_n 0, 1, 0, 0, 0, 0), (91, .dup, 1, 0, 0, 0, 0), (92, .getfield 38, 3, 3, 5, 0, 0), (95, .iconst 1, 1, 0, 0, 1, 0), (96, .iadd, 1, 0, 0, 0, 0), (97, .putfield 38, 3, 3, 5, 0, 0), (100, .return_, 1, 0, 0, 0, 0)]
theorem tkX3_remember : tOk cX3_remember "RumourSource" 3 tX3_remember = true := by decide +kernel
theorem fX3_remember_0 : fetch tX3_remember 0 = some (.aload_n 0, 1, 0, 0, 0, 0) := rfl
theorem fX3_remember_1 : fetch tX3_remember 1 = some (.getfield 38, 3, 3, 5, 0, 0) := rfl
theorem fX3_remember_4 : fetch tX3_remember 4 = some (.aload_n 0, 1, 0, 0, 0, 0) := rfl
theorem fX3_remember_5 : fetch tX3_remember 5 = some (.getfield 16, 3, 3, 1, 0, 0) := rfl
theorem fX3_remember_8 : fetch tX3_remember 8 = some (.arraylength, 1, 0, 0, 0, 0) := rfl
theorem fX3_remember_9 : fetch tX3_remember 9 = some (.if_icmp .lt 65, 3, 74, 0, 0, 0) := rfl
theorem fX3_remember_12 : fetch tX3_remember 12 = some (.aload_n 0, 1, 0, 0, 0, 0) := rfl
theorem fX3_remember_13 : fetch tX3_remember 13 = some (.getfield 16, 3, 3, 1, 0, 0) := rfl
theorem fX3_remember_16 : fetch tX3_remember 16 = some (.iconst 0, 1, 0, 0, 0, 0) := rfl
theorem fX3_remember_17 : fetch tX3_remember 17 = some (.aaload, 1, 0, 0, 0, 0) := rfl
theorem fX3_remember_18 : fetch tX3_remember 18 = some (.astore_n 1, 1, 1, 0, 0, 0) := rfl
theorem fX3_remember_19 : fetch tX3_remember 19 = some (.iconst 1, 1, 0, 0, 1, 0) := rfl
theorem fX3_remember_20 : fetch tX3_remember 20 = some (.istore_n 2, 1, 2, 0, 0, 0) := rfl
theorem fX3_remember_21 : fetch tX3_remember 21 = some (.iload_n 2, 1, 2, 0, 0, 0) := rfl
theorem fX3_remember_22 : fetch tX3_remember 22 = some (.aload_n 0, 1, 0, 0, 0, 0) := rfl
theorem fX3_remember_23 : fetch tX3_remember 23 = some (.getfield 16, 3, 3, 1, 0, 0) := rfl
theorem fX3_remember_26 : fetch tX3_remember 26 = some (.arraylength, 1, 0, 0, 0, 0) := rfl
theorem fX3_remember_27 : fetch tX3_remember 27 = some (.if_icmp .ge 23, 3, 50, 0, 0, 0) := rfl
theorem fX3_remember_30 : fetch tX3_remember 30 = some (.aload_n 0, 1, 0, 0, 0, 0) := rfl
theorem fX3_remember_31 : fetch tX3_remember 31 = some (.getfield 16, 3, 3, 1, 0, 0) := rfl
theorem fX3_remember_34 : fetch tX3_remember 34 = some (.iload_n 2, 1, 2, 0, 0, 0) := rfl
theorem fX3_remember_35 : fetch tX3_remember 35 = some (.iconst 1, 1, 0, 0, 1, 0) := rfl
theorem fX3_remember_36 : fetch tX3_remember 36 = some (.isub, 1, 0, 0, 0, 0) := rfl
theorem fX3_remember_37 : fetch tX3_remember 37 = some (.aload_n 0, 1, 0, 0, 0, 0) := rfl
theorem fX3_remember_38 : fetch tX3_remember 38 = some (.getfield 16, 3, 3, 1, 0, 0) := rfl
theorem fX3_remember_41 : fetch tX3_remember 41 = some (.iload_n 2, 1, 2, 0, 0, 0) := rfl
theorem fX3_remember_42 : fetch tX3_remember 42 = some (.aaload, 1, 0, 0, 0, 0) := rfl
theorem fX3_remember_43 : fetch tX3_remember 43 = some (.aastore, 1, 0, 0, 0, 0) := rfl
theorem fX3_remember_44 : fetch tX3_remember 44 = some (.iinc 2 1, 3, 2, 0, 1, 0) := rfl
theorem fX3_remember_47 : fetch tX3_remember 47 = some (.goto (-26), 3, 21, 0, 0, 0) := rfl
theorem fX3_remember_50 : fetch tX3_remember 50 = some (.aload_n 0, 1, 0, 0, 0, 0) := rfl
theorem fX3_remember_51 : fetch tX3_remember 51 = some (.getfield 16, 3, 3, 1, 0, 0) := rfl
theorem fX3_remember_54 : fetch tX3_remember 54 = some (.aload_n 0, 1, 0, 0, 0, 0) := rfl
theorem fX3_remember_55 : fetch tX3_remember 55 = some (.getfield 16, 3, 3, 1, 0, 0) := rfl
theorem fX3_remember_58 : fetch tX3_remember 58 = some (.arraylength, 1, 0, 0, 0, 0) := rfl
theorem fX3_remember_59 : fetch tX3_remember 59 = some (.iconst 1, 1, 0, 0, 1, 0) := rfl
theorem fX3_remember_60 : fetch tX3_remember 60 = some (.isub, 1, 0, 0, 0, 0) := rfl
theorem fX3_remember_61 : fetch tX3_remember 61 = some (.aload_n 1, 1, 1, 0, 0, 0) := rfl
theorem fX3_remember_62 : fetch tX3_remember 62 = some (.aastore, 1, 0, 0, 0, 0) := rfl
theorem fX3_remember_63 : fetch tX3_remember 63 = some (.aload_n 0, 1, 0, 0, 0, 0) := rfl
theorem fX3_remember_64 : fetch tX3_remember 64 = some (.aload_n 0, 1, 0, 0, 0, 0) := rfl
theorem fX3_remember_65 : fetch tX3_remember 65 = some (.getfield 16, 3, 3, 1, 0, 0) := rfl
theorem fX3_remember_68 : fetch tX3_remember 68 = some (.arraylength, 1, 0, 0, 0, 0) := rfl
theorem fX3_remember_69 : fetch tX3_remember 69 = some (.iconst 1, 1, 0, 0, 1, 0) := rfl
theorem fX3_remember_70 : fetch tX3_remember 70 = some (.isub, 1, 0, 0, 0, 0) := rfl
theorem fX3_remember_71 : fetch tX3_remember 71 = some (.putfield 38, 3, 3, 5, 0, 0) := rfl
theorem fX3_remember_74 : fetch tX3_remember 74 = some (.aload_n 0, 1, 0, 0, 0, 0) := rfl
theorem fX3_remember_75 : fetch tX3_remember 75 = some (.getfield 16, 3, 3, 1, 0, 0) := rfl
theorem fX3_remember_78 : fetch tX3_remember 78 = some (.aload_n 0, 1, 0, 0, 0, 0) := rfl
theorem fX3_remember_79 : fetch tX3_remember 79 = some (.getfield 38, 3, 3, 5, 0, 0) := rfl
theorem fX3_remember_82 : fetch tX3_remember 82 = some (.aaload, 1, 0, 0, 0, 0) := rfl
theorem fX3_remember_83 : fetch tX3_remember 83 = some (.aload_n 0, 1, 0, 0, 0, 0) := rfl
theorem fX3_remember_84 : fetch tX3_remember 84 = some (.getfield 12, 3, 3, 0, 0, 0) := rfl
theorem fX3_remember_87 : fetch tX3_remember 87 = some (.invokevirtual 188, 3, 0, 0, 0, 0) := rfl
theorem fX3_remember_90 : fetch tX3_remember 90 = some (.aload_n 0, 1, 0, 0, 0, 0) := rfl
theorem fX3_remember_91 : fetch tX3_remember 91 = some (.dup, 1, 0, 0, 0, 0) := rfl
theorem fX3_remember_92 : fetch tX3_remember 92 = some (.getfield 38, 3, 3, 5, 0, 0) := rfl
theorem fX3_remember_95 : fetch tX3_remember 95 = some (.iconst 1, 1, 0, 0, 1, 0) := rfl
theorem fX3_remember_96 : fetch tX3_remember 96 = some (.iadd, 1, 0, 0, 0, 0) := rfl
theorem fX3_remember_97 : fetch tX3_remember 97 = some (.putfield 38, 3, 3, 5, 0, 0) := rfl
theorem fX3_remember_100 : fetch tX3_remember 100 = some (.return_, 1, 0, 0, 0, 0) := rfl
def tX3_replaceSeen : List (Nat × TE) := [(0, .aload_n 0, 1, 0, 0, 0, 0), (1, .invokevirtual 60, 3, 0, 3, 0, 0), (4, .aload_n 0, 1, 0, 0, 0, 0), (5, .getfield 12, 3, 3, 0, 0, 0), (8, .getfield 102, 3, 0, 6, 0, 0), (11, .iload_n 1, 1, 1, 0, 0, 0), (12, .iaload, 1, 0, 0, 0, 0), (13, .istore_n 3, 1, 3, 0, 0, 0), (14, .aload_n 0, 1, 0, 0, 0, 0), (15, .getfield 12, 3, 3, 0, 0, 0), (18, .getfield 102, 3, 0, 6, 0, 0), (21, .iload_n 1, 1, 1, 0, 0, 0), (22, .iload_n 2, 1, 2, 0, 0, 0), (23, .iastore, 1, 0, 0, 0, 0), (24, .iload_n 3, 1, 3, 0, 0, 0), (25, .ireturn, 1, 0, 0, 0, 0)]
theorem tkX3_replaceSeen : tOk cX3_replaceSeen "RumourSource" 4 tX3_replaceSeen = true := by decide +kernel
theorem fX3_replaceSeen_0 : fetch tX3_replaceSeen 0 = some (.aload_n 0, 1, 0, 0, 0, 0) := rfl
theorem fX3_replaceSeen_1 : fetch tX3_replaceSeen 1 = some (.invokevirtual 60, 3, 0, 3, 0, 0) := rfl
theorem fX3_replaceSeen_4 : fetch tX3_replaceSeen 4 = some (.aload_n 0, 1, 0, 0, 0, 0) := rfl
theorem fX3_replaceSeen_5 : fetch tX3_replaceSeen 5 = some (.getfield 12, 3, 3, 0, 0, 0) := rfl
theorem fX3_replaceSeen_8 : fetch tX3_replaceSeen 8 = some (.getfield 102, 3, 0, 6, 0, 0) := rfl
theorem fX3_replaceSeen_11 : fetch tX3_replaceSeen 11 = some (.iload_n 1, 1, 1, 0, 0, 0) := rfl
theorem fX3_replaceSeen_12 : fetch tX3_replaceSeen 12 = some (.iaload, 1, 0, 0, 0, 0) := rfl
theorem fX3_replaceSeen_13 : fetch tX3_replaceSeen 13 = some (.istore_n 3, 1, 3, 0, 0, 0) := rfl
theorem fX3_replaceSeen_14 : fetch tX3_replaceSeen 14 = some (.aload_n 0, 1, 0, 0, 0, 0) := rfl
theorem fX3_replaceSeen_15 : fetch tX3_replaceSeen 15 = some (.getfield 12, 3, 3, 0, 0, 0) := rfl
theorem fX3_replaceSeen_18 : fetch tX3_replaceSeen 18 = some (.getfield 102, 3, 0, 6, 0, 0) := rfl
theorem fX3_replaceSeen_21 : fetch tX3_replaceSeen 21 = some (.iload_n 1, 1, 1, 0, 0, 0) := rfl
theorem fX3_replaceSeen_22 : fetch tX3_replaceSeen 22 = some (.iload_n 2, 1, 2, 0, 0, 0) := rfl
theorem fX3_replaceSeen_23 : fetch tX3_replaceSeen 23 = some (.iastore, 1, 0, 0, 0, 0) := rfl
theorem fX3_replaceSeen_24 : fetch tX3_replaceSeen 24 = some (.iload_n 3, 1, 3, 0, 0, 0) := rfl
theorem fX3_replaceSeen_25 : fetch tX3_replaceSeen 25 = some (.ireturn, 1, 0, 0, 0, 0) := rfl
def tX3_drawOutcome : List (Nat × TE) := [(0, .iconst 0, 1, 0, 0, 0, 0), (1, .istore_n 2, 1, 2, 0, 0, 0), (2, .iload_n 1, 1, 1, 0, 0, 0), (3, .istore_n 3, 1, 3, 0, 0, 0), (4, .iconst 0, 1, 0, 0, 0, 0), (5, .istore 4, 2, 4, 0, 0, 0), (7, .iload 4, 2, 4, 0, 0, 0), (9, .aload_n 0, 1, 0, 0, 0, 0), (10, .getfield 12, 3, 3, 0, 0, 0), (13, .getfield 81, 3, 0, 4, 0, 0), (16, .if_icmp .ge 45, 3, 61, 0, 0, 0), (19, .iload_n 3, 1, 3, 0, 0, 0), (20, .ldc 208, 2, 0, 0, 1103515245, 0), (22, .imul, 1, 0, 0, 0, 0), (23, .sipush 12345, 3, 0, 0, 12345, 0), (26, .iadd, 1, 0, 0, 0, 0), (27, .istore_n 3, 1, 3, 0, 0, 0), (28, .iload_n 3, 1, 3, 0, 0, 0), (29, .bipush 8, 2, 0, 0, 8, 0), (31, .iushr, 1, 0, 0, 0, 0), (32, .bipush 10, 2, 0, 0, 10, 0), (34, .irem, 1, 0, 0, 0, 0), (35, .aload_n 0, 1, 0, 0, 0, 0), (36, .getfield 12, 3, 3, 0, 0, 0), (39, .getfield 70, 3, 0, 2, 0, 0), (42, .iload 4, 2, 4, 0, 0, 0), (44, .iaload, 1, 0, 0, 0, 0), (45, .if_icmp .ge 10, 3, 55, 0, 0, 0), (48, .iload_n 2, 1, 2, 0, 0, 0), (49, .iconst 1, 1, 0, 0, 1, 0), (50, .iload 4, 2, 4, 0, 0, 0), (52, .ishl, 1, 0, 0, 0, 0), (53, .ior, 1, 0, 0, 0, 0), (54, .istore_n 2, 1, 2, 0, 0, 0), (55, .iinc 4 1, 3, 4, 0, 1, 0), (58, .goto (-51), 3, 7, 0, 0, 0), (61, .iload_n 2, 1, 2, 0, 0, 0), (62, .ireturn, 1, 0, 0, 0, 0)]
theorem tkX3_drawOutcome : tOk cX3_drawOutcome "RumourSource" 5 tX3_drawOutcome = true := by decide +kernel
theorem fX3_drawOutcome_0 : fetch tX3_drawOutcome 0 = some (.iconst 0, 1, 0, 0, 0, 0) := rfl
theorem fX3_drawOutcome_1 : fetch tX3_drawOutcome 1 = some (.istore_n 2, 1, 2, 0, 0, 0) := rfl
theorem fX3_drawOutcome_2 : fetch tX3_drawOutcome 2 = some (.iload_n 1, 1, 1, 0, 0, 0) := rfl
theorem fX3_drawOutcome_3 : fetch tX3_drawOutcome 3 = some (.istore_n 3, 1, 3, 0, 0, 0) := rfl
theorem fX3_drawOutcome_4 : fetch tX3_drawOutcome 4 = some (.iconst 0, 1, 0, 0, 0, 0) := rfl
theorem fX3_drawOutcome_5 : fetch tX3_drawOutcome 5 = some (.istore 4, 2, 4, 0, 0, 0) := rfl
theorem fX3_drawOutcome_7 : fetch tX3_drawOutcome 7 = some (.iload 4, 2, 4, 0, 0, 0) := rfl
theorem fX3_drawOutcome_9 : fetch tX3_drawOutcome 9 = some (.aload_n 0, 1, 0, 0, 0, 0) := rfl
theorem fX3_drawOutcome_10 : fetch tX3_drawOutcome 10 = some (.getfield 12, 3, 3, 0, 0, 0) := rfl
theorem fX3_drawOutcome_13 : fetch tX3_drawOutcome 13 = some (.getfield 81, 3, 0, 4, 0, 0) := rfl
theorem fX3_drawOutcome_16 : fetch tX3_drawOutcome 16 = some (.if_icmp .ge 45, 3, 61, 0, 0, 0) := rfl
theorem fX3_drawOutcome_19 : fetch tX3_drawOutcome 19 = some (.iload_n 3, 1, 3, 0, 0, 0) := rfl
theorem fX3_drawOutcome_20 : fetch tX3_drawOutcome 20 = some (.ldc 208, 2, 0, 0, 1103515245, 0) := rfl
theorem fX3_drawOutcome_22 : fetch tX3_drawOutcome 22 = some (.imul, 1, 0, 0, 0, 0) := rfl
theorem fX3_drawOutcome_23 : fetch tX3_drawOutcome 23 = some (.sipush 12345, 3, 0, 0, 12345, 0) := rfl
theorem fX3_drawOutcome_26 : fetch tX3_drawOutcome 26 = some (.iadd, 1, 0, 0, 0, 0) := rfl
theorem fX3_drawOutcome_27 : fetch tX3_drawOutcome 27 = some (.istore_n 3, 1, 3, 0, 0, 0) := rfl
theorem fX3_drawOutcome_28 : fetch tX3_drawOutcome 28 = some (.iload_n 3, 1, 3, 0, 0, 0) := rfl
theorem fX3_drawOutcome_29 : fetch tX3_drawOutcome 29 = some (.bipush 8, 2, 0, 0, 8, 0) := rfl
theorem fX3_drawOutcome_31 : fetch tX3_drawOutcome 31 = some (.iushr, 1, 0, 0, 0, 0) := rfl
theorem fX3_drawOutcome_32 : fetch tX3_drawOutcome 32 = some (.bipush 10, 2, 0, 0, 10, 0) := rfl
theorem fX3_drawOutcome_34 : fetch tX3_drawOutcome 34 = some (.irem, 1, 0, 0, 0, 0) := rfl
theorem fX3_drawOutcome_35 : fetch tX3_drawOutcome 35 = some (.aload_n 0, 1, 0, 0, 0, 0) := rfl
theorem fX3_drawOutcome_36 : fetch tX3_drawOutcome 36 = some (.getfield 12, 3, 3, 0, 0, 0) := rfl
theorem fX3_drawOutcome_39 : fetch tX3_drawOutcome 39 = some (.getfield 70, 3, 0, 2, 0, 0) := rfl
theorem fX3_drawOutcome_42 : fetch tX3_drawOutcome 42 = some (.iload 4, 2, 4, 0, 0, 0) := rfl
theorem fX3_drawOutcome_44 : fetch tX3_drawOutcome 44 = some (.iaload, 1, 0, 0, 0, 0) := rfl
theorem fX3_drawOutcome_45 : fetch tX3_drawOutcome 45 = some (.if_icmp .ge 10, 3, 55, 0, 0, 0) := rfl
theorem fX3_drawOutcome_48 : fetch tX3_drawOutcome 48 = some (.iload_n 2, 1, 2, 0, 0, 0) := rfl
theorem fX3_drawOutcome_49 : fetch tX3_drawOutcome 49 = some (.iconst 1, 1, 0, 0, 1, 0) := rfl
theorem fX3_drawOutcome_50 : fetch tX3_drawOutcome 50 = some (.iload 4, 2, 4, 0, 0, 0) := rfl
theorem fX3_drawOutcome_52 : fetch tX3_drawOutcome 52 = some (.ishl, 1, 0, 0, 0, 0) := rfl
theorem fX3_drawOutcome_53 : fetch tX3_drawOutcome 53 = some (.ior, 1, 0, 0, 0, 0) := rfl
theorem fX3_drawOutcome_54 : fetch tX3_drawOutcome 54 = some (.istore_n 2, 1, 2, 0, 0, 0) := rfl
theorem fX3_drawOutcome_55 : fetch tX3_drawOutcome 55 = some (.iinc 4 1, 3, 4, 0, 1, 0) := rfl
theorem fX3_drawOutcome_58 : fetch tX3_drawOutcome 58 = some (.goto (-51), 3, 7, 0, 0, 0) := rfl
theorem fX3_drawOutcome_61 : fetch tX3_drawOutcome 61 = some (.iload_n 2, 1, 2, 0, 0, 0) := rfl
theorem fX3_drawOutcome_62 : fetch tX3_drawOutcome 62 = some (.ireturn, 1, 0, 0, 0, 0) := rfl
def tX3_likelihoodOf : List (Nat × TE) := [(0, .aload_n 0, 1, 0, 0, 0, 0), (1, .getfield 23, 3, 3, 2, 0, 0), (4, .aload_n 0, 1, 0, 0, 0, 0), (5, .getfield 12, 3, 3, 0, 0, 0), (8, .invokevirtual 130, 3, 0, 1, 0, 0), (11, .aload_n 0, 1, 0, 0, 0, 0), (12, .getfield 23, 3, 3, 2, 0, 0), (15, .aload_n 0, 1, 0, 0, 0, 0), (16, .getfield 12, 3, 3, 0, 0, 0), (19, .iload_n 1, 1, 1, 0, 0, 0), (20, .iconst 0, 1, 0, 0, 0, 0), (21, .invokevirtual 143, 3, 1, 1, 0, 0), (24, .aload_n 0, 1, 0, 0, 0, 0), (25, .getfield 23, 3, 3, 2, 0, 0), (28, .getfield 147, 3, 1, 2, 0, 0), (31, .lreturn, 1, 0, 0, 0, 0)]
theorem tkX3_likelihoodOf : tOk cX3_likelihoodOf "RumourSource" 2 tX3_likelihoodOf = true := by decide +kernel
theorem fX3_likelihoodOf_0 : fetch tX3_likelihoodOf 0 = some (.aload_n 0, 1, 0, 0, 0, 0) := rfl
theorem fX3_likelihoodOf_1 : fetch tX3_likelihoodOf 1 = some (.getfield 23, 3, 3, 2, 0, 0) := rfl
theorem fX3_likelihoodOf_4 : fetch tX3_likelihoodOf 4 = some (.aload_n 0, 1, 0, 0, 0, 0) := rfl
theorem fX3_likelihoodOf_5 : fetch tX3_likelihoodOf 5 = some (.getfield 12, 3, 3, 0, 0, 0) := rfl
theorem fX3_likelihoodOf_8 : fetch tX3_likelihoodOf 8 = some (.invokevirtual 130, 3, 0, 1, 0, 0) := rfl
theorem fX3_likelihoodOf_11 : fetch tX3_likelihoodOf 11 = some (.aload_n 0, 1, 0, 0, 0, 0) := rfl
theorem fX3_likelihoodOf_12 : fetch tX3_likelihoodOf 12 = some (.getfield 23, 3, 3, 2, 0, 0) := rfl
theorem fX3_likelihoodOf_15 : fetch tX3_likelihoodOf 15 = some (.aload_n 0, 1, 0, 0, 0, 0) := rfl
theorem fX3_likelihoodOf_16 : fetch tX3_likelihoodOf 16 = some (.getfield 12, 3, 3, 0, 0, 0) := rfl
theorem fX3_likelihoodOf_19 : fetch tX3_likelihoodOf 19 = some (.iload_n 1, 1, 1, 0, 0, 0) := rfl
theorem fX3_likelihoodOf_20 : fetch tX3_likelihoodOf 20 = some (.iconst 0, 1, 0, 0, 0, 0) := rfl
theorem fX3_likelihoodOf_21 : fetch tX3_likelihoodOf 21 = some (.invokevirtual 143, 3, 1, 1, 0, 0) := rfl
theorem fX3_likelihoodOf_24 : fetch tX3_likelihoodOf 24 = some (.aload_n 0, 1, 0, 0, 0, 0) := rfl
theorem fX3_likelihoodOf_25 : fetch tX3_likelihoodOf 25 = some (.getfield 23, 3, 3, 2, 0, 0) := rfl
theorem fX3_likelihoodOf_28 : fetch tX3_likelihoodOf 28 = some (.getfield 147, 3, 1, 2, 0, 0) := rfl
theorem fX3_likelihoodOf_31 : fetch tX3_likelihoodOf 31 = some (.lreturn, 1, 0, 0, 0, 0) := rfl
def tX3_countIfPossible : List (Nat × TE) := [(0, .aload_n 0, 1, 0, 0, 0, 0), (1, .getfield 23, 3, 3, 2, 0, 0), (4, .aload_n 0, 1, 0, 0, 0, 0), (5, .getfield 12, 3, 3, 0, 0, 0), (8, .invokevirtual 130, 3, 0, 1, 0, 0), (11, .aload_n 0, 1, 0, 0, 0, 0), (12, .getfield 23, 3, 3, 2, 0, 0), (15, .aload_n 0, 1, 0, 0, 0, 0), (16, .getfield 12, 3, 3, 0, 0, 0), (19, .iload_n 1, 1, 1, 0, 0, 0), (20, .iconst 1, 1, 0, 0, 1, 0), (21, .invokevirtual 143, 3, 1, 1, 0, 0), (24, .aload_n 0, 1, 0, 0, 0, 0), (25, .getfield 23, 3, 3, 2, 0, 0), (28, .getfield 147, 3, 1, 2, 0, 0), (31, .lconst 0, 1, 0, 0, 0, 0), (32, .lcmp, 1, 0, 0, 0, 0), (33, .ifCond .le 7, 3, 40, 0, 0, 0), (36, .iconst 1, 1, 0, 0, 1, 0), (37, .goto 4, 3, 41, 0, 0, 0), (40, .iconst 0, 1, 0, 0, 0, 0), (41, .ireturn, 1, 0, 0, 0, 0)]
theorem tkX3_countIfPossible : tOk cX3_countIfPossible "RumourSource" 2 tX3_countIfPossible = true := by decide +kernel
theorem fX3_countIfPossible_0 : fetch tX3_countIfPossible 0 = some (.aload_n 0, 1, 0, 0, 0, 0) := rfl
theorem fX3_countIfPossible_1 : fetch tX3_countIfPossible 1 = some (.getfield 23, 3, 3, 2, 0, 0) := rfl
theorem fX3_countIfPossible_4 : fetch tX3_countIfPossible 4 = some (.aload_n 0, 1, 0, 0, 0, 0) := rfl
theorem fX3_countIfPossible_5 : fetch tX3_countIfPossible 5 = some (.getfield 12, 3, 3, 0, 0, 0) := rfl
theorem fX3_countIfPossible_8 : fetch tX3_countIfPossible 8 = some (.invokevirtual 130, 3, 0, 1, 0, 0) := rfl
theorem fX3_countIfPossible_11 : fetch tX3_countIfPossible 11 = some (.aload_n 0, 1, 0, 0, 0, 0) := rfl
theorem fX3_countIfPossible_12 : fetch tX3_countIfPossible 12 = some (.getfield 23, 3, 3, 2, 0, 0) := rfl
theorem fX3_countIfPossible_15 : fetch tX3_countIfPossible 15 = some (.aload_n 0, 1, 0, 0, 0, 0) := rfl
theorem fX3_countIfPossible_16 : fetch tX3_countIfPossible 16 = some (.getfield 12, 3, 3, 0, 0, 0) := rfl
theorem fX3_countIfPossible_19 : fetch tX3_countIfPossible 19 = some (.iload_n 1, 1, 1, 0, 0, 0) := rfl
theorem fX3_countIfPossible_20 : fetch tX3_countIfPossible 20 = some (.iconst 1, 1, 0, 0, 1, 0) := rfl
theorem fX3_countIfPossible_21 : fetch tX3_countIfPossible 21 = some (.invokevirtual 143, 3, 1, 1, 0, 0) := rfl
theorem fX3_countIfPossible_24 : fetch tX3_countIfPossible 24 = some (.aload_n 0, 1, 0, 0, 0, 0) := rfl
theorem fX3_countIfPossible_25 : fetch tX3_countIfPossible 25 = some (.getfield 23, 3, 3, 2, 0, 0) := rfl
theorem fX3_countIfPossible_28 : fetch tX3_countIfPossible 28 = some (.getfield 147, 3, 1, 2, 0, 0) := rfl
theorem fX3_countIfPossible_31 : fetch tX3_countIfPossible 31 = some (.lconst 0, 1, 0, 0, 0, 0) := rfl
theorem fX3_countIfPossible_32 : fetch tX3_countIfPossible 32 = some (.lcmp, 1, 0, 0, 0, 0) := rfl
theorem fX3_countIfPossible_33 : fetch tX3_countIfPossible 33 = some (.ifCond .le 7, 3, 40, 0, 0, 0) := rfl
theorem fX3_countIfPossible_36 : fetch tX3_countIfPossible 36 = some (.iconst 1, 1, 0, 0, 1, 0) := rfl
theorem fX3_countIfPossible_37 : fetch tX3_countIfPossible 37 = some (.goto 4, 3, 41, 0, 0, 0) := rfl
theorem fX3_countIfPossible_40 : fetch tX3_countIfPossible 40 = some (.iconst 0, 1, 0, 0, 0, 0) := rfl
theorem fX3_countIfPossible_41 : fetch tX3_countIfPossible 41 = some (.ireturn, 1, 0, 0, 0, 0) := rfl
def tX3_findLikelihoods : List (Nat × TE) := [(0, .iconst 0, 1, 0, 0, 0, 0), (1, .istore_n 1, 1, 1, 0, 0, 0), (2, .iload_n 1, 1, 1, 0, 0, 0), (3, .bipush 8, 2, 0, 0, 8, 0), (5, .if_icmp .ge 22, 3, 27, 0, 0, 0), (8, .aload_n 0, 1, 0, 0, 0, 0), (9, .getfield 34, 3, 3, 4, 0, 0), (12, .iload_n 1, 1, 1, 0, 0, 0), (13, .aload_n 0, 1, 0, 0, 0, 0), (14, .iconst 1, 1, 0, 0, 1, 0), (15, .iload_n 1, 1, 1, 0, 0, 0), (16, .ishl, 1, 0, 0, 0, 0), (17, .invokevirtual 157, 3, 0, 3, 0, 0), (20, .lastore, 1, 0, 0, 0, 0), (21, .iinc 1 1, 3, 1, 0, 1, 0), (24, .goto (-22), 3, 2, 0, 0, 0), (27, .return_, 1, 0, 0, 0, 0)]
theorem tkX3_findLikelihoods : tOk cX3_findLikelihoods "RumourSource" 2 tX3_findLikelihoods = true := by decide +kernel
theorem fX3_findLikelihoods_0 : fetch tX3_findLikelihoods 0 = some (.iconst 0, 1, 0, 0, 0, 0) := rfl
theorem fX3_findLikelihoods_1 : fetch tX3_findLikelihoods 1 = some (.istore_n 1, 1, 1, 0, 0, 0) := rfl
theorem fX3_findLikelihoods_2 : fetch tX3_findLikelihoods 2 = some (.iload_n 1, 1, 1, 0, 0, 0) := rfl
theorem fX3_findLikelihoods_3 : fetch tX3_findLikelihoods 3 = some (.bipush 8, 2, 0, 0, 8, 0) := rfl
theorem fX3_findLikelihoods_5 : fetch tX3_findLikelihoods 5 = some (.if_icmp .ge 22, 3, 27, 0, 0, 0) := rfl
theorem fX3_findLikelihoods_8 : fetch tX3_findLikelihoods 8 = some (.aload_n 0, 1, 0, 0, 0, 0) := rfl
theorem fX3_findLikelihoods_9 : fetch tX3_findLikelihoods 9 = some (.getfield 34, 3, 3, 4, 0, 0) := rfl
theorem fX3_findLikelihoods_12 : fetch tX3_findLikelihoods 12 = some (.iload_n 1, 1, 1, 0, 0, 0) := rfl
theorem fX3_findLikelihoods_13 : fetch tX3_findLikelihoods 13 = some (.aload_n 0, 1, 0, 0, 0, 0) := rfl
theorem fX3_findLikelihoods_14 : fetch tX3_findLikelihoods 14 = some (.iconst 1, 1, 0, 0, 1, 0) := rfl
theorem fX3_findLikelihoods_15 : fetch tX3_findLikelihoods 15 = some (.iload_n 1, 1, 1, 0, 0, 0) := rfl
theorem fX3_findLikelihoods_16 : fetch tX3_findLikelihoods 16 = some (.ishl, 1, 0, 0, 0, 0) := rfl
theorem fX3_findLikelihoods_17 : fetch tX3_findLikelihoods 17 = some (.invokevirtual 157, 3, 0, 3, 0, 0) := rfl
theorem fX3_findLikelihoods_20 : fetch tX3_findLikelihoods 20 = some (.lastore, 1, 0, 0, 0, 0) := rfl
theorem fX3_findLikelihoods_21 : fetch tX3_findLikelihoods 21 = some (.iinc 1 1, 3, 1, 0, 1, 0) := rfl
theorem fX3_findLikelihoods_24 : fetch tX3_findLikelihoods 24 = some (.goto (-22), 3, 2, 0, 0, 0) := rfl
theorem fX3_findLikelihoods_27 : fetch tX3_findLikelihoods 27 = some (.return_, 1, 0, 0, 0, 0) := rfl
def tX3_rankOf : List (Nat × TE) := [(0, .iconst 0, 1, 0, 0, 0, 0), (1, .istore_n 2, 1, 2, 0, 0, 0), (2, .iconst 0, 1, 0, 0, 0, 0), (3, .istore_n 3, 1, 3, 0, 0, 0), (4, .iload_n 3, 1, 3, 0, 0, 0), (5, .bipush 8, 2, 0, 0, 8, 0), (7, .if_icmp .ge 73, 3, 80, 0, 0, 0), (10, .aload_n 0, 1, 0, 0, 0, 0), (11, .getfield 34, 3, 3, 4, 0, 0), (14, .iload_n 3, 1, 3, 0, 0, 0), (15, .laload, 1, 0, 0, 0, 0), (16, .aload_n 0, 1, 0, 0, 0, 0), (17, .getfield 34, 3, 3, 4, 0, 0), (20, .iload_n 1, 1, 1, 0, 0, 0), (21, .laload, 1, 0, 0, 0, 0), (22, .lcmp, 1, 0, 0, 0, 0), (23, .ifCond .le 7, 3, 30, 0, 0, 0), (26, .iconst 1, 1, 0, 0, 1, 0), (27, .goto 4, 3, 31, 0, 0, 0), (30, .iconst 0, 1, 0, 0, 0, 0), (31, .istore 4, 2, 4, 0, 0, 0), (33, .aload_n 0, 1, 0, 0, 0, 0), (34, .getfield 34, 3, 3, 4, 0, 0), (37, .iload_n 3, 1, 3, 0, 0, 0), (38, .laload, 1, 0, 0, 0, 0), (39, .aload_n 0, 1, 0, 0, 0, 0), (40, .getfield 34, 3, 3, 4, 0, 0), (43, .iload_n 1, 1, 1, 0, 0, 0), (44, .laload, 1, 0, 0, 0, 0), (45, .lcmp, 1, 0, 0, 0, 0), (46, .ifCond .ne 12, 3, 58, 0, 0, 0), (49, .iload_n 3, 1, 3, 0, 0, 0), (50, .iload_n 1, 1, 1, 0, 0, 0), (51, .if_icmp .ge 7, 3, 58, 0, 0, 0), (54, .iconst 1, 1, 0, 0, 1, 0), (55, .goto 4, 3, 59, 0, 0, 0), (58, .iconst 0, 1, 0, 0, 0, 0), (59, .istore 5, 2, 5, 0, 0, 0), (61, .iload 4, 2, 4, 0, 0, 0), (63, .ifCond .ne 8, 3, 71, 0, 0, 0), (66, .iload 5, 2, 5, 0, 0, 0), (68, .ifCond .eq 6, 3, 74, 0, 0, 0), (71, .iinc 2 1, 3, 2, 0, 1, 0), (74, .iinc 3 1, 3, 3, 0, 1, 0), (77, .goto (-73), 3, 4, 0, 0, 0), (80, .iload_n 2, 1, 2, 0, 0, 0), (81, .ireturn, 1, 0, 0, 0, 0)]
theorem tkX3_rankOf : tOk cX3_rankOf "RumourSource" 6 tX3_rankOf = true := by decide +kernel
theorem fX3_rankOf_0 : fetch tX3_rankOf 0 = some (.iconst 0, 1, 0, 0, 0, 0) := rfl
theorem fX3_rankOf_1 : fetch tX3_rankOf 1 = some (.istore_n 2, 1, 2, 0, 0, 0) := rfl
theorem fX3_rankOf_2 : fetch tX3_rankOf 2 = some (.iconst 0, 1, 0, 0, 0, 0) := rfl
theorem fX3_rankOf_3 : fetch tX3_rankOf 3 = some (.istore_n 3, 1, 3, 0, 0, 0) := rfl
theorem fX3_rankOf_4 : fetch tX3_rankOf 4 = some (.iload_n 3, 1, 3, 0, 0, 0) := rfl
theorem fX3_rankOf_5 : fetch tX3_rankOf 5 = some (.bipush 8, 2, 0, 0, 8, 0) := rfl
theorem fX3_rankOf_7 : fetch tX3_rankOf 7 = some (.if_icmp .ge 73, 3, 80, 0, 0, 0) := rfl
theorem fX3_rankOf_10 : fetch tX3_rankOf 10 = some (.aload_n 0, 1, 0, 0, 0, 0) := rfl
theorem fX3_rankOf_11 : fetch tX3_rankOf 11 = some (.getfield 34, 3, 3, 4, 0, 0) := rfl
theorem fX3_rankOf_14 : fetch tX3_rankOf 14 = some (.iload_n 3, 1, 3, 0, 0, 0) := rfl
theorem fX3_rankOf_15 : fetch tX3_rankOf 15 = some (.laload, 1, 0, 0, 0, 0) := rfl
theorem fX3_rankOf_16 : fetch tX3_rankOf 16 = some (.aload_n 0, 1, 0, 0, 0, 0) := rfl
theorem fX3_rankOf_17 : fetch tX3_rankOf 17 = some (.getfield 34, 3, 3, 4, 0, 0) := rfl
theorem fX3_rankOf_20 : fetch tX3_rankOf 20 = some (.iload_n 1, 1, 1, 0, 0, 0) := rfl
theorem fX3_rankOf_21 : fetch tX3_rankOf 21 = some (.laload, 1, 0, 0, 0, 0) := rfl
theorem fX3_rankOf_22 : fetch tX3_rankOf 22 = some (.lcmp, 1, 0, 0, 0, 0) := rfl
theorem fX3_rankOf_23 : fetch tX3_rankOf 23 = some (.ifCond .le 7, 3, 30, 0, 0, 0) := rfl
theorem fX3_rankOf_26 : fetch tX3_rankOf 26 = some (.iconst 1, 1, 0, 0, 1, 0) := rfl
theorem fX3_rankOf_27 : fetch tX3_rankOf 27 = some (.goto 4, 3, 31, 0, 0, 0) := rfl
theorem fX3_rankOf_30 : fetch tX3_rankOf 30 = some (.iconst 0, 1, 0, 0, 0, 0) := rfl
theorem fX3_rankOf_31 : fetch tX3_rankOf 31 = some (.istore 4, 2, 4, 0, 0, 0) := rfl
theorem fX3_rankOf_33 : fetch tX3_rankOf 33 = some (.aload_n 0, 1, 0, 0, 0, 0) := rfl
theorem fX3_rankOf_34 : fetch tX3_rankOf 34 = some (.getfield 34, 3, 3, 4, 0, 0) := rfl
theorem fX3_rankOf_37 : fetch tX3_rankOf 37 = some (.iload_n 3, 1, 3, 0, 0, 0) := rfl
theorem fX3_rankOf_38 : fetch tX3_rankOf 38 = some (.laload, 1, 0, 0, 0, 0) := rfl
theorem fX3_rankOf_39 : fetch tX3_rankOf 39 = some (.aload_n 0, 1, 0, 0, 0, 0) := rfl
theorem fX3_rankOf_40 : fetch tX3_rankOf 40 = some (.getfield 34, 3, 3, 4, 0, 0) := rfl
theorem fX3_rankOf_43 : fetch tX3_rankOf 43 = some (.iload_n 1, 1, 1, 0, 0, 0) := rfl
theorem fX3_rankOf_44 : fetch tX3_rankOf 44 = some (.laload, 1, 0, 0, 0, 0) := rfl
theorem fX3_rankOf_45 : fetch tX3_rankOf 45 = some (.lcmp, 1, 0, 0, 0, 0) := rfl
theorem fX3_rankOf_46 : fetch tX3_rankOf 46 = some (.ifCond .ne 12, 3, 58, 0, 0, 0) := rfl
theorem fX3_rankOf_49 : fetch tX3_rankOf 49 = some (.iload_n 3, 1, 3, 0, 0, 0) := rfl
theorem fX3_rankOf_50 : fetch tX3_rankOf 50 = some (.iload_n 1, 1, 1, 0, 0, 0) := rfl
theorem fX3_rankOf_51 : fetch tX3_rankOf 51 = some (.if_icmp .ge 7, 3, 58, 0, 0, 0) := rfl
theorem fX3_rankOf_54 : fetch tX3_rankOf 54 = some (.iconst 1, 1, 0, 0, 1, 0) := rfl
theorem fX3_rankOf_55 : fetch tX3_rankOf 55 = some (.goto 4, 3, 59, 0, 0, 0) := rfl
theorem fX3_rankOf_58 : fetch tX3_rankOf 58 = some (.iconst 0, 1, 0, 0, 0, 0) := rfl
theorem fX3_rankOf_59 : fetch tX3_rankOf 59 = some (.istore 5, 2, 5, 0, 0, 0) := rfl
theorem fX3_rankOf_61 : fetch tX3_rankOf 61 = some (.iload 4, 2, 4, 0, 0, 0) := rfl
theorem fX3_rankOf_63 : fetch tX3_rankOf 63 = some (.ifCond .ne 8, 3, 71, 0, 0, 0) := rfl
theorem fX3_rankOf_66 : fetch tX3_rankOf 66 = some (.iload 5, 2, 5, 0, 0, 0) := rfl
theorem fX3_rankOf_68 : fetch tX3_rankOf 68 = some (.ifCond .eq 6, 3, 74, 0, 0, 0) := rfl
theorem fX3_rankOf_71 : fetch tX3_rankOf 71 = some (.iinc 2 1, 3, 2, 0, 1, 0) := rfl
theorem fX3_rankOf_74 : fetch tX3_rankOf 74 = some (.iinc 3 1, 3, 3, 0, 1, 0) := rfl
theorem fX3_rankOf_77 : fetch tX3_rankOf 77 = some (.goto (-73), 3, 4, 0, 0, 0) := rfl
theorem fX3_rankOf_80 : fetch tX3_rankOf 80 = some (.iload_n 2, 1, 2, 0, 0, 0) := rfl
theorem fX3_rankOf_81 : fetch tX3_rankOf 81 = some (.ireturn, 1, 0, 0, 0, 0) := rfl
def tJ13_bitCount_95d88 : List (Nat × TE) := [(0, .lload_n 0, 1, 0, 0, 0, 0), (1, .lload_n 0, 1, 0, 0, 0, 0), (2, .iconst 1, 1, 0, 0, 1, 0), (3, .lushr, 1, 0, 0, 0, 0), (4, .ldc2_w 314, 3, 0, 0, 0, 6148914691236517205), (7, .land, 1, 0, 0, 0, 0), (8, .lsub, 1, 0, 0, 0, 0), (9, .lstore_n 0, 1, 0, 0, 0, 0), (10, .lload_n 0, 1, 0, 0, 0, 0), (11, .ldc2_w 316, 3, 0, 0, 0, 3689348814741910323), (14, .land, 1, 0, 0, 0, 0), (15, .lload_n 0, 1, 0, 0, 0, 0), (16, .iconst 2, 1, 0, 0, 2, 0), (17, .lushr, 1, 0, 0, 0, 0), (18, .ldc2_w 316, 3, 0, 0, 0, 3689348814741910323), (21, .land, 1, 0, 0, 0, 0), (22, .ladd, 1, 0, 0, 0, 0), (23, .lstore_n 0, 1, 0, 0, 0, 0), (24, .lload_n 0, 1, 0, 0, 0, 0), (25, .lload_n 0, 1, 0, 0, 0, 0), (26, .iconst 4, 1, 0, 0, 4, 0), (27, .lushr, 1, 0, 0, 0, 0), (28, .ladd, 1, 0, 0, 0, 0), (29, .ldc2_w 318, 3, 0, 0, 0, 1085102592571150095), (32, .land, 1, 0, 0, 0, 0), (33, .lstore_n 0, 1, 0, 0, 0, 0), (34, .lload_n 0, 1, 0, 0, 0, 0), (35, .lload_n 0, 1, 0, 0, 0, 0), (36, .bipush 8, 2, 0, 0, 8, 0), (38, .lushr, 1, 0, 0, 0, 0), (39, .ladd, 1, 0, 0, 0, 0), (40, .lstore_n 0, 1, 0, 0, 0, 0), (41, .lload_n 0, 1, 0, 0, 0, 0), (42, .lload_n 0, 1, 0, 0, 0, 0), (43, .bipush 16, 2, 0, 0, 16, 0), (45, .lushr, 1, 0, 0, 0, 0), (46, .ladd, 1, 0, 0, 0, 0), (47, .lstore_n 0, 1, 0, 0, 0, 0), (48, .lload_n 0, 1, 0, 0, 0, 0), (49, .lload_n 0, 1, 0, 0, 0, 0), (50, .bipush 32, 2, 0, 0, 32, 0), (52, .lushr, 1, 0, 0, 0, 0), (53, .ladd, 1, 0, 0, 0, 0), (54, .lstore_n 0, 1, 0, 0, 0, 0), (55, .lload_n 0, 1, 0, 0, 0, 0), (56, .l2i, 1, 0, 0, 0, 0), (57, .bipush 127, 2, 0, 0, 127, 0), (59, .iand, 1, 0, 0, 0, 0), (60, .ireturn, 1, 0, 0, 0, 0)]
theorem tkJ13_bitCount_95d88 : tOk cJ13_bitCount_95d88 "java/lang/Long" 2 tJ13_bitCount_95d88 = true := by decide +kernel
theorem fJ13_bitCount_95d88_0 : fetch tJ13_bitCount_95d88 0 = some (.lload_n 0, 1, 0, 0, 0, 0) := rfl
theorem fJ13_bitCount_95d88_1 : fetch tJ13_bitCount_95d88 1 = some (.lload_n 0, 1, 0, 0, 0, 0) := rfl
theorem fJ13_bitCount_95d88_2 : fetch tJ13_bitCount_95d88 2 = some (.iconst 1, 1, 0, 0, 1, 0) := rfl
theorem fJ13_bitCount_95d88_3 : fetch tJ13_bitCount_95d88 3 = some (.lushr, 1, 0, 0, 0, 0) := rfl
theorem fJ13_bitCount_95d88_4 : fetch tJ13_bitCount_95d88 4 = some (.ldc2_w 314, 3, 0, 0, 0, 6148914691236517205) := rfl
theorem fJ13_bitCount_95d88_7 : fetch tJ13_bitCount_95d88 7 = some (.land, 1, 0, 0, 0, 0) := rfl
theorem fJ13_bitCount_95d88_8 : fetch tJ13_bitCount_95d88 8 = some (.lsub, 1, 0, 0, 0, 0) := rfl
theorem fJ13_bitCount_95d88_9 : fetch tJ13_bitCount_95d88 9 = some (.lstore_n 0, 1, 0, 0, 0, 0) := rfl
theorem fJ13_bitCount_95d88_10 : fetch tJ13_bitCount_95d88 10 = some (.lload_n 0, 1, 0, 0, 0, 0) := rfl
theorem fJ13_bitCount_95d88_11 : fetch tJ13_bitCount_95d88 11 = some (.ldc2_w 316, 3, 0, 0, 0, 3689348814741910323) := rfl
theorem fJ13_bitCount_95d88_14 : fetch tJ13_bitCount_95d88 14 = some (.land, 1, 0, 0, 0, 0) := rfl
theorem fJ13_bitCount_95d88_15 : fetch tJ13_bitCount_95d88 15 = some (.lload_n 0, 1, 0, 0, 0, 0) := rfl
theorem fJ13_bitCount_95d88_16 : fetch tJ13_bitCount_95d88 16 = some (.iconst 2, 1, 0, 0, 2, 0) := rfl
theorem fJ13_bitCount_95d88_17 : fetch tJ13_bitCount_95d88 17 = some (.lushr, 1, 0, 0, 0, 0) := rfl
theorem fJ13_bitCount_95d88_18 : fetch tJ13_bitCount_95d88 18 = some (.ldc2_w 316, 3, 0, 0, 0, 3689348814741910323) := rfl
theorem fJ13_bitCount_95d88_21 : fetch tJ13_bitCount_95d88 21 = some (.land, 1, 0, 0, 0, 0) := rfl
theorem fJ13_bitCount_95d88_22 : fetch tJ13_bitCount_95d88 22 = some (.ladd, 1, 0, 0, 0, 0) := rfl
theorem fJ13_bitCount_95d88_23 : fetch tJ13_bitCount_95d88 23 = some (.lstore_n 0, 1, 0, 0, 0, 0) := rfl
theorem fJ13_bitCount_95d88_24 : fetch tJ13_bitCount_95d88 24 = some (.lload_n 0, 1, 0, 0, 0, 0) := rfl
theorem fJ13_bitCount_95d88_25 : fetch tJ13_bitCount_95d88 25 = some (.lload_n 0, 1, 0, 0, 0, 0) := rfl
theorem fJ13_bitCount_95d88_26 : fetch tJ13_bitCount_95d88 26 = some (.iconst 4, 1, 0, 0, 4, 0) := rfl
theorem fJ13_bitCount_95d88_27 : fetch tJ13_bitCount_95d88 27 = some (.lushr, 1, 0, 0, 0, 0) := rfl
theorem fJ13_bitCount_95d88_28 : fetch tJ13_bitCount_95d88 28 = some (.ladd, 1, 0, 0, 0, 0) := rfl
theorem fJ13_bitCount_95d88_29 : fetch tJ13_bitCount_95d88 29 = some (.ldc2_w 318, 3, 0, 0, 0, 1085102592571150095) := rfl
theorem fJ13_bitCount_95d88_32 : fetch tJ13_bitCount_95d88 32 = some (.land, 1, 0, 0, 0, 0) := rfl
theorem fJ13_bitCount_95d88_33 : fetch tJ13_bitCount_95d88 33 = some (.lstore_n 0, 1, 0, 0, 0, 0) := rfl
theorem fJ13_bitCount_95d88_34 : fetch tJ13_bitCount_95d88 34 = some (.lload_n 0, 1, 0, 0, 0, 0) := rfl
theorem fJ13_bitCount_95d88_35 : fetch tJ13_bitCount_95d88 35 = some (.lload_n 0, 1, 0, 0, 0, 0) := rfl
theorem fJ13_bitCount_95d88_36 : fetch tJ13_bitCount_95d88 36 = some (.bipush 8, 2, 0, 0, 8, 0) := rfl
theorem fJ13_bitCount_95d88_38 : fetch tJ13_bitCount_95d88 38 = some (.lushr, 1, 0, 0, 0, 0) := rfl
theorem fJ13_bitCount_95d88_39 : fetch tJ13_bitCount_95d88 39 = some (.ladd, 1, 0, 0, 0, 0) := rfl
theorem fJ13_bitCount_95d88_40 : fetch tJ13_bitCount_95d88 40 = some (.lstore_n 0, 1, 0, 0, 0, 0) := rfl
theorem fJ13_bitCount_95d88_41 : fetch tJ13_bitCount_95d88 41 = some (.lload_n 0, 1, 0, 0, 0, 0) := rfl
theorem fJ13_bitCount_95d88_42 : fetch tJ13_bitCount_95d88 42 = some (.lload_n 0, 1, 0, 0, 0, 0) := rfl
theorem fJ13_bitCount_95d88_43 : fetch tJ13_bitCount_95d88 43 = some (.bipush 16, 2, 0, 0, 16, 0) := rfl
theorem fJ13_bitCount_95d88_45 : fetch tJ13_bitCount_95d88 45 = some (.lushr, 1, 0, 0, 0, 0) := rfl
theorem fJ13_bitCount_95d88_46 : fetch tJ13_bitCount_95d88 46 = some (.ladd, 1, 0, 0, 0, 0) := rfl
theorem fJ13_bitCount_95d88_47 : fetch tJ13_bitCount_95d88 47 = some (.lstore_n 0, 1, 0, 0, 0, 0) := rfl
theorem fJ13_bitCount_95d88_48 : fetch tJ13_bitCount_95d88 48 = some (.lload_n 0, 1, 0, 0, 0, 0) := rfl
theorem fJ13_bitCount_95d88_49 : fetch tJ13_bitCount_95d88 49 = some (.lload_n 0, 1, 0, 0, 0, 0) := rfl
theorem fJ13_bitCount_95d88_50 : fetch tJ13_bitCount_95d88 50 = some (.bipush 32, 2, 0, 0, 32, 0) := rfl
theorem fJ13_bitCount_95d88_52 : fetch tJ13_bitCount_95d88 52 = some (.lushr, 1, 0, 0, 0, 0) := rfl
theorem fJ13_bitCount_95d88_53 : fetch tJ13_bitCount_95d88 53 = some (.ladd, 1, 0, 0, 0, 0) := rfl
theorem fJ13_bitCount_95d88_54 : fetch tJ13_bitCount_95d88 54 = some (.lstore_n 0, 1, 0, 0, 0, 0) := rfl
theorem fJ13_bitCount_95d88_55 : fetch tJ13_bitCount_95d88 55 = some (.lload_n 0, 1, 0, 0, 0, 0) := rfl
theorem fJ13_bitCount_95d88_56 : fetch tJ13_bitCount_95d88 56 = some (.l2i, 1, 0, 0, 0, 0) := rfl
theorem fJ13_bitCount_95d88_57 : fetch tJ13_bitCount_95d88 57 = some (.bipush 127, 2, 0, 0, 127, 0) := rfl
theorem fJ13_bitCount_95d88_59 : fetch tJ13_bitCount_95d88 59 = some (.iand, 1, 0, 0, 0, 0) := rfl
theorem fJ13_bitCount_95d88_60 : fetch tJ13_bitCount_95d88 60 = some (.ireturn, 1, 0, 0, 0, 0) := rfl
end TABS
