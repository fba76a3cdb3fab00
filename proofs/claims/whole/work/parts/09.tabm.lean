section TABM
def tX4_in : List (Nat × TE) := [(0, .iload_n 0, 1, 0, 0, 0, 0), (1, .iload_n 1, 1, 1, 0, 0, 0), (2, .if_icmp .lt 12, 3, 14, 0, 0, 0), (5, .iload_n 0, 1, 0, 0, 0, 0), (6, .iload_n 2, 1, 2, 0, 0, 0), (7, .if_icmp .gt 7, 3, 14, 0, 0, 0), (10, .iconst 1, 1, 0, 0, 1, 0), (11, .goto 4, 3, 15, 0, 0, 0), (14, .iconst 0, 1, 0, 0, 0, 0), (15, .ireturn, 1, 0, 0, 0, 0)]
theorem tkX4_in : tOk cX4_in "RumourSourceModel" 3 tX4_in = true := by decide +kernel
theorem fX4_in_0 : fetch tX4_in 0 = some (.iload_n 0, 1, 0, 0, 0, 0) := rfl
theorem fX4_in_1 : fetch tX4_in 1 = some (.iload_n 1, 1, 1, 0, 0, 0) := rfl
theorem fX4_in_2 : fetch tX4_in 2 = some (.if_icmp .lt 12, 3, 14, 0, 0, 0) := rfl
theorem fX4_in_5 : fetch tX4_in 5 = some (.iload_n 0, 1, 0, 0, 0, 0) := rfl
theorem fX4_in_6 : fetch tX4_in 6 = some (.iload_n 2, 1, 2, 0, 0, 0) := rfl
theorem fX4_in_7 : fetch tX4_in 7 = some (.if_icmp .gt 7, 3, 14, 0, 0, 0) := rfl
theorem fX4_in_10 : fetch tX4_in 10 = some (.iconst 1, 1, 0, 0, 1, 0) := rfl
theorem fX4_in_11 : fetch tX4_in 11 = some (.goto 4, 3, 15, 0, 0, 0) := rfl
theorem fX4_in_14 : fetch tX4_in 14 = some (.iconst 0, 1, 0, 0, 0, 0) := rfl
theorem fX4_in_15 : fetch tX4_in 15 = some (.ireturn, 1, 0, 0, 0, 0) := rfl
def tX4_copies : List (Nat × TE) := [(0, .iconst 0, 1, 0, 0, 0, 0), (1, .istore_n 3, 1, 3, 0, 0, 0), (2, .iload_n 3, 1, 3, 0, 0, 0), (3, .bipush 59, 2, 0, 0, 59, 0), (5, .if_icmp .ge 31, 3, 36, 0, 0, 0), (8, .aload_n 0, 1, 0, 0, 0, 0), (9, .getfield 7, 3, 4, 0, 0, 0), (12, .bipush 59, 2, 0, 0, 59, 0), (14, .iload_n 2, 1, 2, 0, 0, 0), (15, .imul, 1, 0, 0, 0, 0), (16, .iload_n 3, 1, 3, 0, 0, 0), (17, .iadd, 1, 0, 0, 0, 0), (18, .aload_n 0, 1, 0, 0, 0, 0), (19, .getfield 7, 3, 4, 0, 0, 0), (22, .bipush 59, 2, 0, 0, 59, 0), (24, .iload_n 1, 1, 1, 0, 0, 0), (25, .imul, 1, 0, 0, 0, 0), (26, .iload_n 3, 1, 3, 0, 0, 0), (27, .iadd, 1, 0, 0, 0, 0), (28, .iaload, 1, 0, 0, 0, 0), (29, .iastore, 1, 0, 0, 0, 0), (30, .iinc 3 1, 3, 3, 0, 1, 0), (33, .goto (-31), 3, 2, 0, 0, 0), (36, .return_, 1, 0, 0, 0, 0)]
theorem tkX4_copies : tOk cX4_copies "RumourSourceModel" 4 tX4_copies = true := by decide +kernel
theorem fX4_copies_0 : fetch tX4_copies 0 = some (.iconst 0, 1, 0, 0, 0, 0) := rfl
theorem fX4_copies_1 : fetch tX4_copies 1 = some (.istore_n 3, 1, 3, 0, 0, 0) := rfl
theorem fX4_copies_2 : fetch tX4_copies 2 = some (.iload_n 3, 1, 3, 0, 0, 0) := rfl
theorem fX4_copies_3 : fetch tX4_copies 3 = some (.bipush 59, 2, 0, 0, 59, 0) := rfl
theorem fX4_copies_5 : fetch tX4_copies 5 = some (.if_icmp .ge 31, 3, 36, 0, 0, 0) := rfl
theorem fX4_copies_8 : fetch tX4_copies 8 = some (.aload_n 0, 1, 0, 0, 0, 0) := rfl
theorem fX4_copies_9 : fetch tX4_copies 9 = some (.getfield 7, 3, 4, 0, 0, 0) := rfl
theorem fX4_copies_12 : fetch tX4_copies 12 = some (.bipush 59, 2, 0, 0, 59, 0) := rfl
theorem fX4_copies_14 : fetch tX4_copies 14 = some (.iload_n 2, 1, 2, 0, 0, 0) := rfl
theorem fX4_copies_15 : fetch tX4_copies 15 = some (.imul, 1, 0, 0, 0, 0) := rfl
theorem fX4_copies_16 : fetch tX4_copies 16 = some (.iload_n 3, 1, 3, 0, 0, 0) := rfl
theorem fX4_copies_17 : fetch tX4_copies 17 = some (.iadd, 1, 0, 0, 0, 0) := rfl
theorem fX4_copies_18 : fetch tX4_copies 18 = some (.aload_n 0, 1, 0, 0, 0, 0) := rfl
theorem fX4_copies_19 : fetch tX4_copies 19 = some (.getfield 7, 3, 4, 0, 0, 0) := rfl
theorem fX4_copies_22 : fetch tX4_copies 22 = some (.bipush 59, 2, 0, 0, 59, 0) := rfl
theorem fX4_copies_24 : fetch tX4_copies 24 = some (.iload_n 1, 1, 1, 0, 0, 0) := rfl
theorem fX4_copies_25 : fetch tX4_copies 25 = some (.imul, 1, 0, 0, 0, 0) := rfl
theorem fX4_copies_26 : fetch tX4_copies 26 = some (.iload_n 3, 1, 3, 0, 0, 0) := rfl
theorem fX4_copies_27 : fetch tX4_copies 27 = some (.iadd, 1, 0, 0, 0, 0) := rfl
theorem fX4_copies_28 : fetch tX4_copies 28 = some (.iaload, 1, 0, 0, 0, 0) := rfl
theorem fX4_copies_29 : fetch tX4_copies 29 = some (.iastore, 1, 0, 0, 0, 0) := rfl
theorem fX4_copies_30 : fetch tX4_copies 30 = some (.iinc 3 1, 3, 3, 0, 1, 0) := rfl
theorem fX4_copies_33 : fetch tX4_copies 33 = some (.goto (-31), 3, 2, 0, 0, 0) := rfl
theorem fX4_copies_36 : fetch tX4_copies 36 = some (.return_, 1, 0, 0, 0, 0) := rfl
def tX4_saves : List (Nat × TE) := [(0, .iconst 1, 1, 0, 0, 1, 0), (1, .istore_n 1, 1, 1, 0, 0, 0), (2, .iload_n 1, 1, 1, 0, 0, 0), (3, .iconst 5, 1, 0, 0, 5, 0), (4, .if_icmp .ge 25, 3, 29, 0, 0, 0), (7, .aload_n 0, 1, 0, 0, 0, 0), (8, .getfield 30, 3, 4, 1, 0, 0), (11, .iconst 5, 1, 0, 0, 5, 0), (12, .if_icmp .ne 17, 3, 29, 0, 0, 0), (15, .aload_n 0, 1, 0, 0, 0, 0), (16, .iload_n 1, 1, 1, 0, 0, 0), (17, .iconst 1, 1, 0, 0, 1, 0), (18, .iadd, 1, 0, 0, 0, 0), (19, .iload_n 1, 1, 1, 0, 0, 0), (20, .invokevirtual 34, 3, 0, 4, 0, 0), (23, .iinc 1 1, 3, 1, 0, 1, 0), (26, .goto (-24), 3, 2, 0, 0, 0), (29, .aload_n 0, 1, 0, 0, 0, 0), (30, .dup, 1, 0, 0, 0, 0), (31, .getfield 30, 3, 4, 1, 0, 0), (34, .aload_n 0, 1, 0, 0, 0, 0), (35, .getfield 30, 3, 4, 1, 0, 0), (38, .iconst 5, 1, 0, 0, 5, 0), (39, .if_icmp .ne 7, 3, 46, 0, 0, 0), (42, .iconst 1, 1, 0, 0, 1, 0), (43, .goto 4, 3, 47, 0, 0, 0), (46, .iconst 0, 1, 0, 0, 0, 0), (47, .isub, 1, 0, 0, 0, 0), (48, .putfield 30, 3, 4, 1, 0, 0), (51, .aload_n 0, 1, 0, 0, 0, 0), (52, .dup, 1, 0, 0, 0, 0), (53, .getfield 30, 3, 4, 1, 0, 0), (56, .iconst 1, 1, 0, 0, 1, 0), (57, .iadd, 1, 0, 0, 0, 0), (58, .putfield 30, 3, 4, 1, 0, 0), (61, .aload_n 0, 1, 0, 0, 0, 0), (62, .iconst 0, 1, 0, 0, 0, 0), (63, .aload_n 0, 1, 0, 0, 0, 0), (64, .getfield 30, 3, 4, 1, 0, 0), (67, .invokevirtual 34, 3, 0, 4, 0, 0), (70, .aload_n 0, 1, 0, 0, 0, 0), (71, .iconst 0, 1, 0, 0, 0, 0), (72, .putfield 38, 3, 4, 2, 0, 0), (75, .return_, 1, 0, 0, 0, 0)]
theorem tkX4_saves : tOk cX4_saves "RumourSourceModel" 2 tX4_saves = true := by decide +kernel
theorem fX4_saves_0 : fetch tX4_saves 0 = some (.iconst 1, 1, 0, 0, 1, 0) := rfl
theorem fX4_saves_1 : fetch tX4_saves 1 = some (.istore_n 1, 1, 1, 0, 0, 0) := rfl
theorem fX4_saves_2 : fetch tX4_saves 2 = some (.iload_n 1, 1, 1, 0, 0, 0) := rfl
theorem fX4_saves_3 : fetch tX4_saves 3 = some (.iconst 5, 1, 0, 0, 5, 0) := rfl
theorem fX4_saves_4 : fetch tX4_saves 4 = some (.if_icmp .ge 25, 3, 29, 0, 0, 0) := rfl
theorem fX4_saves_7 : fetch tX4_saves 7 = some (.aload_n 0, 1, 0, 0, 0, 0) := rfl
theorem fX4_saves_8 : fetch tX4_saves 8 = some (.getfield 30, 3, 4, 1, 0, 0) := rfl
theorem fX4_saves_11 : fetch tX4_saves 11 = some (.iconst 5, 1, 0, 0, 5, 0) := rfl
theorem fX4_saves_12 : fetch tX4_saves 12 = some (.if_icmp .ne 17, 3, 29, 0, 0, 0) := rfl
theorem fX4_saves_15 : fetch tX4_saves 15 = some (.aload_n 0, 1, 0, 0, 0, 0) := rfl
theorem fX4_saves_16 : fetch tX4_saves 16 = some (.iload_n 1, 1, 1, 0, 0, 0) := rfl
theorem fX4_saves_17 : fetch tX4_saves 17 = some (.iconst 1, 1, 0, 0, 1, 0) := rfl
theorem fX4_saves_18 : fetch tX4_saves 18 = some (.iadd, 1, 0, 0, 0, 0) := rfl
theorem fX4_saves_19 : fetch tX4_saves 19 = some (.iload_n 1, 1, 1, 0, 0, 0) := rfl
theorem fX4_saves_20 : fetch tX4_saves 20 = some (.invokevirtual 34, 3, 0, 4, 0, 0) := rfl
theorem fX4_saves_23 : fetch tX4_saves 23 = some (.iinc 1 1, 3, 1, 0, 1, 0) := rfl
theorem fX4_saves_26 : fetch tX4_saves 26 = some (.goto (-24), 3, 2, 0, 0, 0) := rfl
theorem fX4_saves_29 : fetch tX4_saves 29 = some (.aload_n 0, 1, 0, 0, 0, 0) := rfl
theorem fX4_saves_30 : fetch tX4_saves 30 = some (.dup, 1, 0, 0, 0, 0) := rfl
theorem fX4_saves_31 : fetch tX4_saves 31 = some (.getfield 30, 3, 4, 1, 0, 0) := rfl
theorem fX4_saves_34 : fetch tX4_saves 34 = some (.aload_n 0, 1, 0, 0, 0, 0) := rfl
theorem fX4_saves_35 : fetch tX4_saves 35 = some (.getfield 30, 3, 4, 1, 0, 0) := rfl
theorem fX4_saves_38 : fetch tX4_saves 38 = some (.iconst 5, 1, 0, 0, 5, 0) := rfl
theorem fX4_saves_39 : fetch tX4_saves 39 = some (.if_icmp .ne 7, 3, 46, 0, 0, 0) := rfl
theorem fX4_saves_42 : fetch tX4_saves 42 = some (.iconst 1, 1, 0, 0, 1, 0) := rfl
theorem fX4_saves_43 : fetch tX4_saves 43 = some (.goto 4, 3, 47, 0, 0, 0) := rfl
theorem fX4_saves_46 : fetch tX4_saves 46 = some (.iconst 0, 1, 0, 0, 0, 0) := rfl
theorem fX4_saves_47 : fetch tX4_saves 47 = some (.isub, 1, 0, 0, 0, 0) := rfl
theorem fX4_saves_48 : fetch tX4_saves 48 = some (.putfield 30, 3, 4, 1, 0, 0) := rfl
theorem fX4_saves_51 : fetch tX4_saves 51 = some (.aload_n 0, 1, 0, 0, 0, 0) := rfl
theorem fX4_saves_52 : fetch tX4_saves 52 = some (.dup, 1, 0, 0, 0, 0) := rfl
theorem fX4_saves_53 : fetch tX4_saves 53 = some (.getfield 30, 3, 4, 1, 0, 0) := rfl
theorem fX4_saves_56 : fetch tX4_saves 56 = some (.iconst 1, 1, 0, 0, 1, 0) := rfl
theorem fX4_saves_57 : fetch tX4_saves 57 = some (.iadd, 1, 0, 0, 0, 0) := rfl
theorem fX4_saves_58 : fetch tX4_saves 58 = some (.putfield 30, 3, 4, 1, 0, 0) := rfl
theorem fX4_saves_61 : fetch tX4_saves 61 = some (.aload_n 0, 1, 0, 0, 0, 0) := rfl
theorem fX4_saves_62 : fetch tX4_saves 62 = some (.iconst 0, 1, 0, 0, 0, 0) := rfl
theorem fX4_saves_63 : fetch tX4_saves 63 = some (.aload_n 0, 1, 0, 0, 0, 0) := rfl
theorem fX4_saves_64 : fetch tX4_saves 64 = some (.getfield 30, 3, 4, 1, 0, 0) := rfl
theorem fX4_saves_67 : fetch tX4_saves 67 = some (.invokevirtual 34, 3, 0, 4, 0, 0) := rfl
theorem fX4_saves_70 : fetch tX4_saves 70 = some (.aload_n 0, 1, 0, 0, 0, 0) := rfl
theorem fX4_saves_71 : fetch tX4_saves 71 = some (.iconst 0, 1, 0, 0, 0, 0) := rfl
theorem fX4_saves_72 : fetch tX4_saves 72 = some (.putfield 38, 3, 4, 2, 0, 0) := rfl
theorem fX4_saves_75 : fetch tX4_saves 75 = some (.return_, 1, 0, 0, 0, 0) := rfl
def tX4_isNode : List (Nat × TE) := [(0, .iload_n 0, 1, 0, 0, 0, 0), (1, .iconst 0, 1, 0, 0, 0, 0), (2, .bipush 7, 2, 0, 0, 7, 0), (4, .invokestatic 42, 3, 0, 4, 0, 0), (7, .ireturn, 1, 0, 0, 0, 0)]
theorem tkX4_isNode : tOk cX4_isNode "RumourSourceModel" 1 tX4_isNode = true := by decide +kernel
theorem fX4_isNode_0 : fetch tX4_isNode 0 = some (.iload_n 0, 1, 0, 0, 0, 0) := rfl
theorem fX4_isNode_1 : fetch tX4_isNode 1 = some (.iconst 0, 1, 0, 0, 0, 0) := rfl
theorem fX4_isNode_2 : fetch tX4_isNode 2 = some (.bipush 7, 2, 0, 0, 7, 0) := rfl
theorem fX4_isNode_4 : fetch tX4_isNode 4 = some (.invokestatic 42, 3, 0, 4, 0, 0) := rfl
theorem fX4_isNode_7 : fetch tX4_isNode 7 = some (.ireturn, 1, 0, 0, 0, 0) := rfl
def tX4_isEdge : List (Nat × TE) := [(0, .iload_n 1, 1, 1, 0, 0, 0), (1, .iconst 0, 1, 0, 0, 0, 0), (2, .aload_n 0, 1, 0, 0, 0, 0), (3, .getfield 7, 3, 4, 0, 0, 0), (6, .iconst 0, 1, 0, 0, 0, 0), (7, .iaload, 1, 0, 0, 0, 0), (8, .iconst 1, 1, 0, 0, 1, 0), (9, .isub, 1, 0, 0, 0, 0), (10, .invokestatic 42, 3, 0, 4, 0, 0), (13, .ireturn, 1, 0, 0, 0, 0)]
theorem tkX4_isEdge : tOk cX4_isEdge "RumourSourceModel" 2 tX4_isEdge = true := by decide +kernel
theorem fX4_isEdge_0 : fetch tX4_isEdge 0 = some (.iload_n 1, 1, 1, 0, 0, 0) := rfl
theorem fX4_isEdge_1 : fetch tX4_isEdge 1 = some (.iconst 0, 1, 0, 0, 0, 0) := rfl
theorem fX4_isEdge_2 : fetch tX4_isEdge 2 = some (.aload_n 0, 1, 0, 0, 0, 0) := rfl
theorem fX4_isEdge_3 : fetch tX4_isEdge 3 = some (.getfield 7, 3, 4, 0, 0, 0) := rfl
theorem fX4_isEdge_6 : fetch tX4_isEdge 6 = some (.iconst 0, 1, 0, 0, 0, 0) := rfl
theorem fX4_isEdge_7 : fetch tX4_isEdge 7 = some (.iaload, 1, 0, 0, 0, 0) := rfl
theorem fX4_isEdge_8 : fetch tX4_isEdge 8 = some (.iconst 1, 1, 0, 0, 1, 0) := rfl
theorem fX4_isEdge_9 : fetch tX4_isEdge 9 = some (.isub, 1, 0, 0, 0, 0) := rfl
theorem fX4_isEdge_10 : fetch tX4_isEdge 10 = some (.invokestatic 42, 3, 0, 4, 0, 0) := rfl
theorem fX4_isEdge_13 : fetch tX4_isEdge 13 = some (.ireturn, 1, 0, 0, 0, 0) := rfl
def tX4_of : List (Nat × TE) := [(0, .aload_n 0, 1, 0, 0, 0, 0), (1, .getfield 7, 3, 4, 0, 0, 0), (4, .iconst 3, 1, 0, 0, 3, 0), (5, .iconst 4, 1, 0, 0, 4, 0), (6, .iload_n 1, 1, 1, 0, 0, 0), (7, .imul, 1, 0, 0, 0, 0), (8, .iadd, 1, 0, 0, 0, 0), (9, .iload_n 2, 1, 2, 0, 0, 0), (10, .iadd, 1, 0, 0, 0, 0), (11, .iaload, 1, 0, 0, 0, 0), (12, .ireturn, 1, 0, 0, 0, 0)]
theorem tkX4_of : tOk cX4_of "RumourSourceModel" 3 tX4_of = true := by decide +kernel
theorem fX4_of_0 : fetch tX4_of 0 = some (.aload_n 0, 1, 0, 0, 0, 0) := rfl
theorem fX4_of_1 : fetch tX4_of 1 = some (.getfield 7, 3, 4, 0, 0, 0) := rfl
theorem fX4_of_4 : fetch tX4_of 4 = some (.iconst 3, 1, 0, 0, 3, 0) := rfl
theorem fX4_of_5 : fetch tX4_of 5 = some (.iconst 4, 1, 0, 0, 4, 0) := rfl
theorem fX4_of_6 : fetch tX4_of 6 = some (.iload_n 1, 1, 1, 0, 0, 0) := rfl
theorem fX4_of_7 : fetch tX4_of 7 = some (.imul, 1, 0, 0, 0, 0) := rfl
theorem fX4_of_8 : fetch tX4_of 8 = some (.iadd, 1, 0, 0, 0, 0) := rfl
theorem fX4_of_9 : fetch tX4_of 9 = some (.iload_n 2, 1, 2, 0, 0, 0) := rfl
theorem fX4_of_10 : fetch tX4_of 10 = some (.iadd, 1, 0, 0, 0, 0) := rfl
theorem fX4_of_11 : fetch tX4_of 11 = some (.iaload, 1, 0, 0, 0, 0) := rfl
theorem fX4_of_12 : fetch tX4_of 12 = some (.ireturn, 1, 0, 0, 0, 0) := rfl
def tX4_between : List (Nat × TE) := [(0, .iconst (-1), 1, 0, 0, (-1), 0), (1, .istore_n 3, 1, 3, 0, 0, 0), (2, .iconst 0, 1, 0, 0, 0, 0), (3, .istore 4, 2, 4, 0, 0, 0), (5, .iload 4, 2, 4, 0, 0, 0), (7, .aload_n 0, 1, 0, 0, 0, 0), (8, .getfield 7, 3, 4, 0, 0, 0), (11, .iconst 0, 1, 0, 0, 0, 0), (12, .iaload, 1, 0, 0, 0, 0), (13, .if_icmp .ge 38, 3, 51, 0, 0, 0), (16, .aload_n 0, 1, 0, 0, 0, 0), (17, .iload 4, 2, 4, 0, 0, 0), (19, .iconst 0, 1, 0, 0, 0, 0), (20, .invokevirtual 46, 3, 0, 4, 0, 0), (23, .iload_n 1, 1, 1, 0, 0, 0), (24, .if_icmp .ne 19, 3, 43, 0, 0, 0), (27, .aload_n 0, 1, 0, 0, 0, 0), (28, .iload 4, 2, 4, 0, 0, 0), (30, .iconst 1, 1, 0, 0, 1, 0), (31, .invokevirtual 46, 3, 0, 4, 0, 0), (34, .iload_n 2, 1, 2, 0, 0, 0), (35, .if_icmp .ne 8, 3, 43, 0, 0, 0), (38, .iload 4, 2, 4, 0, 0, 0), (40, .goto 4, 3, 44, 0, 0, 0), (43, .iload_n 3, 1, 3, 0, 0, 0), (44, .istore_n 3, 1, 3, 0, 0, 0), (45, .iinc 4 1, 3, 4, 0, 1, 0), (48, .goto (-43), 3, 5, 0, 0, 0), (51, .iload_n 3, 1, 3, 0, 0, 0), (52, .ireturn, 1, 0, 0, 0, 0)]
theorem tkX4_between : tOk cX4_between "RumourSourceModel" 5 tX4_between = true := by decide +kernel
theorem fX4_between_0 : fetch tX4_between 0 = some (.iconst (-1), 1, 0, 0, (-1), 0) := rfl
theorem fX4_between_1 : fetch tX4_between 1 = some (.istore_n 3, 1, 3, 0, 0, 0) := rfl
theorem fX4_between_2 : fetch tX4_between 2 = some (.iconst 0, 1, 0, 0, 0, 0) := rfl
theorem fX4_between_3 : fetch tX4_between 3 = some (.istore 4, 2, 4, 0, 0, 0) := rfl
theorem fX4_between_5 : fetch tX4_between 5 = some (.iload 4, 2, 4, 0, 0, 0) := rfl
theorem fX4_between_7 : fetch tX4_between 7 = some (.aload_n 0, 1, 0, 0, 0, 0) := rfl
theorem fX4_between_8 : fetch tX4_between 8 = some (.getfield 7, 3, 4, 0, 0, 0) := rfl
theorem fX4_between_11 : fetch tX4_between 11 = some (.iconst 0, 1, 0, 0, 0, 0) := rfl
theorem fX4_between_12 : fetch tX4_between 12 = some (.iaload, 1, 0, 0, 0, 0) := rfl
theorem fX4_between_13 : fetch tX4_between 13 = some (.if_icmp .ge 38, 3, 51, 0, 0, 0) := rfl
theorem fX4_between_16 : fetch tX4_between 16 = some (.aload_n 0, 1, 0, 0, 0, 0) := rfl
theorem fX4_between_17 : fetch tX4_between 17 = some (.iload 4, 2, 4, 0, 0, 0) := rfl
theorem fX4_between_19 : fetch tX4_between 19 = some (.iconst 0, 1, 0, 0, 0, 0) := rfl
theorem fX4_between_20 : fetch tX4_between 20 = some (.invokevirtual 46, 3, 0, 4, 0, 0) := rfl
theorem fX4_between_23 : fetch tX4_between 23 = some (.iload_n 1, 1, 1, 0, 0, 0) := rfl
theorem fX4_between_24 : fetch tX4_between 24 = some (.if_icmp .ne 19, 3, 43, 0, 0, 0) := rfl
theorem fX4_between_27 : fetch tX4_between 27 = some (.aload_n 0, 1, 0, 0, 0, 0) := rfl
theorem fX4_between_28 : fetch tX4_between 28 = some (.iload 4, 2, 4, 0, 0, 0) := rfl
theorem fX4_between_30 : fetch tX4_between 30 = some (.iconst 1, 1, 0, 0, 1, 0) := rfl
theorem fX4_between_31 : fetch tX4_between 31 = some (.invokevirtual 46, 3, 0, 4, 0, 0) := rfl
theorem fX4_between_34 : fetch tX4_between 34 = some (.iload_n 2, 1, 2, 0, 0, 0) := rfl
theorem fX4_between_35 : fetch tX4_between 35 = some (.if_icmp .ne 8, 3, 43, 0, 0, 0) := rfl
theorem fX4_between_38 : fetch tX4_between 38 = some (.iload 4, 2, 4, 0, 0, 0) := rfl
theorem fX4_between_40 : fetch tX4_between 40 = some (.goto 4, 3, 44, 0, 0, 0) := rfl
theorem fX4_between_43 : fetch tX4_between 43 = some (.iload_n 3, 1, 3, 0, 0, 0) := rfl
theorem fX4_between_44 : fetch tX4_between 44 = some (.istore_n 3, 1, 3, 0, 0, 0) := rfl
theorem fX4_between_45 : fetch tX4_between 45 = some (.iinc 4 1, 3, 4, 0, 1, 0) := rfl
theorem fX4_between_48 : fetch tX4_between 48 = some (.goto (-43), 3, 5, 0, 0, 0) := rfl
theorem fX4_between_51 : fetch tX4_between 51 = some (.iload_n 3, 1, 3, 0, 0, 0) := rfl
theorem fX4_between_52 : fetch tX4_between 52 = some (.ireturn, 1, 0, 0, 0, 0) := rfl
def tX4_lays : List (Nat × TE) := [(0, .aload_n 0, 1, 0, 0, 0, 0), (1, .getfield 7, 3, 4, 0, 0, 0), (4, .iconst 3, 1, 0, 0, 3, 0), (5, .iconst 4, 1, 0, 0, 4, 0), (6, .iload_n 1, 1, 1, 0, 0, 0), (7, .imul, 1, 0, 0, 0, 0), (8, .iadd, 1, 0, 0, 0, 0), (9, .iload_n 2, 1, 2, 0, 0, 0), (10, .iastore, 1, 0, 0, 0, 0), (11, .aload_n 0, 1, 0, 0, 0, 0), (12, .getfield 7, 3, 4, 0, 0, 0), (15, .iconst 3, 1, 0, 0, 3, 0), (16, .iconst 4, 1, 0, 0, 4, 0), (17, .iload_n 1, 1, 1, 0, 0, 0), (18, .imul, 1, 0, 0, 0, 0), (19, .iadd, 1, 0, 0, 0, 0), (20, .iconst 1, 1, 0, 0, 1, 0), (21, .iadd, 1, 0, 0, 0, 0), (22, .iload_n 3, 1, 3, 0, 0, 0), (23, .iastore, 1, 0, 0, 0, 0), (24, .aload_n 0, 1, 0, 0, 0, 0), (25, .getfield 7, 3, 4, 0, 0, 0), (28, .iconst 3, 1, 0, 0, 3, 0), (29, .iconst 4, 1, 0, 0, 4, 0), (30, .iload_n 1, 1, 1, 0, 0, 0), (31, .imul, 1, 0, 0, 0, 0), (32, .iadd, 1, 0, 0, 0, 0), (33, .iconst 2, 1, 0, 0, 2, 0), (34, .iadd, 1, 0, 0, 0, 0), (35, .iload 4, 2, 4, 0, 0, 0), (37, .iastore, 1, 0, 0, 0, 0), (38, .aload_n 0, 1, 0, 0, 0, 0), (39, .getfield 7, 3, 4, 0, 0, 0), (42, .iconst 3, 1, 0, 0, 3, 0), (43, .iconst 4, 1, 0, 0, 4, 0), (44, .iload_n 1, 1, 1, 0, 0, 0), (45, .imul, 1, 0, 0, 0, 0), (46, .iadd, 1, 0, 0, 0, 0), (47, .iconst 3, 1, 0, 0, 3, 0), (48, .iadd, 1, 0, 0, 0, 0), (49, .iload 5, 2, 5, 0, 0, 0), (51, .iastore, 1, 0, 0, 0, 0), (52, .return_, 1, 0, 0, 0, 0)]
theorem tkX4_lays : tOk cX4_lays "RumourSourceModel" 6 tX4_lays = true := by decide +kernel
theorem fX4_lays_0 : fetch tX4_lays 0 = some (.aload_n 0, 1, 0, 0, 0, 0) := rfl
theorem fX4_lays_1 : fetch tX4_lays 1 = some (.getfield 7, 3, 4, 0, 0, 0) := rfl
theorem fX4_lays_4 : fetch tX4_lays 4 = some (.iconst 3, 1, 0, 0, 3, 0) := rfl
theorem fX4_lays_5 : fetch tX4_lays 5 = some (.iconst 4, 1, 0, 0, 4, 0) := rfl
theorem fX4_lays_6 : fetch tX4_lays 6 = some (.iload_n 1, 1, 1, 0, 0, 0) := rfl
theorem fX4_lays_7 : fetch tX4_lays 7 = some (.imul, 1, 0, 0, 0, 0) := rfl
theorem fX4_lays_8 : fetch tX4_lays 8 = some (.iadd, 1, 0, 0, 0, 0) := rfl
theorem fX4_lays_9 : fetch tX4_lays 9 = some (.iload_n 2, 1, 2, 0, 0, 0) := rfl
theorem fX4_lays_10 : fetch tX4_lays 10 = some (.iastore, 1, 0, 0, 0, 0) := rfl
theorem fX4_lays_11 : fetch tX4_lays 11 = some (.aload_n 0, 1, 0, 0, 0, 0) := rfl
theorem fX4_lays_12 : fetch tX4_lays 12 = some (.getfield 7, 3, 4, 0, 0, 0) := rfl
theorem fX4_lays_15 : fetch tX4_lays 15 = some (.iconst 3, 1, 0, 0, 3, 0) := rfl
theorem fX4_lays_16 : fetch tX4_lays 16 = some (.iconst 4, 1, 0, 0, 4, 0) := rfl
theorem fX4_lays_17 : fetch tX4_lays 17 = some (.iload_n 1, 1, 1, 0, 0, 0) := rfl
theorem fX4_lays_18 : fetch tX4_lays 18 = some (.imul, 1, 0, 0, 0, 0) := rfl
theorem fX4_lays_19 : fetch tX4_lays 19 = some (.iadd, 1, 0, 0, 0, 0) := rfl
theorem fX4_lays_20 : fetch tX4_lays 20 = some (.iconst 1, 1, 0, 0, 1, 0) := rfl
theorem fX4_lays_21 : fetch tX4_lays 21 = some (.iadd, 1, 0, 0, 0, 0) := rfl
theorem fX4_lays_22 : fetch tX4_lays 22 = some (.iload_n 3, 1, 3, 0, 0, 0) := rfl
theorem fX4_lays_23 : fetch tX4_lays 23 = some (.iastore, 1, 0, 0, 0, 0) := rfl
theorem fX4_lays_24 : fetch tX4_lays 24 = some (.aload_n 0, 1, 0, 0, 0, 0) := rfl
theorem fX4_lays_25 : fetch tX4_lays 25 = some (.getfield 7, 3, 4, 0, 0, 0) := rfl
theorem fX4_lays_28 : fetch tX4_lays 28 = some (.iconst 3, 1, 0, 0, 3, 0) := rfl
theorem fX4_lays_29 : fetch tX4_lays 29 = some (.iconst 4, 1, 0, 0, 4, 0) := rfl
theorem fX4_lays_30 : fetch tX4_lays 30 = some (.iload_n 1, 1, 1, 0, 0, 0) := rfl
theorem fX4_lays_31 : fetch tX4_lays 31 = some (.imul, 1, 0, 0, 0, 0) := rfl
theorem fX4_lays_32 : fetch tX4_lays 32 = some (.iadd, 1, 0, 0, 0, 0) := rfl
theorem fX4_lays_33 : fetch tX4_lays 33 = some (.iconst 2, 1, 0, 0, 2, 0) := rfl
theorem fX4_lays_34 : fetch tX4_lays 34 = some (.iadd, 1, 0, 0, 0, 0) := rfl
theorem fX4_lays_35 : fetch tX4_lays 35 = some (.iload 4, 2, 4, 0, 0, 0) := rfl
theorem fX4_lays_37 : fetch tX4_lays 37 = some (.iastore, 1, 0, 0, 0, 0) := rfl
theorem fX4_lays_38 : fetch tX4_lays 38 = some (.aload_n 0, 1, 0, 0, 0, 0) := rfl
theorem fX4_lays_39 : fetch tX4_lays 39 = some (.getfield 7, 3, 4, 0, 0, 0) := rfl
theorem fX4_lays_42 : fetch tX4_lays 42 = some (.iconst 3, 1, 0, 0, 3, 0) := rfl
theorem fX4_lays_43 : fetch tX4_lays 43 = some (.iconst 4, 1, 0, 0, 4, 0) := rfl
theorem fX4_lays_44 : fetch tX4_lays 44 = some (.iload_n 1, 1, 1, 0, 0, 0) := rfl
theorem fX4_lays_45 : fetch tX4_lays 45 = some (.imul, 1, 0, 0, 0, 0) := rfl
theorem fX4_lays_46 : fetch tX4_lays 46 = some (.iadd, 1, 0, 0, 0, 0) := rfl
theorem fX4_lays_47 : fetch tX4_lays 47 = some (.iconst 3, 1, 0, 0, 3, 0) := rfl
theorem fX4_lays_48 : fetch tX4_lays 48 = some (.iadd, 1, 0, 0, 0, 0) := rfl
theorem fX4_lays_49 : fetch tX4_lays 49 = some (.iload 5, 2, 5, 0, 0, 0) := rfl
theorem fX4_lays_51 : fetch tX4_lays 51 = some (.iastore, 1, 0, 0, 0, 0) := rfl
theorem fX4_lays_52 : fetch tX4_lays 52 = some (.return_, 1, 0, 0, 0, 0) := rfl
def tX4_addEdge : List (Nat × TE) := [(0, .iload_n 1, 1, 1, 0, 0, 0), (1, .invokestatic 50, 3, 0, 4, 0, 0), (4, .ifCond .eq 10, 3, 14, 0, 0, 0), (7, .iload_n 2, 1, 2, 0, 0, 0), (8, .invokestatic 50, 3, 0, 4, 0, 0), (11, .ifCond .ne 6, 3, 17, 0, 0, 0), (14, .bipush (-2), 2, 0, 0, (-2), 0), (16, .ireturn, 1, 0, 0, 0, 0), (17, .iload_n 3, 1, 3, 0, 0, 0), (18, .iconst 0, 1, 0, 0, 0, 0), (19, .bipush 10, 2, 0, 0, 10, 0), (21, .invokestatic 42, 3, 1, 4, 0, 0), (24, .ifCond .eq 18, 3, 42, 0, 0, 0), (27, .iload 4, 2, 4, 0, 0, 0), (29, .iconst 1, 1, 0, 0, 1, 0), (30, .iconst 5, 1, 0, 0, 5, 0), (31, .invokestatic 42, 3, 1, 4, 0, 0), (34, .ifCond .eq 8, 3, 42, 0, 0, 0), (37, .iload_n 1, 1, 1, 0, 0, 0), (38, .iload_n 2, 1, 2, 0, 0, 0), (39, .if_icmp .ne 6, 3, 45, 0, 0, 0), (42, .bipush (-3), 2, 0, 0, (-3), 0), (44, .ireturn, 1, 0, 0, 0, 0), (45, .aload_n 0, 1, 0, 0, 0, 0), (46, .iload_n 1, 1, 1, 0, 0, 0), (47, .iload_n 2, 1, 2, 0, 0, 0), (48, .invokevirtual 54, 3, 2, 4, 0, 0), (51, .iconst (-1), 1, 0, 0, (-1), 0), (52, .if_icmp .eq 6, 3, 58, 0, 0, 0), (55, .bipush (-4), 2, 0, 0, (-4), 0), (57, .ireturn, 1, 0, 0, 0, 0), (58, .aload_n 0, 1, 0, 0, 0, 0), (59, .getfield 7, 3, 4, 0, 0, 0), (62, .iconst 0, 1, 0, 0, 0, 0), (63, .iaload, 1, 0, 0, 0, 0), (64, .bipush 12, 2, 0, 0, 12, 0), (66, .if_icmp .ne 6, 3, 72, 0, 0, 0), (69, .bipush (-5), 2, 0, 0, (-5), 0), (71, .ireturn, 1, 0, 0, 0, 0), (72, .aload_n 0, 1, 0, 0, 0, 0), (73, .invokevirtual 57, 3, 3, 4, 0, 0), (76, .aload_n 0, 1, 0, 0, 0, 0), (77, .getfield 7, 3, 4, 0, 0, 0), (80, .iconst 0, 1, 0, 0, 0, 0), (81, .iaload, 1, 0, 0, 0, 0), (82, .istore 5, 2, 5, 0, 0, 0), (84, .aload_n 0, 1, 0, 0, 0, 0), (85, .iload 5, 2, 5, 0, 0, 0), (87, .iload_n 1, 1, 1, 0, 0, 0), (88, .iload_n 2, 1, 2, 0, 0, 0), (89, .iload_n 3, 1, 3, 0, 0, 0), (90, .iload 4, 2, 4, 0, 0, 0), (92, .invokevirtual 60, 3, 4, 4, 0, 0), (95, .aload_n 0, 1, 0, 0, 0, 0), (96, .getfield 7, 3, 4, 0, 0, 0), (99, .iconst 0, 1, 0, 0, 0, 0), (100, .dup2, 1, 0, 0, 0, 0), (101, .iaload, 1, 0, 0, 0, 0), (102, .iconst 1, 1, 0, 0, 1, 0), (103, .iadd, 1, 0, 0, 0, 0), (104, .iastore, 1, 0, 0, 0, 0), (105, .iload 5, 2, 5, 0, 0, 0), (107, .ireturn, 1, 0, 0, 0, 0)]
theorem tkX4_addEdge : tOk cX4_addEdge "RumourSourceModel" 6 tX4_addEdge = true := by decide +kernel
theorem fX4_addEdge_0 : fetch tX4_addEdge 0 = some (.iload_n 1, 1, 1, 0, 0, 0) := rfl
theorem fX4_addEdge_1 : fetch tX4_addEdge 1 = some (.invokestatic 50, 3, 0, 4, 0, 0) := rfl
theorem fX4_addEdge_4 : fetch tX4_addEdge 4 = some (.ifCond .eq 10, 3, 14, 0, 0, 0) := rfl
theorem fX4_addEdge_7 : fetch tX4_addEdge 7 = some (.iload_n 2, 1, 2, 0, 0, 0) := rfl
theorem fX4_addEdge_8 : fetch tX4_addEdge 8 = some (.invokestatic 50, 3, 0, 4, 0, 0) := rfl
theorem fX4_addEdge_11 : fetch tX4_addEdge 11 = some (.ifCond .ne 6, 3, 17, 0, 0, 0) := rfl
theorem fX4_addEdge_14 : fetch tX4_addEdge 14 = some (.bipush (-2), 2, 0, 0, (-2), 0) := rfl
theorem fX4_addEdge_16 : fetch tX4_addEdge 16 = some (.ireturn, 1, 0, 0, 0, 0) := rfl
theorem fX4_addEdge_17 : fetch tX4_addEdge 17 = some (.iload_n 3, 1, 3, 0, 0, 0) := rfl
theorem fX4_addEdge_18 : fetch tX4_addEdge 18 = some (.iconst 0, 1, 0, 0, 0, 0) := rfl
theorem fX4_addEdge_19 : fetch tX4_addEdge 19 = some (.bipush 10, 2, 0, 0, 10, 0) := rfl
theorem fX4_addEdge_21 : fetch tX4_addEdge 21 = some (.invokestatic 42, 3, 1, 4, 0, 0) := rfl
theorem fX4_addEdge_24 : fetch tX4_addEdge 24 = some (.ifCond .eq 18, 3, 42, 0, 0, 0) := rfl
theorem fX4_addEdge_27 : fetch tX4_addEdge 27 = some (.iload 4, 2, 4, 0, 0, 0) := rfl
theorem fX4_addEdge_29 : fetch tX4_addEdge 29 = some (.iconst 1, 1, 0, 0, 1, 0) := rfl
theorem fX4_addEdge_30 : fetch tX4_addEdge 30 = some (.iconst 5, 1, 0, 0, 5, 0) := rfl
theorem fX4_addEdge_31 : fetch tX4_addEdge 31 = some (.invokestatic 42, 3, 1, 4, 0, 0) := rfl
theorem fX4_addEdge_34 : fetch tX4_addEdge 34 = some (.ifCond .eq 8, 3, 42, 0, 0, 0) := rfl
theorem fX4_addEdge_37 : fetch tX4_addEdge 37 = some (.iload_n 1, 1, 1, 0, 0, 0) := rfl
theorem fX4_addEdge_38 : fetch tX4_addEdge 38 = some (.iload_n 2, 1, 2, 0, 0, 0) := rfl
theorem fX4_addEdge_39 : fetch tX4_addEdge 39 = some (.if_icmp .ne 6, 3, 45, 0, 0, 0) := rfl
theorem fX4_addEdge_42 : fetch tX4_addEdge 42 = some (.bipush (-3), 2, 0, 0, (-3), 0) := rfl
theorem fX4_addEdge_44 : fetch tX4_addEdge 44 = some (.ireturn, 1, 0, 0, 0, 0) := rfl
theorem fX4_addEdge_45 : fetch tX4_addEdge 45 = some (.aload_n 0, 1, 0, 0, 0, 0) := rfl
theorem fX4_addEdge_46 : fetch tX4_addEdge 46 = some (.iload_n 1, 1, 1, 0, 0, 0) := rfl
theorem fX4_addEdge_47 : fetch tX4_addEdge 47 = some (.iload_n 2, 1, 2, 0, 0, 0) := rfl
theorem fX4_addEdge_48 : fetch tX4_addEdge 48 = some (.invokevirtual 54, 3, 2, 4, 0, 0) := rfl
theorem fX4_addEdge_51 : fetch tX4_addEdge 51 = some (.iconst (-1), 1, 0, 0, (-1), 0) := rfl
theorem fX4_addEdge_52 : fetch tX4_addEdge 52 = some (.if_icmp .eq 6, 3, 58, 0, 0, 0) := rfl
theorem fX4_addEdge_55 : fetch tX4_addEdge 55 = some (.bipush (-4), 2, 0, 0, (-4), 0) := rfl
theorem fX4_addEdge_57 : fetch tX4_addEdge 57 = some (.ireturn, 1, 0, 0, 0, 0) := rfl
theorem fX4_addEdge_58 : fetch tX4_addEdge 58 = some (.aload_n 0, 1, 0, 0, 0, 0) := rfl
theorem fX4_addEdge_59 : fetch tX4_addEdge 59 = some (.getfield 7, 3, 4, 0, 0, 0) := rfl
theorem fX4_addEdge_62 : fetch tX4_addEdge 62 = some (.iconst 0, 1, 0, 0, 0, 0) := rfl
theorem fX4_addEdge_63 : fetch tX4_addEdge 63 = some (.iaload, 1, 0, 0, 0, 0) := rfl
theorem fX4_addEdge_64 : fetch tX4_addEdge 64 = some (.bipush 12, 2, 0, 0, 12, 0) := rfl
theorem fX4_addEdge_66 : fetch tX4_addEdge 66 = some (.if_icmp .ne 6, 3, 72, 0, 0, 0) := rfl
theorem fX4_addEdge_69 : fetch tX4_addEdge 69 = some (.bipush (-5), 2, 0, 0, (-5), 0) := rfl
theorem fX4_addEdge_71 : fetch tX4_addEdge 71 = some (.ireturn, 1, 0, 0, 0, 0) := rfl
theorem fX4_addEdge_72 : fetch tX4_addEdge 72 = some (.aload_n 0, 1, 0, 0, 0, 0) := rfl
theorem fX4_addEdge_73 : fetch tX4_addEdge 73 = some (.invokevirtual 57, 3, 3, 4, 0, 0) := rfl
theorem fX4_addEdge_76 : fetch tX4_addEdge 76 = some (.aload_n 0, 1, 0, 0, 0, 0) := rfl
theorem fX4_addEdge_77 : fetch tX4_addEdge 77 = some (.getfield 7, 3, 4, 0, 0, 0) := rfl
theorem fX4_addEdge_80 : fetch tX4_addEdge 80 = some (.iconst 0, 1, 0, 0, 0, 0) := rfl
theorem fX4_addEdge_81 : fetch tX4_addEdge 81 = some (.iaload, 1, 0, 0, 0, 0) := rfl
theorem fX4_addEdge_82 : fetch tX4_addEdge 82 = some (.istore 5, 2, 5, 0, 0, 0) := rfl
theorem fX4_addEdge_84 : fetch tX4_addEdge 84 = some (.aload_n 0, 1, 0, 0, 0, 0) := rfl
theorem fX4_addEdge_85 : fetch tX4_addEdge 85 = some (.iload 5, 2, 5, 0, 0, 0) := rfl
theorem fX4_addEdge_87 : fetch tX4_addEdge 87 = some (.iload_n 1, 1, 1, 0, 0, 0) := rfl
theorem fX4_addEdge_88 : fetch tX4_addEdge 88 = some (.iload_n 2, 1, 2, 0, 0, 0) := rfl
theorem fX4_addEdge_89 : fetch tX4_addEdge 89 = some (.iload_n 3, 1, 3, 0, 0, 0) := rfl
theorem fX4_addEdge_90 : fetch tX4_addEdge 90 = some (.iload 4, 2, 4, 0, 0, 0) := rfl
theorem fX4_addEdge_92 : fetch tX4_addEdge 92 = some (.invokevirtual 60, 3, 4, 4, 0, 0) := rfl
theorem fX4_addEdge_95 : fetch tX4_addEdge 95 = some (.aload_n 0, 1, 0, 0, 0, 0) := rfl
theorem fX4_addEdge_96 : fetch tX4_addEdge 96 = some (.getfield 7, 3, 4, 0, 0, 0) := rfl
theorem fX4_addEdge_99 : fetch tX4_addEdge 99 = some (.iconst 0, 1, 0, 0, 0, 0) := rfl
theorem fX4_addEdge_100 : fetch tX4_addEdge 100 = some (.dup2, 1, 0, 0, 0, 0) := rfl
theorem fX4_addEdge_101 : fetch tX4_addEdge 101 = some (.iaload, 1, 0, 0, 0, 0) := rfl
theorem fX4_addEdge_102 : fetch tX4_addEdge 102 = some (.iconst 1, 1, 0, 0, 1, 0) := rfl
theorem fX4_addEdge_103 : fetch tX4_addEdge 103 = some (.iadd, 1, 0, 0, 0, 0) := rfl
theorem fX4_addEdge_104 : fetch tX4_addEdge 104 = some (.iastore, 1, 0, 0, 0, 0) := rfl
theorem fX4_addEdge_105 : fetch tX4_addEdge 105 = some (.iload 5, 2, 5, 0, 0, 0) := rfl
theorem fX4_addEdge_107 : fetch tX4_addEdge 107 = some (.ireturn, 1, 0, 0, 0, 0) := rfl
def tX4_setEdge : List (Nat × TE) := [(0, .aload_n 0, 1, 0, 0, 0, 0), (1, .iload_n 1, 1, 1, 0, 0, 0), (2, .invokevirtual 64, 3, 0, 4, 0, 0), (5, .ifCond .ne 6, 3, 11, 0, 0, 0), (8, .bipush (-2), 2, 0, 0, (-2), 0), (10, .ireturn, 1, 0, 0, 0, 0), (11, .iload_n 2, 1, 2, 0, 0, 0), (12, .iconst 0, 1, 0, 0, 0, 0), (13, .bipush 10, 2, 0, 0, 10, 0), (15, .invokestatic 42, 3, 1, 4, 0, 0), (18, .ifCond .eq 12, 3, 30, 0, 0, 0), (21, .iload_n 3, 1, 3, 0, 0, 0), (22, .iconst 1, 1, 0, 0, 1, 0), (23, .iconst 5, 1, 0, 0, 5, 0), (24, .invokestatic 42, 3, 1, 4, 0, 0), (27, .ifCond .ne 6, 3, 33, 0, 0, 0), (30, .bipush (-3), 2, 0, 0, (-3), 0), (32, .ireturn, 1, 0, 0, 0, 0), (33, .aload_n 0, 1, 0, 0, 0, 0), (34, .invokevirtual 57, 3, 2, 4, 0, 0), (37, .aload_n 0, 1, 0, 0, 0, 0), (38, .iload_n 1, 1, 1, 0, 0, 0), (39, .iconst 2, 1, 0, 0, 2, 0), (40, .invokevirtual 46, 3, 3, 4, 0, 0), (43, .istore 4, 2, 4, 0, 0, 0), (45, .aload_n 0, 1, 0, 0, 0, 0), (46, .iload_n 1, 1, 1, 0, 0, 0), (47, .aload_n 0, 1, 0, 0, 0, 0), (48, .iload_n 1, 1, 1, 0, 0, 0), (49, .iconst 0, 1, 0, 0, 0, 0), (50, .invokevirtual 46, 3, 3, 4, 0, 0), (53, .aload_n 0, 1, 0, 0, 0, 0), (54, .iload_n 1, 1, 1, 0, 0, 0), (55, .iconst 1, 1, 0, 0, 1, 0), (56, .invokevirtual 46, 3, 3, 4, 0, 0), (59, .iload_n 2, 1, 2, 0, 0, 0), (60, .iload_n 3, 1, 3, 0, 0, 0), (61, .invokevirtual 60, 3, 4, 4, 0, 0), (64, .iload 4, 2, 4, 0, 0, 0), (66, .ireturn, 1, 0, 0, 0, 0)]
theorem tkX4_setEdge : tOk cX4_setEdge "RumourSourceModel" 5 tX4_setEdge = true := by decide +kernel
theorem fX4_setEdge_0 : fetch tX4_setEdge 0 = some (.aload_n 0, 1, 0, 0, 0, 0) := rfl
theorem fX4_setEdge_1 : fetch tX4_setEdge 1 = some (.iload_n 1, 1, 1, 0, 0, 0) := rfl
theorem fX4_setEdge_2 : fetch tX4_setEdge 2 = some (.invokevirtual 64, 3, 0, 4, 0, 0) := rfl
theorem fX4_setEdge_5 : fetch tX4_setEdge 5 = some (.ifCond .ne 6, 3, 11, 0, 0, 0) := rfl
theorem fX4_setEdge_8 : fetch tX4_setEdge 8 = some (.bipush (-2), 2, 0, 0, (-2), 0) := rfl
theorem fX4_setEdge_10 : fetch tX4_setEdge 10 = some (.ireturn, 1, 0, 0, 0, 0) := rfl
theorem fX4_setEdge_11 : fetch tX4_setEdge 11 = some (.iload_n 2, 1, 2, 0, 0, 0) := rfl
theorem fX4_setEdge_12 : fetch tX4_setEdge 12 = some (.iconst 0, 1, 0, 0, 0, 0) := rfl
theorem fX4_setEdge_13 : fetch tX4_setEdge 13 = some (.bipush 10, 2, 0, 0, 10, 0) := rfl
theorem fX4_setEdge_15 : fetch tX4_setEdge 15 = some (.invokestatic 42, 3, 1, 4, 0, 0) := rfl
theorem fX4_setEdge_18 : fetch tX4_setEdge 18 = some (.ifCond .eq 12, 3, 30, 0, 0, 0) := rfl
theorem fX4_setEdge_21 : fetch tX4_setEdge 21 = some (.iload_n 3, 1, 3, 0, 0, 0) := rfl
theorem fX4_setEdge_22 : fetch tX4_setEdge 22 = some (.iconst 1, 1, 0, 0, 1, 0) := rfl
theorem fX4_setEdge_23 : fetch tX4_setEdge 23 = some (.iconst 5, 1, 0, 0, 5, 0) := rfl
theorem fX4_setEdge_24 : fetch tX4_setEdge 24 = some (.invokestatic 42, 3, 1, 4, 0, 0) := rfl
theorem fX4_setEdge_27 : fetch tX4_setEdge 27 = some (.ifCond .ne 6, 3, 33, 0, 0, 0) := rfl
theorem fX4_setEdge_30 : fetch tX4_setEdge 30 = some (.bipush (-3), 2, 0, 0, (-3), 0) := rfl
theorem fX4_setEdge_32 : fetch tX4_setEdge 32 = some (.ireturn, 1, 0, 0, 0, 0) := rfl
theorem fX4_setEdge_33 : fetch tX4_setEdge 33 = some (.aload_n 0, 1, 0, 0, 0, 0) := rfl
theorem fX4_setEdge_34 : fetch tX4_setEdge 34 = some (.invokevirtual 57, 3, 2, 4, 0, 0) := rfl
theorem fX4_setEdge_37 : fetch tX4_setEdge 37 = some (.aload_n 0, 1, 0, 0, 0, 0) := rfl
theorem fX4_setEdge_38 : fetch tX4_setEdge 38 = some (.iload_n 1, 1, 1, 0, 0, 0) := rfl
theorem fX4_setEdge_39 : fetch tX4_setEdge 39 = some (.iconst 2, 1, 0, 0, 2, 0) := rfl
theorem fX4_setEdge_40 : fetch tX4_setEdge 40 = some (.invokevirtual 46, 3, 3, 4, 0, 0) := rfl
theorem fX4_setEdge_43 : fetch tX4_setEdge 43 = some (.istore 4, 2, 4, 0, 0, 0) := rfl
theorem fX4_setEdge_45 : fetch tX4_setEdge 45 = some (.aload_n 0, 1, 0, 0, 0, 0) := rfl
theorem fX4_setEdge_46 : fetch tX4_setEdge 46 = some (.iload_n 1, 1, 1, 0, 0, 0) := rfl
theorem fX4_setEdge_47 : fetch tX4_setEdge 47 = some (.aload_n 0, 1, 0, 0, 0, 0) := rfl
theorem fX4_setEdge_48 : fetch tX4_setEdge 48 = some (.iload_n 1, 1, 1, 0, 0, 0) := rfl
theorem fX4_setEdge_49 : fetch tX4_setEdge 49 = some (.iconst 0, 1, 0, 0, 0, 0) := rfl
theorem fX4_setEdge_50 : fetch tX4_setEdge 50 = some (.invokevirtual 46, 3, 3, 4, 0, 0) := rfl
theorem fX4_setEdge_53 : fetch tX4_setEdge 53 = some (.aload_n 0, 1, 0, 0, 0, 0) := rfl
theorem fX4_setEdge_54 : fetch tX4_setEdge 54 = some (.iload_n 1, 1, 1, 0, 0, 0) := rfl
theorem fX4_setEdge_55 : fetch tX4_setEdge 55 = some (.iconst 1, 1, 0, 0, 1, 0) := rfl
theorem fX4_setEdge_56 : fetch tX4_setEdge 56 = some (.invokevirtual 46, 3, 3, 4, 0, 0) := rfl
theorem fX4_setEdge_59 : fetch tX4_setEdge 59 = some (.iload_n 2, 1, 2, 0, 0, 0) := rfl
theorem fX4_setEdge_60 : fetch tX4_setEdge 60 = some (.iload_n 3, 1, 3, 0, 0, 0) := rfl
theorem fX4_setEdge_61 : fetch tX4_setEdge 61 = some (.invokevirtual 60, 3, 4, 4, 0, 0) := rfl
theorem fX4_setEdge_64 : fetch tX4_setEdge 64 = some (.iload 4, 2, 4, 0, 0, 0) := rfl
theorem fX4_setEdge_66 : fetch tX4_setEdge 66 = some (.ireturn, 1, 0, 0, 0, 0) := rfl
def tX4_removeEdge : List (Nat × TE) := [(0, .aload_n 0, 1, 0, 0, 0, 0), (1, .iload_n 1, 1, 1, 0, 0, 0), (2, .invokevirtual 64, 3, 0, 4, 0, 0), (5, .ifCond .ne 6, 3, 11, 0, 0, 0), (8, .bipush (-2), 2, 0, 0, (-2), 0), (10, .ireturn, 1, 0, 0, 0, 0), (11, .aload_n 0, 1, 0, 0, 0, 0), (12, .invokevirtual 57, 3, 1, 4, 0, 0), (15, .iload_n 1, 1, 1, 0, 0, 0), (16, .istore_n 2, 1, 2, 0, 0, 0), (17, .iload_n 2, 1, 2, 0, 0, 0), (18, .iconst 1, 1, 0, 0, 1, 0), (19, .iadd, 1, 0, 0, 0, 0), (20, .aload_n 0, 1, 0, 0, 0, 0), (21, .getfield 7, 3, 4, 0, 0, 0), (24, .iconst 0, 1, 0, 0, 0, 0), (25, .iaload, 1, 0, 0, 0, 0), (26, .if_icmp .ge 46, 3, 72, 0, 0, 0), (29, .aload_n 0, 1, 0, 0, 0, 0), (30, .iload_n 2, 1, 2, 0, 0, 0), (31, .aload_n 0, 1, 0, 0, 0, 0), (32, .iload_n 2, 1, 2, 0, 0, 0), (33, .iconst 1, 1, 0, 0, 1, 0), (34, .iadd, 1, 0, 0, 0, 0), (35, .iconst 0, 1, 0, 0, 0, 0), (36, .invokevirtual 46, 3, 2, 4, 0, 0), (39, .aload_n 0, 1, 0, 0, 0, 0), (40, .iload_n 2, 1, 2, 0, 0, 0), (41, .iconst 1, 1, 0, 0, 1, 0), (42, .iadd, 1, 0, 0, 0, 0), (43, .iconst 1, 1, 0, 0, 1, 0), (44, .invokevirtual 46, 3, 2, 4, 0, 0), (47, .aload_n 0, 1, 0, 0, 0, 0), (48, .iload_n 2, 1, 2, 0, 0, 0), (49, .iconst 1, 1, 0, 0, 1, 0), (50, .iadd, 1, 0, 0, 0, 0), (51, .iconst 2, 1, 0, 0, 2, 0), (52, .invokevirtual 46, 3, 2, 4, 0, 0), (55, .aload_n 0, 1, 0, 0, 0, 0), (56, .iload_n 2, 1, 2, 0, 0, 0), (57, .iconst 1, 1, 0, 0, 1, 0), (58, .iadd, 1, 0, 0, 0, 0), (59, .iconst 3, 1, 0, 0, 3, 0), (60, .invokevirtual 46, 3, 2, 4, 0, 0), (63, .invokevirtual 60, 3, 3, 4, 0, 0), (66, .iinc 2 1, 3, 2, 0, 1, 0), (69, .goto (-52), 3, 17, 0, 0, 0), (72, .aload_n 0, 1, 0, 0, 0, 0), (73, .getfield 7, 3, 4, 0, 0, 0), (76, .iconst 0, 1, 0, 0, 0, 0), (77, .dup2, 1, 0, 0, 0, 0), (78, .iaload, 1, 0, 0, 0, 0), (79, .iconst 1, 1, 0, 0, 1, 0), (80, .isub, 1, 0, 0, 0, 0), (81, .iastore, 1, 0, 0, 0, 0), (82, .aload_n 0, 1, 0, 0, 0, 0), (83, .getfield 7, 3, 4, 0, 0, 0), (86, .iconst 0, 1, 0, 0, 0, 0), (87, .iaload, 1, 0, 0, 0, 0), (88, .ireturn, 1, 0, 0, 0, 0)]
theorem tkX4_removeEdge : tOk cX4_removeEdge "RumourSourceModel" 3 tX4_removeEdge = true := by decide +kernel
theorem fX4_removeEdge_0 : fetch tX4_removeEdge 0 = some (.aload_n 0, 1, 0, 0, 0, 0) := rfl
theorem fX4_removeEdge_1 : fetch tX4_removeEdge 1 = some (.iload_n 1, 1, 1, 0, 0, 0) := rfl
theorem fX4_removeEdge_2 : fetch tX4_removeEdge 2 = some (.invokevirtual 64, 3, 0, 4, 0, 0) := rfl
theorem fX4_removeEdge_5 : fetch tX4_removeEdge 5 = some (.ifCond .ne 6, 3, 11, 0, 0, 0) := rfl
theorem fX4_removeEdge_8 : fetch tX4_removeEdge 8 = some (.bipush (-2), 2, 0, 0, (-2), 0) := rfl
theorem fX4_removeEdge_10 : fetch tX4_removeEdge 10 = some (.ireturn, 1, 0, 0, 0, 0) := rfl
theorem fX4_removeEdge_11 : fetch tX4_removeEdge 11 = some (.aload_n 0, 1, 0, 0, 0, 0) := rfl
theorem fX4_removeEdge_12 : fetch tX4_removeEdge 12 = some (.invokevirtual 57, 3, 1, 4, 0, 0) := rfl
theorem fX4_removeEdge_15 : fetch tX4_removeEdge 15 = some (.iload_n 1, 1, 1, 0, 0, 0) := rfl
theorem fX4_removeEdge_16 : fetch tX4_removeEdge 16 = some (.istore_n 2, 1, 2, 0, 0, 0) := rfl
theorem fX4_removeEdge_17 : fetch tX4_removeEdge 17 = some (.iload_n 2, 1, 2, 0, 0, 0) := rfl
theorem fX4_removeEdge_18 : fetch tX4_removeEdge 18 = some (.iconst 1, 1, 0, 0, 1, 0) := rfl
theorem fX4_removeEdge_19 : fetch tX4_removeEdge 19 = some (.iadd, 1, 0, 0, 0, 0) := rfl
theorem fX4_removeEdge_20 : fetch tX4_removeEdge 20 = some (.aload_n 0, 1, 0, 0, 0, 0) := rfl
theorem fX4_removeEdge_21 : fetch tX4_removeEdge 21 = some (.getfield 7, 3, 4, 0, 0, 0) := rfl
theorem fX4_removeEdge_24 : fetch tX4_removeEdge 24 = some (.iconst 0, 1, 0, 0, 0, 0) := rfl
theorem fX4_removeEdge_25 : fetch tX4_removeEdge 25 = some (.iaload, 1, 0, 0, 0, 0) := rfl
theorem fX4_removeEdge_26 : fetch tX4_removeEdge 26 = some (.if_icmp .ge 46, 3, 72, 0, 0, 0) := rfl
theorem fX4_removeEdge_29 : fetch tX4_removeEdge 29 = some (.aload_n 0, 1, 0, 0, 0, 0) := rfl
theorem fX4_removeEdge_30 : fetch tX4_removeEdge 30 = some (.iload_n 2, 1, 2, 0, 0, 0) := rfl
theorem fX4_removeEdge_31 : fetch tX4_removeEdge 31 = some (.aload_n 0, 1, 0, 0, 0, 0) := rfl
theorem fX4_removeEdge_32 : fetch tX4_removeEdge 32 = some (.iload_n 2, 1, 2, 0, 0, 0) := rfl
theorem fX4_removeEdge_33 : fetch tX4_removeEdge 33 = some (.iconst 1, 1, 0, 0, 1, 0) := rfl
theorem fX4_removeEdge_34 : fetch tX4_removeEdge 34 = some (.iadd, 1, 0, 0, 0, 0) := rfl
theorem fX4_removeEdge_35 : fetch tX4_removeEdge 35 = some (.iconst 0, 1, 0, 0, 0, 0) := rfl
theorem fX4_removeEdge_36 : fetch tX4_removeEdge 36 = some (.invokevirtual 46, 3, 2, 4, 0, 0) := rfl
theorem fX4_removeEdge_39 : fetch tX4_removeEdge 39 = some (.aload_n 0, 1, 0, 0, 0, 0) := rfl
theorem fX4_removeEdge_40 : fetch tX4_removeEdge 40 = some (.iload_n 2, 1, 2, 0, 0, 0) := rfl
theorem fX4_removeEdge_41 : fetch tX4_removeEdge 41 = some (.iconst 1, 1, 0, 0, 1, 0) := rfl
theorem fX4_removeEdge_42 : fetch tX4_removeEdge 42 = some (.iadd, 1, 0, 0, 0, 0) := rfl
theorem fX4_removeEdge_43 : fetch tX4_removeEdge 43 = some (.iconst 1, 1, 0, 0, 1, 0) := rfl
theorem fX4_removeEdge_44 : fetch tX4_removeEdge 44 = some (.invokevirtual 46, 3, 2, 4, 0, 0) := rfl
theorem fX4_removeEdge_47 : fetch tX4_removeEdge 47 = some (.aload_n 0, 1, 0, 0, 0, 0) := rfl
theorem fX4_removeEdge_48 : fetch tX4_removeEdge 48 = some (.iload_n 2, 1, 2, 0, 0, 0) := rfl
theorem fX4_removeEdge_49 : fetch tX4_removeEdge 49 = some (.iconst 1, 1, 0, 0, 1, 0) := rfl
theorem fX4_removeEdge_50 : fetch tX4_removeEdge 50 = some (.iadd, 1, 0, 0, 0, 0) := rfl
theorem fX4_removeEdge_51 : fetch tX4_removeEdge 51 = some (.iconst 2, 1, 0, 0, 2, 0) := rfl
theorem fX4_removeEdge_52 : fetch tX4_removeEdge 52 = some (.invokevirtual 46, 3, 2, 4, 0, 0) := rfl
theorem fX4_removeEdge_55 : fetch tX4_removeEdge 55 = some (.aload_n 0, 1, 0, 0, 0, 0) := rfl
theorem fX4_removeEdge_56 : fetch tX4_removeEdge 56 = some (.iload_n 2, 1, 2, 0, 0, 0) := rfl
theorem fX4_removeEdge_57 : fetch tX4_removeEdge 57 = some (.iconst 1, 1, 0, 0, 1, 0) := rfl
theorem fX4_removeEdge_58 : fetch tX4_removeEdge 58 = some (.iadd, 1, 0, 0, 0, 0) := rfl
theorem fX4_removeEdge_59 : fetch tX4_removeEdge 59 = some (.iconst 3, 1, 0, 0, 3, 0) := rfl
theorem fX4_removeEdge_60 : fetch tX4_removeEdge 60 = some (.invokevirtual 46, 3, 2, 4, 0, 0) := rfl
theorem fX4_removeEdge_63 : fetch tX4_removeEdge 63 = some (.invokevirtual 60, 3, 3, 4, 0, 0) := rfl
theorem fX4_removeEdge_66 : fetch tX4_removeEdge 66 = some (.iinc 2 1, 3, 2, 0, 1, 0) := rfl
theorem fX4_removeEdge_69 : fetch tX4_removeEdge 69 = some (.goto (-52), 3, 17, 0, 0, 0) := rfl
theorem fX4_removeEdge_72 : fetch tX4_removeEdge 72 = some (.aload_n 0, 1, 0, 0, 0, 0) := rfl
theorem fX4_removeEdge_73 : fetch tX4_removeEdge 73 = some (.getfield 7, 3, 4, 0, 0, 0) := rfl
theorem fX4_removeEdge_76 : fetch tX4_removeEdge 76 = some (.iconst 0, 1, 0, 0, 0, 0) := rfl
theorem fX4_removeEdge_77 : fetch tX4_removeEdge 77 = some (.dup2, 1, 0, 0, 0, 0) := rfl
theorem fX4_removeEdge_78 : fetch tX4_removeEdge 78 = some (.iaload, 1, 0, 0, 0, 0) := rfl
theorem fX4_removeEdge_79 : fetch tX4_removeEdge 79 = some (.iconst 1, 1, 0, 0, 1, 0) := rfl
theorem fX4_removeEdge_80 : fetch tX4_removeEdge 80 = some (.isub, 1, 0, 0, 0, 0) := rfl
theorem fX4_removeEdge_81 : fetch tX4_removeEdge 81 = some (.iastore, 1, 0, 0, 0, 0) := rfl
theorem fX4_removeEdge_82 : fetch tX4_removeEdge 82 = some (.aload_n 0, 1, 0, 0, 0, 0) := rfl
theorem fX4_removeEdge_83 : fetch tX4_removeEdge 83 = some (.getfield 7, 3, 4, 0, 0, 0) := rfl
theorem fX4_removeEdge_86 : fetch tX4_removeEdge 86 = some (.iconst 0, 1, 0, 0, 0, 0) := rfl
theorem fX4_removeEdge_87 : fetch tX4_removeEdge 87 = some (.iaload, 1, 0, 0, 0, 0) := rfl
theorem fX4_removeEdge_88 : fetch tX4_removeEdge 88 = some (.ireturn, 1, 0, 0, 0, 0) := rfl
def tX4_edges : List (Nat × TE) := [(0, .aload_n 0, 1, 0, 0, 0, 0), (1, .getfield 7, 3, 4, 0, 0, 0), (4, .iconst 0, 1, 0, 0, 0, 0), (5, .iaload, 1, 0, 0, 0, 0), (6, .ireturn, 1, 0, 0, 0, 0)]
theorem tkX4_edges : tOk cX4_edges "RumourSourceModel" 1 tX4_edges = true := by decide +kernel
theorem fX4_edges_0 : fetch tX4_edges 0 = some (.aload_n 0, 1, 0, 0, 0, 0) := rfl
theorem fX4_edges_1 : fetch tX4_edges 1 = some (.getfield 7, 3, 4, 0, 0, 0) := rfl
theorem fX4_edges_4 : fetch tX4_edges 4 = some (.iconst 0, 1, 0, 0, 0, 0) := rfl
theorem fX4_edges_5 : fetch tX4_edges 5 = some (.iaload, 1, 0, 0, 0, 0) := rfl
theorem fX4_edges_6 : fetch tX4_edges 6 = some (.ireturn, 1, 0, 0, 0, 0) := rfl
def tX4_edge : List (Nat × TE) := [(0, .aload_n 0, 1, 0, 0, 0, 0), (1, .iload_n 1, 1, 1, 0, 0, 0), (2, .invokevirtual 64, 3, 0, 4, 0, 0), (5, .ifCond .ne 6, 3, 11, 0, 0, 0), (8, .bipush (-2), 2, 0, 0, (-2), 0), (10, .ireturn, 1, 0, 0, 0, 0), (11, .iload_n 2, 1, 2, 0, 0, 0), (12, .iconst 0, 1, 0, 0, 0, 0), (13, .iconst 3, 1, 0, 0, 3, 0), (14, .invokestatic 42, 3, 1, 4, 0, 0), (17, .ifCond .eq 12, 3, 29, 0, 0, 0), (20, .aload_n 0, 1, 0, 0, 0, 0), (21, .iload_n 1, 1, 1, 0, 0, 0), (22, .iload_n 2, 1, 2, 0, 0, 0), (23, .invokevirtual 46, 3, 2, 4, 0, 0), (26, .goto 5, 3, 31, 0, 0, 0), (29, .bipush (-3), 2, 0, 0, (-3), 0), (31, .ireturn, 1, 0, 0, 0, 0)]
theorem tkX4_edge : tOk cX4_edge "RumourSourceModel" 3 tX4_edge = true := by decide +kernel
theorem fX4_edge_0 : fetch tX4_edge 0 = some (.aload_n 0, 1, 0, 0, 0, 0) := rfl
theorem fX4_edge_1 : fetch tX4_edge 1 = some (.iload_n 1, 1, 1, 0, 0, 0) := rfl
theorem fX4_edge_2 : fetch tX4_edge 2 = some (.invokevirtual 64, 3, 0, 4, 0, 0) := rfl
theorem fX4_edge_5 : fetch tX4_edge 5 = some (.ifCond .ne 6, 3, 11, 0, 0, 0) := rfl
theorem fX4_edge_8 : fetch tX4_edge 8 = some (.bipush (-2), 2, 0, 0, (-2), 0) := rfl
theorem fX4_edge_10 : fetch tX4_edge 10 = some (.ireturn, 1, 0, 0, 0, 0) := rfl
theorem fX4_edge_11 : fetch tX4_edge 11 = some (.iload_n 2, 1, 2, 0, 0, 0) := rfl
theorem fX4_edge_12 : fetch tX4_edge 12 = some (.iconst 0, 1, 0, 0, 0, 0) := rfl
theorem fX4_edge_13 : fetch tX4_edge 13 = some (.iconst 3, 1, 0, 0, 3, 0) := rfl
theorem fX4_edge_14 : fetch tX4_edge 14 = some (.invokestatic 42, 3, 1, 4, 0, 0) := rfl
theorem fX4_edge_17 : fetch tX4_edge 17 = some (.ifCond .eq 12, 3, 29, 0, 0, 0) := rfl
theorem fX4_edge_20 : fetch tX4_edge 20 = some (.aload_n 0, 1, 0, 0, 0, 0) := rfl
theorem fX4_edge_21 : fetch tX4_edge 21 = some (.iload_n 1, 1, 1, 0, 0, 0) := rfl
theorem fX4_edge_22 : fetch tX4_edge 22 = some (.iload_n 2, 1, 2, 0, 0, 0) := rfl
theorem fX4_edge_23 : fetch tX4_edge 23 = some (.invokevirtual 46, 3, 2, 4, 0, 0) := rfl
theorem fX4_edge_26 : fetch tX4_edge 26 = some (.goto 5, 3, 31, 0, 0, 0) := rfl
theorem fX4_edge_29 : fetch tX4_edge 29 = some (.bipush (-3), 2, 0, 0, (-3), 0) := rfl
theorem fX4_edge_31 : fetch tX4_edge 31 = some (.ireturn, 1, 0, 0, 0, 0) := rfl
def tX4_edgeBetween : List (Nat × TE) := [(0, .iload_n 1, 1, 1, 0, 0, 0), (1, .invokestatic 50, 3, 0, 4, 0, 0), (4, .ifCond .eq 19, 3, 23, 0, 0, 0), (7, .iload_n 2, 1, 2, 0, 0, 0), (8, .invokestatic 50, 3, 0, 4, 0, 0), (11, .ifCond .eq 12, 3, 23, 0, 0, 0), (14, .aload_n 0, 1, 0, 0, 0, 0), (15, .iload_n 1, 1, 1, 0, 0, 0), (16, .iload_n 2, 1, 2, 0, 0, 0), (17, .invokevirtual 54, 3, 1, 4, 0, 0), (20, .goto 5, 3, 25, 0, 0, 0), (23, .bipush (-2), 2, 0, 0, (-2), 0), (25, .ireturn, 1, 0, 0, 0, 0)]
theorem tkX4_edgeBetween : tOk cX4_edgeBetween "RumourSourceModel" 3 tX4_edgeBetween = true := by decide +kernel
theorem fX4_edgeBetween_0 : fetch tX4_edgeBetween 0 = some (.iload_n 1, 1, 1, 0, 0, 0) := rfl
theorem fX4_edgeBetween_1 : fetch tX4_edgeBetween 1 = some (.invokestatic 50, 3, 0, 4, 0, 0) := rfl
theorem fX4_edgeBetween_4 : fetch tX4_edgeBetween 4 = some (.ifCond .eq 19, 3, 23, 0, 0, 0) := rfl
theorem fX4_edgeBetween_7 : fetch tX4_edgeBetween 7 = some (.iload_n 2, 1, 2, 0, 0, 0) := rfl
theorem fX4_edgeBetween_8 : fetch tX4_edgeBetween 8 = some (.invokestatic 50, 3, 0, 4, 0, 0) := rfl
theorem fX4_edgeBetween_11 : fetch tX4_edgeBetween 11 = some (.ifCond .eq 12, 3, 23, 0, 0, 0) := rfl
theorem fX4_edgeBetween_14 : fetch tX4_edgeBetween 14 = some (.aload_n 0, 1, 0, 0, 0, 0) := rfl
theorem fX4_edgeBetween_15 : fetch tX4_edgeBetween 15 = some (.iload_n 1, 1, 1, 0, 0, 0) := rfl
theorem fX4_edgeBetween_16 : fetch tX4_edgeBetween 16 = some (.iload_n 2, 1, 2, 0, 0, 0) := rfl
theorem fX4_edgeBetween_17 : fetch tX4_edgeBetween 17 = some (.invokevirtual 54, 3, 1, 4, 0, 0) := rfl
theorem fX4_edgeBetween_20 : fetch tX4_edgeBetween 20 = some (.goto 5, 3, 25, 0, 0, 0) := rfl
theorem fX4_edgeBetween_23 : fetch tX4_edgeBetween 23 = some (.bipush (-2), 2, 0, 0, (-2), 0) := rfl
theorem fX4_edgeBetween_25 : fetch tX4_edgeBetween 25 = some (.ireturn, 1, 0, 0, 0, 0) := rfl
def tX4_setHorizon : List (Nat × TE) := [(0, .iload_n 1, 1, 1, 0, 0, 0), (1, .iconst 0, 1, 0, 0, 0, 0), (2, .bipush 30, 2, 0, 0, 30, 0), (4, .invokestatic 42, 3, 0, 4, 0, 0), (7, .ifCond .ne 6, 3, 13, 0, 0, 0), (10, .bipush (-3), 2, 0, 0, (-3), 0), (12, .ireturn, 1, 0, 0, 0, 0), (13, .aload_n 0, 1, 0, 0, 0, 0), (14, .invokevirtual 57, 3, 1, 4, 0, 0), (17, .aload_n 0, 1, 0, 0, 0, 0), (18, .getfield 7, 3, 4, 0, 0, 0), (21, .iconst 1, 1, 0, 0, 1, 0), (22, .iaload, 1, 0, 0, 0, 0), (23, .istore_n 2, 1, 2, 0, 0, 0), (24, .aload_n 0, 1, 0, 0, 0, 0), (25, .getfield 7, 3, 4, 0, 0, 0), (28, .iconst 1, 1, 0, 0, 1, 0), (29, .iload_n 1, 1, 1, 0, 0, 0), (30, .iastore, 1, 0, 0, 0, 0), (31, .iload_n 2, 1, 2, 0, 0, 0), (32, .ireturn, 1, 0, 0, 0, 0)]
theorem tkX4_setHorizon : tOk cX4_setHorizon "RumourSourceModel" 3 tX4_setHorizon = true := by decide +kernel
theorem fX4_setHorizon_0 : fetch tX4_setHorizon 0 = some (.iload_n 1, 1, 1, 0, 0, 0) := rfl
theorem fX4_setHorizon_1 : fetch tX4_setHorizon 1 = some (.iconst 0, 1, 0, 0, 0, 0) := rfl
theorem fX4_setHorizon_2 : fetch tX4_setHorizon 2 = some (.bipush 30, 2, 0, 0, 30, 0) := rfl
theorem fX4_setHorizon_4 : fetch tX4_setHorizon 4 = some (.invokestatic 42, 3, 0, 4, 0, 0) := rfl
theorem fX4_setHorizon_7 : fetch tX4_setHorizon 7 = some (.ifCond .ne 6, 3, 13, 0, 0, 0) := rfl
theorem fX4_setHorizon_10 : fetch tX4_setHorizon 10 = some (.bipush (-3), 2, 0, 0, (-3), 0) := rfl
theorem fX4_setHorizon_12 : fetch tX4_setHorizon 12 = some (.ireturn, 1, 0, 0, 0, 0) := rfl
theorem fX4_setHorizon_13 : fetch tX4_setHorizon 13 = some (.aload_n 0, 1, 0, 0, 0, 0) := rfl
theorem fX4_setHorizon_14 : fetch tX4_setHorizon 14 = some (.invokevirtual 57, 3, 1, 4, 0, 0) := rfl
theorem fX4_setHorizon_17 : fetch tX4_setHorizon 17 = some (.aload_n 0, 1, 0, 0, 0, 0) := rfl
theorem fX4_setHorizon_18 : fetch tX4_setHorizon 18 = some (.getfield 7, 3, 4, 0, 0, 0) := rfl
theorem fX4_setHorizon_21 : fetch tX4_setHorizon 21 = some (.iconst 1, 1, 0, 0, 1, 0) := rfl
theorem fX4_setHorizon_22 : fetch tX4_setHorizon 22 = some (.iaload, 1, 0, 0, 0, 0) := rfl
theorem fX4_setHorizon_23 : fetch tX4_setHorizon 23 = some (.istore_n 2, 1, 2, 0, 0, 0) := rfl
theorem fX4_setHorizon_24 : fetch tX4_setHorizon 24 = some (.aload_n 0, 1, 0, 0, 0, 0) := rfl
theorem fX4_setHorizon_25 : fetch tX4_setHorizon 25 = some (.getfield 7, 3, 4, 0, 0, 0) := rfl
theorem fX4_setHorizon_28 : fetch tX4_setHorizon 28 = some (.iconst 1, 1, 0, 0, 1, 0) := rfl
theorem fX4_setHorizon_29 : fetch tX4_setHorizon 29 = some (.iload_n 1, 1, 1, 0, 0, 0) := rfl
theorem fX4_setHorizon_30 : fetch tX4_setHorizon 30 = some (.iastore, 1, 0, 0, 0, 0) := rfl
theorem fX4_setHorizon_31 : fetch tX4_setHorizon 31 = some (.iload_n 2, 1, 2, 0, 0, 0) := rfl
theorem fX4_setHorizon_32 : fetch tX4_setHorizon 32 = some (.ireturn, 1, 0, 0, 0, 0) := rfl
def tX4_hears : List (Nat × TE) := [(0, .iconst 0, 1, 0, 0, 0, 0), (1, .istore_n 3, 1, 3, 0, 0, 0), (2, .iload_n 3, 1, 3, 0, 0, 0), (3, .bipush 8, 2, 0, 0, 8, 0), (5, .if_icmp .ge 31, 3, 36, 0, 0, 0), (8, .aload_n 0, 1, 0, 0, 0, 0), (9, .getfield 13, 3, 4, 3, 0, 0), (12, .iload_n 3, 1, 3, 0, 0, 0), (13, .iload_n 1, 1, 1, 0, 0, 0), (14, .iload_n 3, 1, 3, 0, 0, 0), (15, .ishr, 1, 0, 0, 0, 0), (16, .iconst 1, 1, 0, 0, 1, 0), (17, .iand, 1, 0, 0, 0, 0), (18, .iconst 1, 1, 0, 0, 1, 0), (19, .if_icmp .ne 7, 3, 26, 0, 0, 0), (22, .iconst 0, 1, 0, 0, 0, 0), (23, .goto 6, 3, 29, 0, 0, 0), (26, .sipush 1000, 3, 0, 0, 1000, 0), (29, .iastore, 1, 0, 0, 0, 0), (30, .iinc 3 1, 3, 3, 0, 1, 0), (33, .goto (-31), 3, 2, 0, 0, 0), (36, .iconst 1, 1, 0, 0, 1, 0), (37, .istore_n 3, 1, 3, 0, 0, 0), (38, .iload_n 3, 1, 3, 0, 0, 0), (39, .ifCond .eq 93, 3, 132, 0, 0, 0), (42, .iconst 0, 1, 0, 0, 0, 0), (43, .istore_n 3, 1, 3, 0, 0, 0), (44, .iconst 0, 1, 0, 0, 0, 0), (45, .istore 4, 2, 4, 0, 0, 0), (47, .iload 4, 2, 4, 0, 0, 0), (49, .aload_n 0, 1, 0, 0, 0, 0), (50, .getfield 7, 3, 4, 0, 0, 0), (53, .iconst 0, 1, 0, 0, 0, 0), (54, .iaload, 1, 0, 0, 0, 0), (55, .if_icmp .ge 74, 3, 129, 0, 0, 0), (58, .aload_n 0, 1, 0, 0, 0, 0), (59, .getfield 13, 3, 4, 3, 0, 0), (62, .aload_n 0, 1, 0, 0, 0, 0), (63, .iload 4, 2, 4, 0, 0, 0), (65, .iconst 0, 1, 0, 0, 0, 0), (66, .invokevirtual 46, 3, 0, 4, 0, 0), (69, .iaload, 1, 0, 0, 0, 0), (70, .aload_n 0, 1, 0, 0, 0, 0), (71, .iload 4, 2, 4, 0, 0, 0), (73, .iconst 3, 1, 0, 0, 3, 0), (74, .invokevirtual 46, 3, 0, 4, 0, 0), (77, .iadd, 1, 0, 0, 0, 0), (78, .istore 5, 2, 5, 0, 0, 0), (80, .iload_n 2, 1, 2, 0, 0, 0), (81, .iload 4, 2, 4, 0, 0, 0), (83, .ishr, 1, 0, 0, 0, 0), (84, .iconst 1, 1, 0, 0, 1, 0), (85, .iand, 1, 0, 0, 0, 0), (86, .iconst 1, 1, 0, 0, 1, 0), (87, .if_icmp .ne 36, 3, 123, 0, 0, 0), (90, .iload 5, 2, 5, 0, 0, 0), (92, .aload_n 0, 1, 0, 0, 0, 0), (93, .getfield 13, 3, 4, 3, 0, 0), (96, .aload_n 0, 1, 0, 0, 0, 0), (97, .iload 4, 2, 4, 0, 0, 0), (99, .iconst 1, 1, 0, 0, 1, 0), (100, .invokevirtual 46, 3, 0, 4, 0, 0), (103, .iaload, 1, 0, 0, 0, 0), (104, .if_icmp .ge 19, 3, 123, 0, 0, 0), (107, .aload_n 0, 1, 0, 0, 0, 0), (108, .getfield 13, 3, 4, 3, 0, 0), (111, .aload_n 0, 1, 0, 0, 0, 0), (112, .iload 4, 2, 4, 0, 0, 0), (114, .iconst 1, 1, 0, 0, 1, 0), (115, .invokevirtual 46, 3, 0, 4, 0, 0), (118, .iload 5, 2, 5, 0, 0, 0), (120, .iastore, 1, 0, 0, 0, 0), (121, .iconst 1, 1, 0, 0, 1, 0), (122, .istore_n 3, 1, 3, 0, 0, 0), (123, .iinc 4 1, 3, 4, 0, 1, 0), (126, .goto (-79), 3, 47, 0, 0, 0), (129, .goto (-91), 3, 38, 0, 0, 0), (132, .iconst 0, 1, 0, 0, 0, 0), (133, .istore 4, 2, 4, 0, 0, 0), (135, .iload 4, 2, 4, 0, 0, 0), (137, .bipush 8, 2, 0, 0, 8, 0), (139, .if_icmp .ge 45, 3, 184, 0, 0, 0), (142, .aload_n 0, 1, 0, 0, 0, 0), (143, .getfield 13, 3, 4, 3, 0, 0), (146, .iload 4, 2, 4, 0, 0, 0), (148, .aload_n 0, 1, 0, 0, 0, 0), (149, .getfield 13, 3, 4, 3, 0, 0), (152, .iload 4, 2, 4, 0, 0, 0), (154, .iaload, 1, 0, 0, 0, 0), (155, .aload_n 0, 1, 0, 0, 0, 0), (156, .getfield 7, 3, 4, 0, 0, 0), (159, .iconst 1, 1, 0, 0, 1, 0), (160, .iaload, 1, 0, 0, 0, 0), (161, .if_icmp .le 9, 3, 170, 0, 0, 0), (164, .sipush 1000, 3, 0, 0, 1000, 0), (167, .goto 10, 3, 177, 0, 0, 0), (170, .aload_n 0, 1, 0, 0, 0, 0), (171, .getfield 13, 3, 4, 3, 0, 0), (174, .iload 4, 2, 4, 0, 0, 0), (176, .iaload, 1, 0, 0, 0, 0), (177, .iastore, 1, 0, 0, 0, 0), (178, .iinc 4 1, 3, 4, 0, 1, 0), (181, .goto (-46), 3, 135, 0, 0, 0), (184, .return_, 1, 0, 0, 0, 0)]
theorem tkX4_hears : tOk cX4_hears "RumourSourceModel" 6 tX4_hears = true := by decide +kernel
theorem fX4_hears_0 : fetch tX4_hears 0 = some (.iconst 0, 1, 0, 0, 0, 0) := rfl
theorem fX4_hears_1 : fetch tX4_hears 1 = some (.istore_n 3, 1, 3, 0, 0, 0) := rfl
theorem fX4_hears_2 : fetch tX4_hears 2 = some (.iload_n 3, 1, 3, 0, 0, 0) := rfl
theorem fX4_hears_3 : fetch tX4_hears 3 = some (.bipush 8, 2, 0, 0, 8, 0) := rfl
theorem fX4_hears_5 : fetch tX4_hears 5 = some (.if_icmp .ge 31, 3, 36, 0, 0, 0) := rfl
theorem fX4_hears_8 : fetch tX4_hears 8 = some (.aload_n 0, 1, 0, 0, 0, 0) := rfl
theorem fX4_hears_9 : fetch tX4_hears 9 = some (.getfield 13, 3, 4, 3, 0, 0) := rfl
theorem fX4_hears_12 : fetch tX4_hears 12 = some (.iload_n 3, 1, 3, 0, 0, 0) := rfl
theorem fX4_hears_13 : fetch tX4_hears 13 = some (.iload_n 1, 1, 1, 0, 0, 0) := rfl
theorem fX4_hears_14 : fetch tX4_hears 14 = some (.iload_n 3, 1, 3, 0, 0, 0) := rfl
theorem fX4_hears_15 : fetch tX4_hears 15 = some (.ishr, 1, 0, 0, 0, 0) := rfl
theorem fX4_hears_16 : fetch tX4_hears 16 = some (.iconst 1, 1, 0, 0, 1, 0) := rfl
theorem fX4_hears_17 : fetch tX4_hears 17 = some (.iand, 1, 0, 0, 0, 0) := rfl
theorem fX4_hears_18 : fetch tX4_hears 18 = some (.iconst 1, 1, 0, 0, 1, 0) := rfl
theorem fX4_hears_19 : fetch tX4_hears 19 = some (.if_icmp .ne 7, 3, 26, 0, 0, 0) := rfl
theorem fX4_hears_22 : fetch tX4_hears 22 = some (.iconst 0, 1, 0, 0, 0, 0) := rfl
theorem fX4_hears_23 : fetch tX4_hears 23 = some (.goto 6, 3, 29, 0, 0, 0) := rfl
theorem fX4_hears_26 : fetch tX4_hears 26 = some (.sipush 1000, 3, 0, 0, 1000, 0) := rfl
theorem fX4_hears_29 : fetch tX4_hears 29 = some (.iastore, 1, 0, 0, 0, 0) := rfl
theorem fX4_hears_30 : fetch tX4_hears 30 = some (.iinc 3 1, 3, 3, 0, 1, 0) := rfl
theorem fX4_hears_33 : fetch tX4_hears 33 = some (.goto (-31), 3, 2, 0, 0, 0) := rfl
theorem fX4_hears_36 : fetch tX4_hears 36 = some (.iconst 1, 1, 0, 0, 1, 0) := rfl
theorem fX4_hears_37 : fetch tX4_hears 37 = some (.istore_n 3, 1, 3, 0, 0, 0) := rfl
theorem fX4_hears_38 : fetch tX4_hears 38 = some (.iload_n 3, 1, 3, 0, 0, 0) := rfl
theorem fX4_hears_39 : fetch tX4_hears 39 = some (.ifCond .eq 93, 3, 132, 0, 0, 0) := rfl
theorem fX4_hears_42 : fetch tX4_hears 42 = some (.iconst 0, 1, 0, 0, 0, 0) := rfl
theorem fX4_hears_43 : fetch tX4_hears 43 = some (.istore_n 3, 1, 3, 0, 0, 0) := rfl
theorem fX4_hears_44 : fetch tX4_hears 44 = some (.iconst 0, 1, 0, 0, 0, 0) := rfl
theorem fX4_hears_45 : fetch tX4_hears 45 = some (.istore 4, 2, 4, 0, 0, 0) := rfl
theorem fX4_hears_47 : fetch tX4_hears 47 = some (.iload 4, 2, 4, 0, 0, 0) := rfl
theorem fX4_hears_49 : fetch tX4_hears 49 = some (.aload_n 0, 1, 0, 0, 0, 0) := rfl
theorem fX4_hears_50 : fetch tX4_hears 50 = some (.getfield 7, 3, 4, 0, 0, 0) := rfl
theorem fX4_hears_53 : fetch tX4_hears 53 = some (.iconst 0, 1, 0, 0, 0, 0) := rfl
theorem fX4_hears_54 : fetch tX4_hears 54 = some (.iaload, 1, 0, 0, 0, 0) := rfl
theorem fX4_hears_55 : fetch tX4_hears 55 = some (.if_icmp .ge 74, 3, 129, 0, 0, 0) := rfl
theorem fX4_hears_58 : fetch tX4_hears 58 = some (.aload_n 0, 1, 0, 0, 0, 0) := rfl
theorem fX4_hears_59 : fetch tX4_hears 59 = some (.getfield 13, 3, 4, 3, 0, 0) := rfl
theorem fX4_hears_62 : fetch tX4_hears 62 = some (.aload_n 0, 1, 0, 0, 0, 0) := rfl
theorem fX4_hears_63 : fetch tX4_hears 63 = some (.iload 4, 2, 4, 0, 0, 0) := rfl
theorem fX4_hears_65 : fetch tX4_hears 65 = some (.iconst 0, 1, 0, 0, 0, 0) := rfl
theorem fX4_hears_66 : fetch tX4_hears 66 = some (.invokevirtual 46, 3, 0, 4, 0, 0) := rfl
theorem fX4_hears_69 : fetch tX4_hears 69 = some (.iaload, 1, 0, 0, 0, 0) := rfl
theorem fX4_hears_70 : fetch tX4_hears 70 = some (.aload_n 0, 1, 0, 0, 0, 0) := rfl
theorem fX4_hears_71 : fetch tX4_hears 71 = some (.iload 4, 2, 4, 0, 0, 0) := rfl
theorem fX4_hears_73 : fetch tX4_hears 73 = some (.iconst 3, 1, 0, 0, 3, 0) := rfl
theorem fX4_hears_74 : fetch tX4_hears 74 = some (.invokevirtual 46, 3, 0, 4, 0, 0) := rfl
theorem fX4_hears_77 : fetch tX4_hears 77 = some (.iadd, 1, 0, 0, 0, 0) := rfl
theorem fX4_hears_78 : fetch tX4_hears 78 = some (.istore 5, 2, 5, 0, 0, 0) := rfl
theorem fX4_hears_80 : fetch tX4_hears 80 = some (.iload_n 2, 1, 2, 0, 0, 0) := rfl
theorem fX4_hears_81 : fetch tX4_hears 81 = some (.iload 4, 2, 4, 0, 0, 0) := rfl
theorem fX4_hears_83 : fetch tX4_hears 83 = some (.ishr, 1, 0, 0, 0, 0) := rfl
theorem fX4_hears_84 : fetch tX4_hears 84 = some (.iconst 1, 1, 0, 0, 1, 0) := rfl
theorem fX4_hears_85 : fetch tX4_hears 85 = some (.iand, 1, 0, 0, 0, 0) := rfl
theorem fX4_hears_86 : fetch tX4_hears 86 = some (.iconst 1, 1, 0, 0, 1, 0) := rfl
theorem fX4_hears_87 : fetch tX4_hears 87 = some (.if_icmp .ne 36, 3, 123, 0, 0, 0) := rfl
theorem fX4_hears_90 : fetch tX4_hears 90 = some (.iload 5, 2, 5, 0, 0, 0) := rfl
theorem fX4_hears_92 : fetch tX4_hears 92 = some (.aload_n 0, 1, 0, 0, 0, 0) := rfl
theorem fX4_hears_93 : fetch tX4_hears 93 = some (.getfield 13, 3, 4, 3, 0, 0) := rfl
theorem fX4_hears_96 : fetch tX4_hears 96 = some (.aload_n 0, 1, 0, 0, 0, 0) := rfl
theorem fX4_hears_97 : fetch tX4_hears 97 = some (.iload 4, 2, 4, 0, 0, 0) := rfl
theorem fX4_hears_99 : fetch tX4_hears 99 = some (.iconst 1, 1, 0, 0, 1, 0) := rfl
theorem fX4_hears_100 : fetch tX4_hears 100 = some (.invokevirtual 46, 3, 0, 4, 0, 0) := rfl
theorem fX4_hears_103 : fetch tX4_hears 103 = some (.iaload, 1, 0, 0, 0, 0) := rfl
theorem fX4_hears_104 : fetch tX4_hears 104 = some (.if_icmp .ge 19, 3, 123, 0, 0, 0) := rfl
theorem fX4_hears_107 : fetch tX4_hears 107 = some (.aload_n 0, 1, 0, 0, 0, 0) := rfl
theorem fX4_hears_108 : fetch tX4_hears 108 = some (.getfield 13, 3, 4, 3, 0, 0) := rfl
theorem fX4_hears_111 : fetch tX4_hears 111 = some (.aload_n 0, 1, 0, 0, 0, 0) := rfl
theorem fX4_hears_112 : fetch tX4_hears 112 = some (.iload 4, 2, 4, 0, 0, 0) := rfl
theorem fX4_hears_114 : fetch tX4_hears 114 = some (.iconst 1, 1, 0, 0, 1, 0) := rfl
theorem fX4_hears_115 : fetch tX4_hears 115 = some (.invokevirtual 46, 3, 0, 4, 0, 0) := rfl
theorem fX4_hears_118 : fetch tX4_hears 118 = some (.iload 5, 2, 5, 0, 0, 0) := rfl
theorem fX4_hears_120 : fetch tX4_hears 120 = some (.iastore, 1, 0, 0, 0, 0) := rfl
theorem fX4_hears_121 : fetch tX4_hears 121 = some (.iconst 1, 1, 0, 0, 1, 0) := rfl
theorem fX4_hears_122 : fetch tX4_hears 122 = some (.istore_n 3, 1, 3, 0, 0, 0) := rfl
theorem fX4_hears_123 : fetch tX4_hears 123 = some (.iinc 4 1, 3, 4, 0, 1, 0) := rfl
theorem fX4_hears_126 : fetch tX4_hears 126 = some (.goto (-79), 3, 47, 0, 0, 0) := rfl
theorem fX4_hears_129 : fetch tX4_hears 129 = some (.goto (-91), 3, 38, 0, 0, 0) := rfl
theorem fX4_hears_132 : fetch tX4_hears 132 = some (.iconst 0, 1, 0, 0, 0, 0) := rfl
theorem fX4_hears_133 : fetch tX4_hears 133 = some (.istore 4, 2, 4, 0, 0, 0) := rfl
theorem fX4_hears_135 : fetch tX4_hears 135 = some (.iload 4, 2, 4, 0, 0, 0) := rfl
theorem fX4_hears_137 : fetch tX4_hears 137 = some (.bipush 8, 2, 0, 0, 8, 0) := rfl
theorem fX4_hears_139 : fetch tX4_hears 139 = some (.if_icmp .ge 45, 3, 184, 0, 0, 0) := rfl
theorem fX4_hears_142 : fetch tX4_hears 142 = some (.aload_n 0, 1, 0, 0, 0, 0) := rfl
theorem fX4_hears_143 : fetch tX4_hears 143 = some (.getfield 13, 3, 4, 3, 0, 0) := rfl
theorem fX4_hears_146 : fetch tX4_hears 146 = some (.iload 4, 2, 4, 0, 0, 0) := rfl
theorem fX4_hears_148 : fetch tX4_hears 148 = some (.aload_n 0, 1, 0, 0, 0, 0) := rfl
theorem fX4_hears_149 : fetch tX4_hears 149 = some (.getfield 13, 3, 4, 3, 0, 0) := rfl
theorem fX4_hears_152 : fetch tX4_hears 152 = some (.iload 4, 2, 4, 0, 0, 0) := rfl
theorem fX4_hears_154 : fetch tX4_hears 154 = some (.iaload, 1, 0, 0, 0, 0) := rfl
theorem fX4_hears_155 : fetch tX4_hears 155 = some (.aload_n 0, 1, 0, 0, 0, 0) := rfl
theorem fX4_hears_156 : fetch tX4_hears 156 = some (.getfield 7, 3, 4, 0, 0, 0) := rfl
theorem fX4_hears_159 : fetch tX4_hears 159 = some (.iconst 1, 1, 0, 0, 1, 0) := rfl
theorem fX4_hears_160 : fetch tX4_hears 160 = some (.iaload, 1, 0, 0, 0, 0) := rfl
theorem fX4_hears_161 : fetch tX4_hears 161 = some (.if_icmp .le 9, 3, 170, 0, 0, 0) := rfl
theorem fX4_hears_164 : fetch tX4_hears 164 = some (.sipush 1000, 3, 0, 0, 1000, 0) := rfl
theorem fX4_hears_167 : fetch tX4_hears 167 = some (.goto 10, 3, 177, 0, 0, 0) := rfl
theorem fX4_hears_170 : fetch tX4_hears 170 = some (.aload_n 0, 1, 0, 0, 0, 0) := rfl
theorem fX4_hears_171 : fetch tX4_hears 171 = some (.getfield 13, 3, 4, 3, 0, 0) := rfl
theorem fX4_hears_174 : fetch tX4_hears 174 = some (.iload 4, 2, 4, 0, 0, 0) := rfl
theorem fX4_hears_176 : fetch tX4_hears 176 = some (.iaload, 1, 0, 0, 0, 0) := rfl
theorem fX4_hears_177 : fetch tX4_hears 177 = some (.iastore, 1, 0, 0, 0, 0) := rfl
theorem fX4_hears_178 : fetch tX4_hears 178 = some (.iinc 4 1, 3, 4, 0, 1, 0) := rfl
theorem fX4_hears_181 : fetch tX4_hears 181 = some (.goto (-46), 3, 135, 0, 0, 0) := rfl
theorem fX4_hears_184 : fetch tX4_hears 184 = some (.return_, 1, 0, 0, 0, 0) := rfl
def tX4_told : List (Nat × TE) := [(0, .iload_n 0, 1, 0, 0, 0, 0), (1, .sipush 1000, 3, 0, 0, 1000, 0), (4, .if_icmp .ne 7, 3, 11, 0, 0, 0), (7, .iconst (-1), 1, 0, 0, (-1), 0), (8, .goto 4, 3, 12, 0, 0, 0), (11, .iload_n 0, 1, 0, 0, 0, 0), (12, .ireturn, 1, 0, 0, 0, 0)]
theorem tkX4_told : tOk cX4_told "RumourSourceModel" 1 tX4_told = true := by decide +kernel
theorem fX4_told_0 : fetch tX4_told 0 = some (.iload_n 0, 1, 0, 0, 0, 0) := rfl
theorem fX4_told_1 : fetch tX4_told 1 = some (.sipush 1000, 3, 0, 0, 1000, 0) := rfl
theorem fX4_told_4 : fetch tX4_told 4 = some (.if_icmp .ne 7, 3, 11, 0, 0, 0) := rfl
theorem fX4_told_7 : fetch tX4_told 7 = some (.iconst (-1), 1, 0, 0, (-1), 0) := rfl
theorem fX4_told_8 : fetch tX4_told 8 = some (.goto 4, 3, 12, 0, 0, 0) := rfl
theorem fX4_told_11 : fetch tX4_told 11 = some (.iload_n 0, 1, 0, 0, 0, 0) := rfl
theorem fX4_told_12 : fetch tX4_told 12 = some (.ireturn, 1, 0, 0, 0, 0) := rfl
def tX4_isFit : List (Nat × TE) := [(0, .iconst 1, 1, 0, 0, 1, 0), (1, .istore_n 1, 1, 1, 0, 0, 0), (2, .iconst 0, 1, 0, 0, 0, 0), (3, .istore_n 2, 1, 2, 0, 0, 0), (4, .iload_n 2, 1, 2, 0, 0, 0), (5, .bipush 8, 2, 0, 0, 8, 0), (7, .if_icmp .ge 54, 3, 61, 0, 0, 0), (10, .iload_n 1, 1, 1, 0, 0, 0), (11, .ifCond .eq 42, 3, 53, 0, 0, 0), (14, .aload_n 0, 1, 0, 0, 0, 0), (15, .getfield 7, 3, 4, 0, 0, 0), (18, .bipush 51, 2, 0, 0, 51, 0), (20, .iload_n 2, 1, 2, 0, 0, 0), (21, .iadd, 1, 0, 0, 0, 0), (22, .iaload, 1, 0, 0, 0, 0), (23, .bipush 100, 2, 0, 0, 100, 0), (25, .if_icmp .eq 24, 3, 49, 0, 0, 0), (28, .aload_n 0, 1, 0, 0, 0, 0), (29, .getfield 7, 3, 4, 0, 0, 0), (32, .bipush 51, 2, 0, 0, 51, 0), (34, .iload_n 2, 1, 2, 0, 0, 0), (35, .iadd, 1, 0, 0, 0, 0), (36, .iaload, 1, 0, 0, 0, 0), (37, .aload_n 0, 1, 0, 0, 0, 0), (38, .getfield 13, 3, 4, 3, 0, 0), (41, .iload_n 2, 1, 2, 0, 0, 0), (42, .iaload, 1, 0, 0, 0, 0), (43, .invokestatic 67, 3, 0, 4, 0, 0), (46, .if_icmp .ne 7, 3, 53, 0, 0, 0), (49, .iconst 1, 1, 0, 0, 1, 0), (50, .goto 4, 3, 54, 0, 0, 0), (53, .iconst 0, 1, 0, 0, 0, 0), (54, .istore_n 1, 1, 1, 0, 0, 0), (55, .iinc 2 1, 3, 2, 0, 1, 0), (58, .goto (-54), 3, 4, 0, 0, 0), (61, .iload_n 1, 1, 1, 0, 0, 0), (62, .ireturn, 1, 0, 0, 0, 0)]
theorem tkX4_isFit : tOk cX4_isFit "RumourSourceModel" 3 tX4_isFit = true := by decide +kernel
theorem fX4_isFit_0 : fetch tX4_isFit 0 = some (.iconst 1, 1, 0, 0, 1, 0) := rfl
theorem fX4_isFit_1 : fetch tX4_isFit 1 = some (.istore_n 1, 1, 1, 0, 0, 0) := rfl
theorem fX4_isFit_2 : fetch tX4_isFit 2 = some (.iconst 0, 1, 0, 0, 0, 0) := rfl
theorem fX4_isFit_3 : fetch tX4_isFit 3 = some (.istore_n 2, 1, 2, 0, 0, 0) := rfl
theorem fX4_isFit_4 : fetch tX4_isFit 4 = some (.iload_n 2, 1, 2, 0, 0, 0) := rfl
theorem fX4_isFit_5 : fetch tX4_isFit 5 = some (.bipush 8, 2, 0, 0, 8, 0) := rfl
theorem fX4_isFit_7 : fetch tX4_isFit 7 = some (.if_icmp .ge 54, 3, 61, 0, 0, 0) := rfl
theorem fX4_isFit_10 : fetch tX4_isFit 10 = some (.iload_n 1, 1, 1, 0, 0, 0) := rfl
theorem fX4_isFit_11 : fetch tX4_isFit 11 = some (.ifCond .eq 42, 3, 53, 0, 0, 0) := rfl
theorem fX4_isFit_14 : fetch tX4_isFit 14 = some (.aload_n 0, 1, 0, 0, 0, 0) := rfl
theorem fX4_isFit_15 : fetch tX4_isFit 15 = some (.getfield 7, 3, 4, 0, 0, 0) := rfl
theorem fX4_isFit_18 : fetch tX4_isFit 18 = some (.bipush 51, 2, 0, 0, 51, 0) := rfl
theorem fX4_isFit_20 : fetch tX4_isFit 20 = some (.iload_n 2, 1, 2, 0, 0, 0) := rfl
theorem fX4_isFit_21 : fetch tX4_isFit 21 = some (.iadd, 1, 0, 0, 0, 0) := rfl
theorem fX4_isFit_22 : fetch tX4_isFit 22 = some (.iaload, 1, 0, 0, 0, 0) := rfl
theorem fX4_isFit_23 : fetch tX4_isFit 23 = some (.bipush 100, 2, 0, 0, 100, 0) := rfl
theorem fX4_isFit_25 : fetch tX4_isFit 25 = some (.if_icmp .eq 24, 3, 49, 0, 0, 0) := rfl
theorem fX4_isFit_28 : fetch tX4_isFit 28 = some (.aload_n 0, 1, 0, 0, 0, 0) := rfl
theorem fX4_isFit_29 : fetch tX4_isFit 29 = some (.getfield 7, 3, 4, 0, 0, 0) := rfl
theorem fX4_isFit_32 : fetch tX4_isFit 32 = some (.bipush 51, 2, 0, 0, 51, 0) := rfl
theorem fX4_isFit_34 : fetch tX4_isFit 34 = some (.iload_n 2, 1, 2, 0, 0, 0) := rfl
theorem fX4_isFit_35 : fetch tX4_isFit 35 = some (.iadd, 1, 0, 0, 0, 0) := rfl
theorem fX4_isFit_36 : fetch tX4_isFit 36 = some (.iaload, 1, 0, 0, 0, 0) := rfl
theorem fX4_isFit_37 : fetch tX4_isFit 37 = some (.aload_n 0, 1, 0, 0, 0, 0) := rfl
theorem fX4_isFit_38 : fetch tX4_isFit 38 = some (.getfield 13, 3, 4, 3, 0, 0) := rfl
theorem fX4_isFit_41 : fetch tX4_isFit 41 = some (.iload_n 2, 1, 2, 0, 0, 0) := rfl
theorem fX4_isFit_42 : fetch tX4_isFit 42 = some (.iaload, 1, 0, 0, 0, 0) := rfl
theorem fX4_isFit_43 : fetch tX4_isFit 43 = some (.invokestatic 67, 3, 0, 4, 0, 0) := rfl
theorem fX4_isFit_46 : fetch tX4_isFit 46 = some (.if_icmp .ne 7, 3, 53, 0, 0, 0) := rfl
theorem fX4_isFit_49 : fetch tX4_isFit 49 = some (.iconst 1, 1, 0, 0, 1, 0) := rfl
theorem fX4_isFit_50 : fetch tX4_isFit 50 = some (.goto 4, 3, 54, 0, 0, 0) := rfl
theorem fX4_isFit_53 : fetch tX4_isFit 53 = some (.iconst 0, 1, 0, 0, 0, 0) := rfl
theorem fX4_isFit_54 : fetch tX4_isFit 54 = some (.istore_n 1, 1, 1, 0, 0, 0) := rfl
theorem fX4_isFit_55 : fetch tX4_isFit 55 = some (.iinc 2 1, 3, 2, 0, 1, 0) := rfl
theorem fX4_isFit_58 : fetch tX4_isFit 58 = some (.goto (-54), 3, 4, 0, 0, 0) := rfl
theorem fX4_isFit_61 : fetch tX4_isFit 61 = some (.iload_n 1, 1, 1, 0, 0, 0) := rfl
theorem fX4_isFit_62 : fetch tX4_isFit 62 = some (.ireturn, 1, 0, 0, 0, 0) := rfl
def tX4_weightOf : List (Nat × TE) := [(0, .lconst 1, 1, 0, 0, 0, 1), (1, .lstore_n 2, 1, 2, 0, 0, 0), (2, .iconst 0, 1, 0, 0, 0, 0), (3, .istore 4, 2, 4, 0, 0, 0), (5, .iload 4, 2, 4, 0, 0, 0), (7, .aload_n 0, 1, 0, 0, 0, 0), (8, .getfield 7, 3, 4, 0, 0, 0), (11, .iconst 0, 1, 0, 0, 0, 0), (12, .iaload, 1, 0, 0, 0, 0), (13, .if_icmp .ge 44, 3, 57, 0, 0, 0), (16, .lload_n 2, 1, 2, 0, 0, 0), (17, .iload_n 1, 1, 1, 0, 0, 0), (18, .iload 4, 2, 4, 0, 0, 0), (20, .ishr, 1, 0, 0, 0, 0), (21, .iconst 1, 1, 0, 0, 1, 0), (22, .iand, 1, 0, 0, 0, 0), (23, .iconst 1, 1, 0, 0, 1, 0), (24, .if_icmp .ne 14, 3, 38, 0, 0, 0), (27, .aload_n 0, 1, 0, 0, 0, 0), (28, .iload 4, 2, 4, 0, 0, 0), (30, .iconst 2, 1, 0, 0, 2, 0), (31, .invokevirtual 46, 3, 0, 4, 0, 0), (34, .i2l, 1, 0, 0, 0, 0), (35, .goto 14, 3, 49, 0, 0, 0), (38, .bipush 10, 2, 0, 0, 10, 0), (40, .aload_n 0, 1, 0, 0, 0, 0), (41, .iload 4, 2, 4, 0, 0, 0), (43, .iconst 2, 1, 0, 0, 2, 0), (44, .invokevirtual 46, 3, 0, 4, 0, 0), (47, .isub, 1, 0, 0, 0, 0), (48, .i2l, 1, 0, 0, 0, 0), (49, .lmul, 1, 0, 0, 0, 0), (50, .lstore_n 2, 1, 2, 0, 0, 0), (51, .iinc 4 1, 3, 4, 0, 1, 0), (54, .goto (-49), 3, 5, 0, 0, 0), (57, .lload_n 2, 1, 2, 0, 0, 0), (58, .lreturn, 1, 0, 0, 0, 0)]
theorem tkX4_weightOf : tOk cX4_weightOf "RumourSourceModel" 5 tX4_weightOf = true := by decide +kernel
theorem fX4_weightOf_0 : fetch tX4_weightOf 0 = some (.lconst 1, 1, 0, 0, 0, 1) := rfl
theorem fX4_weightOf_1 : fetch tX4_weightOf 1 = some (.lstore_n 2, 1, 2, 0, 0, 0) := rfl
theorem fX4_weightOf_2 : fetch tX4_weightOf 2 = some (.iconst 0, 1, 0, 0, 0, 0) := rfl
theorem fX4_weightOf_3 : fetch tX4_weightOf 3 = some (.istore 4, 2, 4, 0, 0, 0) := rfl
theorem fX4_weightOf_5 : fetch tX4_weightOf 5 = some (.iload 4, 2, 4, 0, 0, 0) := rfl
theorem fX4_weightOf_7 : fetch tX4_weightOf 7 = some (.aload_n 0, 1, 0, 0, 0, 0) := rfl
theorem fX4_weightOf_8 : fetch tX4_weightOf 8 = some (.getfield 7, 3, 4, 0, 0, 0) := rfl
theorem fX4_weightOf_11 : fetch tX4_weightOf 11 = some (.iconst 0, 1, 0, 0, 0, 0) := rfl
theorem fX4_weightOf_12 : fetch tX4_weightOf 12 = some (.iaload, 1, 0, 0, 0, 0) := rfl
theorem fX4_weightOf_13 : fetch tX4_weightOf 13 = some (.if_icmp .ge 44, 3, 57, 0, 0, 0) := rfl
theorem fX4_weightOf_16 : fetch tX4_weightOf 16 = some (.lload_n 2, 1, 2, 0, 0, 0) := rfl
theorem fX4_weightOf_17 : fetch tX4_weightOf 17 = some (.iload_n 1, 1, 1, 0, 0, 0) := rfl
theorem fX4_weightOf_18 : fetch tX4_weightOf 18 = some (.iload 4, 2, 4, 0, 0, 0) := rfl
theorem fX4_weightOf_20 : fetch tX4_weightOf 20 = some (.ishr, 1, 0, 0, 0, 0) := rfl
theorem fX4_weightOf_21 : fetch tX4_weightOf 21 = some (.iconst 1, 1, 0, 0, 1, 0) := rfl
theorem fX4_weightOf_22 : fetch tX4_weightOf 22 = some (.iand, 1, 0, 0, 0, 0) := rfl
theorem fX4_weightOf_23 : fetch tX4_weightOf 23 = some (.iconst 1, 1, 0, 0, 1, 0) := rfl
theorem fX4_weightOf_24 : fetch tX4_weightOf 24 = some (.if_icmp .ne 14, 3, 38, 0, 0, 0) := rfl
theorem fX4_weightOf_27 : fetch tX4_weightOf 27 = some (.aload_n 0, 1, 0, 0, 0, 0) := rfl
theorem fX4_weightOf_28 : fetch tX4_weightOf 28 = some (.iload 4, 2, 4, 0, 0, 0) := rfl
theorem fX4_weightOf_30 : fetch tX4_weightOf 30 = some (.iconst 2, 1, 0, 0, 2, 0) := rfl
theorem fX4_weightOf_31 : fetch tX4_weightOf 31 = some (.invokevirtual 46, 3, 0, 4, 0, 0) := rfl
theorem fX4_weightOf_34 : fetch tX4_weightOf 34 = some (.i2l, 1, 0, 0, 0, 0) := rfl
theorem fX4_weightOf_35 : fetch tX4_weightOf 35 = some (.goto 14, 3, 49, 0, 0, 0) := rfl
theorem fX4_weightOf_38 : fetch tX4_weightOf 38 = some (.bipush 10, 2, 0, 0, 10, 0) := rfl
theorem fX4_weightOf_40 : fetch tX4_weightOf 40 = some (.aload_n 0, 1, 0, 0, 0, 0) := rfl
theorem fX4_weightOf_41 : fetch tX4_weightOf 41 = some (.iload 4, 2, 4, 0, 0, 0) := rfl
theorem fX4_weightOf_43 : fetch tX4_weightOf 43 = some (.iconst 2, 1, 0, 0, 2, 0) := rfl
theorem fX4_weightOf_44 : fetch tX4_weightOf 44 = some (.invokevirtual 46, 3, 0, 4, 0, 0) := rfl
theorem fX4_weightOf_47 : fetch tX4_weightOf 47 = some (.isub, 1, 0, 0, 0, 0) := rfl
theorem fX4_weightOf_48 : fetch tX4_weightOf 48 = some (.i2l, 1, 0, 0, 0, 0) := rfl
theorem fX4_weightOf_49 : fetch tX4_weightOf 49 = some (.lmul, 1, 0, 0, 0, 0) := rfl
theorem fX4_weightOf_50 : fetch tX4_weightOf 50 = some (.lstore_n 2, 1, 2, 0, 0, 0) := rfl
theorem fX4_weightOf_51 : fetch tX4_weightOf 51 = some (.iinc 4 1, 3, 4, 0, 1, 0) := rfl
theorem fX4_weightOf_54 : fetch tX4_weightOf 54 = some (.goto (-49), 3, 5, 0, 0, 0) := rfl
theorem fX4_weightOf_57 : fetch tX4_weightOf 57 = some (.lload_n 2, 1, 2, 0, 0, 0) := rfl
theorem fX4_weightOf_58 : fetch tX4_weightOf 58 = some (.lreturn, 1, 0, 0, 0, 0) := rfl
def tX4_isOutcome : List (Nat × TE) := [(0, .iload_n 1, 1, 1, 0, 0, 0), (1, .iconst 0, 1, 0, 0, 0, 0), (2, .iconst 1, 1, 0, 0, 1, 0), (3, .aload_n 0, 1, 0, 0, 0, 0), (4, .getfield 7, 3, 4, 0, 0, 0), (7, .iconst 0, 1, 0, 0, 0, 0), (8, .iaload, 1, 0, 0, 0, 0), (9, .ishl, 1, 0, 0, 0, 0), (10, .iconst 1, 1, 0, 0, 1, 0), (11, .isub, 1, 0, 0, 0, 0), (12, .invokestatic 42, 3, 0, 4, 0, 0), (15, .ireturn, 1, 0, 0, 0, 0)]
theorem tkX4_isOutcome : tOk cX4_isOutcome "RumourSourceModel" 2 tX4_isOutcome = true := by decide +kernel
theorem fX4_isOutcome_0 : fetch tX4_isOutcome 0 = some (.iload_n 1, 1, 1, 0, 0, 0) := rfl
theorem fX4_isOutcome_1 : fetch tX4_isOutcome 1 = some (.iconst 0, 1, 0, 0, 0, 0) := rfl
theorem fX4_isOutcome_2 : fetch tX4_isOutcome 2 = some (.iconst 1, 1, 0, 0, 1, 0) := rfl
theorem fX4_isOutcome_3 : fetch tX4_isOutcome 3 = some (.aload_n 0, 1, 0, 0, 0, 0) := rfl
theorem fX4_isOutcome_4 : fetch tX4_isOutcome 4 = some (.getfield 7, 3, 4, 0, 0, 0) := rfl
theorem fX4_isOutcome_7 : fetch tX4_isOutcome 7 = some (.iconst 0, 1, 0, 0, 0, 0) := rfl
theorem fX4_isOutcome_8 : fetch tX4_isOutcome 8 = some (.iaload, 1, 0, 0, 0, 0) := rfl
theorem fX4_isOutcome_9 : fetch tX4_isOutcome 9 = some (.ishl, 1, 0, 0, 0, 0) := rfl
theorem fX4_isOutcome_10 : fetch tX4_isOutcome 10 = some (.iconst 1, 1, 0, 0, 1, 0) := rfl
theorem fX4_isOutcome_11 : fetch tX4_isOutcome 11 = some (.isub, 1, 0, 0, 0, 0) := rfl
theorem fX4_isOutcome_12 : fetch tX4_isOutcome 12 = some (.invokestatic 42, 3, 0, 4, 0, 0) := rfl
theorem fX4_isOutcome_15 : fetch tX4_isOutcome 15 = some (.ireturn, 1, 0, 0, 0, 0) := rfl
def tX4_isStart : List (Nat × TE) := [(0, .iload_n 0, 1, 0, 0, 0, 0), (1, .iconst 1, 1, 0, 0, 1, 0), (2, .sipush 255, 3, 0, 0, 255, 0), (5, .invokestatic 42, 3, 0, 4, 0, 0), (8, .ireturn, 1, 0, 0, 0, 0)]
theorem tkX4_isStart : tOk cX4_isStart "RumourSourceModel" 1 tX4_isStart = true := by decide +kernel
theorem fX4_isStart_0 : fetch tX4_isStart 0 = some (.iload_n 0, 1, 0, 0, 0, 0) := rfl
theorem fX4_isStart_1 : fetch tX4_isStart 1 = some (.iconst 1, 1, 0, 0, 1, 0) := rfl
theorem fX4_isStart_2 : fetch tX4_isStart 2 = some (.sipush 255, 3, 0, 0, 255, 0) := rfl
theorem fX4_isStart_5 : fetch tX4_isStart 5 = some (.invokestatic 42, 3, 0, 4, 0, 0) := rfl
theorem fX4_isStart_8 : fetch tX4_isStart 8 = some (.ireturn, 1, 0, 0, 0, 0) := rfl
def tX4_becomes : List (Nat × TE) := [(0, .aload_n 0, 1, 0, 0, 0, 0), (1, .invokevirtual 57, 3, 0, 4, 0, 0), (4, .aload_n 0, 1, 0, 0, 0, 0), (5, .getfield 7, 3, 4, 0, 0, 0), (8, .bipush 51, 2, 0, 0, 51, 0), (10, .iload_n 1, 1, 1, 0, 0, 0), (11, .iadd, 1, 0, 0, 0, 0), (12, .iaload, 1, 0, 0, 0, 0), (13, .istore_n 3, 1, 3, 0, 0, 0), (14, .aload_n 0, 1, 0, 0, 0, 0), (15, .getfield 7, 3, 4, 0, 0, 0), (18, .bipush 51, 2, 0, 0, 51, 0), (20, .iload_n 1, 1, 1, 0, 0, 0), (21, .iadd, 1, 0, 0, 0, 0), (22, .iload_n 2, 1, 2, 0, 0, 0), (23, .iastore, 1, 0, 0, 0, 0), (24, .iload_n 3, 1, 3, 0, 0, 0), (25, .ireturn, 1, 0, 0, 0, 0)]
theorem tkX4_becomes : tOk cX4_becomes "RumourSourceModel" 4 tX4_becomes = true := by decide +kernel
theorem fX4_becomes_0 : fetch tX4_becomes 0 = some (.aload_n 0, 1, 0, 0, 0, 0) := rfl
theorem fX4_becomes_1 : fetch tX4_becomes 1 = some (.invokevirtual 57, 3, 0, 4, 0, 0) := rfl
theorem fX4_becomes_4 : fetch tX4_becomes 4 = some (.aload_n 0, 1, 0, 0, 0, 0) := rfl
theorem fX4_becomes_5 : fetch tX4_becomes 5 = some (.getfield 7, 3, 4, 0, 0, 0) := rfl
theorem fX4_becomes_8 : fetch tX4_becomes 8 = some (.bipush 51, 2, 0, 0, 51, 0) := rfl
theorem fX4_becomes_10 : fetch tX4_becomes 10 = some (.iload_n 1, 1, 1, 0, 0, 0) := rfl
theorem fX4_becomes_11 : fetch tX4_becomes 11 = some (.iadd, 1, 0, 0, 0, 0) := rfl
theorem fX4_becomes_12 : fetch tX4_becomes 12 = some (.iaload, 1, 0, 0, 0, 0) := rfl
theorem fX4_becomes_13 : fetch tX4_becomes 13 = some (.istore_n 3, 1, 3, 0, 0, 0) := rfl
theorem fX4_becomes_14 : fetch tX4_becomes 14 = some (.aload_n 0, 1, 0, 0, 0, 0) := rfl
theorem fX4_becomes_15 : fetch tX4_becomes 15 = some (.getfield 7, 3, 4, 0, 0, 0) := rfl
theorem fX4_becomes_18 : fetch tX4_becomes 18 = some (.bipush 51, 2, 0, 0, 51, 0) := rfl
theorem fX4_becomes_20 : fetch tX4_becomes 20 = some (.iload_n 1, 1, 1, 0, 0, 0) := rfl
theorem fX4_becomes_21 : fetch tX4_becomes 21 = some (.iadd, 1, 0, 0, 0, 0) := rfl
theorem fX4_becomes_22 : fetch tX4_becomes 22 = some (.iload_n 2, 1, 2, 0, 0, 0) := rfl
theorem fX4_becomes_23 : fetch tX4_becomes 23 = some (.iastore, 1, 0, 0, 0, 0) := rfl
theorem fX4_becomes_24 : fetch tX4_becomes 24 = some (.iload_n 3, 1, 3, 0, 0, 0) := rfl
theorem fX4_becomes_25 : fetch tX4_becomes 25 = some (.ireturn, 1, 0, 0, 0, 0) := rfl
def tX4_observe : List (Nat × TE) := [(0, .iload_n 1, 1, 1, 0, 0, 0), (1, .invokestatic 50, 3, 0, 4, 0, 0), (4, .ifCond .ne 6, 3, 10, 0, 0, 0), (7, .bipush (-2), 2, 0, 0, (-2), 0), (9, .ireturn, 1, 0, 0, 0, 0), (10, .iload_n 2, 1, 2, 0, 0, 0), (11, .iconst (-1), 1, 0, 0, (-1), 0), (12, .bipush 30, 2, 0, 0, 30, 0), (14, .invokestatic 42, 3, 1, 4, 0, 0), (17, .ifCond .eq 12, 3, 29, 0, 0, 0), (20, .aload_n 0, 1, 0, 0, 0, 0), (21, .iload_n 1, 1, 1, 0, 0, 0), (22, .iload_n 2, 1, 2, 0, 0, 0), (23, .invokevirtual 71, 3, 2, 4, 0, 0), (26, .goto 5, 3, 31, 0, 0, 0), (29, .bipush (-3), 2, 0, 0, (-3), 0), (31, .ireturn, 1, 0, 0, 0, 0)]
theorem tkX4_observe : tOk cX4_observe "RumourSourceModel" 3 tX4_observe = true := by decide +kernel
theorem fX4_observe_0 : fetch tX4_observe 0 = some (.iload_n 1, 1, 1, 0, 0, 0) := rfl
theorem fX4_observe_1 : fetch tX4_observe 1 = some (.invokestatic 50, 3, 0, 4, 0, 0) := rfl
theorem fX4_observe_4 : fetch tX4_observe 4 = some (.ifCond .ne 6, 3, 10, 0, 0, 0) := rfl
theorem fX4_observe_7 : fetch tX4_observe 7 = some (.bipush (-2), 2, 0, 0, (-2), 0) := rfl
theorem fX4_observe_9 : fetch tX4_observe 9 = some (.ireturn, 1, 0, 0, 0, 0) := rfl
theorem fX4_observe_10 : fetch tX4_observe 10 = some (.iload_n 2, 1, 2, 0, 0, 0) := rfl
theorem fX4_observe_11 : fetch tX4_observe 11 = some (.iconst (-1), 1, 0, 0, (-1), 0) := rfl
theorem fX4_observe_12 : fetch tX4_observe 12 = some (.bipush 30, 2, 0, 0, 30, 0) := rfl
theorem fX4_observe_14 : fetch tX4_observe 14 = some (.invokestatic 42, 3, 1, 4, 0, 0) := rfl
theorem fX4_observe_17 : fetch tX4_observe 17 = some (.ifCond .eq 12, 3, 29, 0, 0, 0) := rfl
theorem fX4_observe_20 : fetch tX4_observe 20 = some (.aload_n 0, 1, 0, 0, 0, 0) := rfl
theorem fX4_observe_21 : fetch tX4_observe 21 = some (.iload_n 1, 1, 1, 0, 0, 0) := rfl
theorem fX4_observe_22 : fetch tX4_observe 22 = some (.iload_n 2, 1, 2, 0, 0, 0) := rfl
theorem fX4_observe_23 : fetch tX4_observe 23 = some (.invokevirtual 71, 3, 2, 4, 0, 0) := rfl
theorem fX4_observe_26 : fetch tX4_observe 26 = some (.goto 5, 3, 31, 0, 0, 0) := rfl
theorem fX4_observe_29 : fetch tX4_observe 29 = some (.bipush (-3), 2, 0, 0, (-3), 0) := rfl
theorem fX4_observe_31 : fetch tX4_observe 31 = some (.ireturn, 1, 0, 0, 0, 0) := rfl
def tX4_forget : List (Nat × TE) := [(0, .iload_n 1, 1, 1, 0, 0, 0), (1, .invokestatic 50, 3, 0, 4, 0, 0), (4, .ifCond .eq 13, 3, 17, 0, 0, 0), (7, .aload_n 0, 1, 0, 0, 0, 0), (8, .iload_n 1, 1, 1, 0, 0, 0), (9, .bipush 100, 2, 0, 0, 100, 0), (11, .invokevirtual 71, 3, 1, 4, 0, 0), (14, .goto 5, 3, 19, 0, 0, 0), (17, .bipush (-2), 2, 0, 0, (-2), 0), (19, .ireturn, 1, 0, 0, 0, 0)]
theorem tkX4_forget : tOk cX4_forget "RumourSourceModel" 2 tX4_forget = true := by decide +kernel
theorem fX4_forget_0 : fetch tX4_forget 0 = some (.iload_n 1, 1, 1, 0, 0, 0) := rfl
theorem fX4_forget_1 : fetch tX4_forget 1 = some (.invokestatic 50, 3, 0, 4, 0, 0) := rfl
theorem fX4_forget_4 : fetch tX4_forget 4 = some (.ifCond .eq 13, 3, 17, 0, 0, 0) := rfl
theorem fX4_forget_7 : fetch tX4_forget 7 = some (.aload_n 0, 1, 0, 0, 0, 0) := rfl
theorem fX4_forget_8 : fetch tX4_forget 8 = some (.iload_n 1, 1, 1, 0, 0, 0) := rfl
theorem fX4_forget_9 : fetch tX4_forget 9 = some (.bipush 100, 2, 0, 0, 100, 0) := rfl
theorem fX4_forget_11 : fetch tX4_forget 11 = some (.invokevirtual 71, 3, 1, 4, 0, 0) := rfl
theorem fX4_forget_14 : fetch tX4_forget 14 = some (.goto 5, 3, 19, 0, 0, 0) := rfl
theorem fX4_forget_17 : fetch tX4_forget 17 = some (.bipush (-2), 2, 0, 0, (-2), 0) := rfl
theorem fX4_forget_19 : fetch tX4_forget 19 = some (.ireturn, 1, 0, 0, 0, 0) := rfl
def tX4_observed : List (Nat × TE) := [(0, .iload_n 1, 1, 1, 0, 0, 0), (1, .invokestatic 50, 3, 0, 4, 0, 0), (4, .ifCond .eq 15, 3, 19, 0, 0, 0), (7, .aload_n 0, 1, 0, 0, 0, 0), (8, .getfield 7, 3, 4, 0, 0, 0), (11, .bipush 51, 2, 0, 0, 51, 0), (13, .iload_n 1, 1, 1, 0, 0, 0), (14, .iadd, 1, 0, 0, 0, 0), (15, .iaload, 1, 0, 0, 0, 0), (16, .goto 5, 3, 21, 0, 0, 0), (19, .bipush (-2), 2, 0, 0, (-2), 0), (21, .ireturn, 1, 0, 0, 0, 0)]
theorem tkX4_observed : tOk cX4_observed "RumourSourceModel" 2 tX4_observed = true := by decide +kernel
theorem fX4_observed_0 : fetch tX4_observed 0 = some (.iload_n 1, 1, 1, 0, 0, 0) := rfl
theorem fX4_observed_1 : fetch tX4_observed 1 = some (.invokestatic 50, 3, 0, 4, 0, 0) := rfl
theorem fX4_observed_4 : fetch tX4_observed 4 = some (.ifCond .eq 15, 3, 19, 0, 0, 0) := rfl
theorem fX4_observed_7 : fetch tX4_observed 7 = some (.aload_n 0, 1, 0, 0, 0, 0) := rfl
theorem fX4_observed_8 : fetch tX4_observed 8 = some (.getfield 7, 3, 4, 0, 0, 0) := rfl
theorem fX4_observed_11 : fetch tX4_observed 11 = some (.bipush 51, 2, 0, 0, 51, 0) := rfl
theorem fX4_observed_13 : fetch tX4_observed 13 = some (.iload_n 1, 1, 1, 0, 0, 0) := rfl
theorem fX4_observed_14 : fetch tX4_observed 14 = some (.iadd, 1, 0, 0, 0, 0) := rfl
theorem fX4_observed_15 : fetch tX4_observed 15 = some (.iaload, 1, 0, 0, 0, 0) := rfl
theorem fX4_observed_16 : fetch tX4_observed 16 = some (.goto 5, 3, 21, 0, 0, 0) := rfl
theorem fX4_observed_19 : fetch tX4_observed 19 = some (.bipush (-2), 2, 0, 0, (-2), 0) := rfl
theorem fX4_observed_21 : fetch tX4_observed 21 = some (.ireturn, 1, 0, 0, 0, 0) := rfl
def tX4_setSensors : List (Nat × TE) := [(0, .iload_n 1, 1, 1, 0, 0, 0), (1, .iconst 0, 1, 0, 0, 0, 0), (2, .sipush 255, 3, 0, 0, 255, 0), (5, .invokestatic 42, 3, 0, 4, 0, 0), (8, .ifCond .ne 6, 3, 14, 0, 0, 0), (11, .bipush (-3), 2, 0, 0, (-3), 0), (13, .ireturn, 1, 0, 0, 0, 0), (14, .aload_n 0, 1, 0, 0, 0, 0), (15, .invokevirtual 57, 3, 1, 4, 0, 0), (18, .aload_n 0, 1, 0, 0, 0, 0), (19, .getfield 7, 3, 4, 0, 0, 0), (22, .iconst 2, 1, 0, 0, 2, 0), (23, .iaload, 1, 0, 0, 0, 0), (24, .istore_n 2, 1, 2, 0, 0, 0), (25, .aload_n 0, 1, 0, 0, 0, 0), (26, .getfield 7, 3, 4, 0, 0, 0), (29, .iconst 2, 1, 0, 0, 2, 0), (30, .iload_n 1, 1, 1, 0, 0, 0), (31, .iastore, 1, 0, 0, 0, 0), (32, .iload_n 2, 1, 2, 0, 0, 0), (33, .ireturn, 1, 0, 0, 0, 0)]
theorem tkX4_setSensors : tOk cX4_setSensors "RumourSourceModel" 3 tX4_setSensors = true := by decide +kernel
theorem fX4_setSensors_0 : fetch tX4_setSensors 0 = some (.iload_n 1, 1, 1, 0, 0, 0) := rfl
theorem fX4_setSensors_1 : fetch tX4_setSensors 1 = some (.iconst 0, 1, 0, 0, 0, 0) := rfl
theorem fX4_setSensors_2 : fetch tX4_setSensors 2 = some (.sipush 255, 3, 0, 0, 255, 0) := rfl
theorem fX4_setSensors_5 : fetch tX4_setSensors 5 = some (.invokestatic 42, 3, 0, 4, 0, 0) := rfl
theorem fX4_setSensors_8 : fetch tX4_setSensors 8 = some (.ifCond .ne 6, 3, 14, 0, 0, 0) := rfl
theorem fX4_setSensors_11 : fetch tX4_setSensors 11 = some (.bipush (-3), 2, 0, 0, (-3), 0) := rfl
theorem fX4_setSensors_13 : fetch tX4_setSensors 13 = some (.ireturn, 1, 0, 0, 0, 0) := rfl
theorem fX4_setSensors_14 : fetch tX4_setSensors 14 = some (.aload_n 0, 1, 0, 0, 0, 0) := rfl
theorem fX4_setSensors_15 : fetch tX4_setSensors 15 = some (.invokevirtual 57, 3, 1, 4, 0, 0) := rfl
theorem fX4_setSensors_18 : fetch tX4_setSensors 18 = some (.aload_n 0, 1, 0, 0, 0, 0) := rfl
theorem fX4_setSensors_19 : fetch tX4_setSensors 19 = some (.getfield 7, 3, 4, 0, 0, 0) := rfl
theorem fX4_setSensors_22 : fetch tX4_setSensors 22 = some (.iconst 2, 1, 0, 0, 2, 0) := rfl
theorem fX4_setSensors_23 : fetch tX4_setSensors 23 = some (.iaload, 1, 0, 0, 0, 0) := rfl
theorem fX4_setSensors_24 : fetch tX4_setSensors 24 = some (.istore_n 2, 1, 2, 0, 0, 0) := rfl
theorem fX4_setSensors_25 : fetch tX4_setSensors 25 = some (.aload_n 0, 1, 0, 0, 0, 0) := rfl
theorem fX4_setSensors_26 : fetch tX4_setSensors 26 = some (.getfield 7, 3, 4, 0, 0, 0) := rfl
theorem fX4_setSensors_29 : fetch tX4_setSensors 29 = some (.iconst 2, 1, 0, 0, 2, 0) := rfl
theorem fX4_setSensors_30 : fetch tX4_setSensors 30 = some (.iload_n 1, 1, 1, 0, 0, 0) := rfl
theorem fX4_setSensors_31 : fetch tX4_setSensors 31 = some (.iastore, 1, 0, 0, 0, 0) := rfl
theorem fX4_setSensors_32 : fetch tX4_setSensors 32 = some (.iload_n 2, 1, 2, 0, 0, 0) := rfl
theorem fX4_setSensors_33 : fetch tX4_setSensors 33 = some (.ireturn, 1, 0, 0, 0, 0) := rfl
def tX4_simulate : List (Nat × TE) := [(0, .iload_n 1, 1, 1, 0, 0, 0), (1, .invokestatic 74, 3, 0, 4, 0, 0), (4, .ifCond .ne 6, 3, 10, 0, 0, 0), (7, .bipush (-3), 2, 0, 0, (-3), 0), (9, .ireturn, 1, 0, 0, 0, 0), (10, .aload_n 0, 1, 0, 0, 0, 0), (11, .invokevirtual 57, 3, 1, 4, 0, 0), (14, .iload_n 2, 1, 2, 0, 0, 0), (15, .istore_n 3, 1, 3, 0, 0, 0), (16, .iconst 0, 1, 0, 0, 0, 0), (17, .istore 4, 2, 4, 0, 0, 0), (19, .iconst 0, 1, 0, 0, 0, 0), (20, .istore 5, 2, 5, 0, 0, 0), (22, .iload 5, 2, 5, 0, 0, 0), (24, .aload_n 0, 1, 0, 0, 0, 0), (25, .getfield 7, 3, 4, 0, 0, 0), (28, .iconst 0, 1, 0, 0, 0, 0), (29, .iaload, 1, 0, 0, 0, 0), (30, .if_icmp .ge 48, 3, 78, 0, 0, 0), (33, .iload_n 3, 1, 3, 0, 0, 0), (34, .ldc 77, 2, 0, 0, 1103515245, 0), (36, .imul, 1, 0, 0, 0, 0), (37, .sipush 12345, 3, 0, 0, 12345, 0), (40, .iadd, 1, 0, 0, 0, 0), (41, .istore_n 3, 1, 3, 0, 0, 0), (42, .iload 4, 2, 4, 0, 0, 0), (44, .iload_n 3, 1, 3, 0, 0, 0), (45, .bipush 8, 2, 0, 0, 8, 0), (47, .iushr, 1, 0, 0, 0, 0), (48, .bipush 10, 2, 0, 0, 10, 0), (50, .irem, 1, 0, 0, 0, 0), (51, .aload_n 0, 1, 0, 0, 0, 0), (52, .iload 5, 2, 5, 0, 0, 0), (54, .iconst 2, 1, 0, 0, 2, 0), (55, .invokevirtual 46, 3, 2, 4, 0, 0), (58, .if_icmp .ge 10, 3, 68, 0, 0, 0), (61, .iconst 1, 1, 0, 0, 1, 0), (62, .iload 5, 2, 5, 0, 0, 0), (64, .ishl, 1, 0, 0, 0, 0), (65, .goto 4, 3, 69, 0, 0, 0), (68, .iconst 0, 1, 0, 0, 0, 0), (69, .ior, 1, 0, 0, 0, 0), (70, .istore 4, 2, 4, 0, 0, 0), (72, .iinc 5 1, 3, 5, 0, 1, 0), (75, .goto (-53), 3, 22, 0, 0, 0), (78, .aload_n 0, 1, 0, 0, 0, 0), (79, .iload_n 1, 1, 1, 0, 0, 0), (80, .iload 4, 2, 4, 0, 0, 0), (82, .invokevirtual 78, 3, 3, 4, 0, 0), (85, .iconst 0, 1, 0, 0, 0, 0), (86, .istore 5, 2, 5, 0, 0, 0), (88, .iconst 0, 1, 0, 0, 0, 0), (89, .istore 6, 2, 6, 0, 0, 0), (91, .iload 6, 2, 6, 0, 0, 0), (93, .bipush 8, 2, 0, 0, 8, 0), (95, .if_icmp .ge 72, 3, 167, 0, 0, 0), (98, .aload_n 0, 1, 0, 0, 0, 0), (99, .getfield 7, 3, 4, 0, 0, 0), (102, .bipush 51, 2, 0, 0, 51, 0), (104, .iload 6, 2, 6, 0, 0, 0), (106, .iadd, 1, 0, 0, 0, 0), (107, .aload_n 0, 1, 0, 0, 0, 0), (108, .getfield 7, 3, 4, 0, 0, 0), (111, .iconst 2, 1, 0, 0, 2, 0), (112, .iaload, 1, 0, 0, 0, 0), (113, .iload 6, 2, 6, 0, 0, 0), (115, .ishr, 1, 0, 0, 0, 0), (116, .iconst 1, 1, 0, 0, 1, 0), (117, .iand, 1, 0, 0, 0, 0), (118, .iconst 1, 1, 0, 0, 1, 0), (119, .if_icmp .ne 16, 3, 135, 0, 0, 0), (122, .aload_n 0, 1, 0, 0, 0, 0), (123, .getfield 13, 3, 4, 3, 0, 0), (126, .iload 6, 2, 6, 0, 0, 0), (128, .iaload, 1, 0, 0, 0, 0), (129, .invokestatic 67, 3, 4, 4, 0, 0), (132, .goto 5, 3, 137, 0, 0, 0), (135, .bipush 100, 2, 0, 0, 100, 0), (137, .iastore, 1, 0, 0, 0, 0), (138, .iload 5, 2, 5, 0, 0, 0), (140, .aload_n 0, 1, 0, 0, 0, 0), (141, .getfield 13, 3, 4, 3, 0, 0), (144, .iload 6, 2, 6, 0, 0, 0), (146, .iaload, 1, 0, 0, 0, 0), (147, .sipush 1000, 3, 0, 0, 1000, 0), (150, .if_icmp .ne 7, 3, 157, 0, 0, 0), (153, .iconst 0, 1, 0, 0, 0, 0), (154, .goto 4, 3, 158, 0, 0, 0), (157, .iconst 1, 1, 0, 0, 1, 0), (158, .iadd, 1, 0, 0, 0, 0), (159, .istore 5, 2, 5, 0, 0, 0), (161, .iinc 6 1, 3, 6, 0, 1, 0), (164, .goto (-73), 3, 91, 0, 0, 0), (167, .iload 5, 2, 5, 0, 0, 0), (169, .ireturn, 1, 0, 0, 0, 0)]
theorem tkX4_simulate : tOk cX4_simulate "RumourSourceModel" 7 tX4_simulate = true := by decide +kernel
theorem fX4_simulate_0 : fetch tX4_simulate 0 = some (.iload_n 1, 1, 1, 0, 0, 0) := rfl
theorem fX4_simulate_1 : fetch tX4_simulate 1 = some (.invokestatic 74, 3, 0, 4, 0, 0) := rfl
theorem fX4_simulate_4 : fetch tX4_simulate 4 = some (.ifCond .ne 6, 3, 10, 0, 0, 0) := rfl
theorem fX4_simulate_7 : fetch tX4_simulate 7 = some (.bipush (-3), 2, 0, 0, (-3), 0) := rfl
theorem fX4_simulate_9 : fetch tX4_simulate 9 = some (.ireturn, 1, 0, 0, 0, 0) := rfl
theorem fX4_simulate_10 : fetch tX4_simulate 10 = some (.aload_n 0, 1, 0, 0, 0, 0) := rfl
theorem fX4_simulate_11 : fetch tX4_simulate 11 = some (.invokevirtual 57, 3, 1, 4, 0, 0) := rfl
theorem fX4_simulate_14 : fetch tX4_simulate 14 = some (.iload_n 2, 1, 2, 0, 0, 0) := rfl
theorem fX4_simulate_15 : fetch tX4_simulate 15 = some (.istore_n 3, 1, 3, 0, 0, 0) := rfl
theorem fX4_simulate_16 : fetch tX4_simulate 16 = some (.iconst 0, 1, 0, 0, 0, 0) := rfl
theorem fX4_simulate_17 : fetch tX4_simulate 17 = some (.istore 4, 2, 4, 0, 0, 0) := rfl
theorem fX4_simulate_19 : fetch tX4_simulate 19 = some (.iconst 0, 1, 0, 0, 0, 0) := rfl
theorem fX4_simulate_20 : fetch tX4_simulate 20 = some (.istore 5, 2, 5, 0, 0, 0) := rfl
theorem fX4_simulate_22 : fetch tX4_simulate 22 = some (.iload 5, 2, 5, 0, 0, 0) := rfl
theorem fX4_simulate_24 : fetch tX4_simulate 24 = some (.aload_n 0, 1, 0, 0, 0, 0) := rfl
theorem fX4_simulate_25 : fetch tX4_simulate 25 = some (.getfield 7, 3, 4, 0, 0, 0) := rfl
theorem fX4_simulate_28 : fetch tX4_simulate 28 = some (.iconst 0, 1, 0, 0, 0, 0) := rfl
theorem fX4_simulate_29 : fetch tX4_simulate 29 = some (.iaload, 1, 0, 0, 0, 0) := rfl
theorem fX4_simulate_30 : fetch tX4_simulate 30 = some (.if_icmp .ge 48, 3, 78, 0, 0, 0) := rfl
theorem fX4_simulate_33 : fetch tX4_simulate 33 = some (.iload_n 3, 1, 3, 0, 0, 0) := rfl
theorem fX4_simulate_34 : fetch tX4_simulate 34 = some (.ldc 77, 2, 0, 0, 1103515245, 0) := rfl
theorem fX4_simulate_36 : fetch tX4_simulate 36 = some (.imul, 1, 0, 0, 0, 0) := rfl
theorem fX4_simulate_37 : fetch tX4_simulate 37 = some (.sipush 12345, 3, 0, 0, 12345, 0) := rfl
theorem fX4_simulate_40 : fetch tX4_simulate 40 = some (.iadd, 1, 0, 0, 0, 0) := rfl
theorem fX4_simulate_41 : fetch tX4_simulate 41 = some (.istore_n 3, 1, 3, 0, 0, 0) := rfl
theorem fX4_simulate_42 : fetch tX4_simulate 42 = some (.iload 4, 2, 4, 0, 0, 0) := rfl
theorem fX4_simulate_44 : fetch tX4_simulate 44 = some (.iload_n 3, 1, 3, 0, 0, 0) := rfl
theorem fX4_simulate_45 : fetch tX4_simulate 45 = some (.bipush 8, 2, 0, 0, 8, 0) := rfl
theorem fX4_simulate_47 : fetch tX4_simulate 47 = some (.iushr, 1, 0, 0, 0, 0) := rfl
theorem fX4_simulate_48 : fetch tX4_simulate 48 = some (.bipush 10, 2, 0, 0, 10, 0) := rfl
theorem fX4_simulate_50 : fetch tX4_simulate 50 = some (.irem, 1, 0, 0, 0, 0) := rfl
theorem fX4_simulate_51 : fetch tX4_simulate 51 = some (.aload_n 0, 1, 0, 0, 0, 0) := rfl
theorem fX4_simulate_52 : fetch tX4_simulate 52 = some (.iload 5, 2, 5, 0, 0, 0) := rfl
theorem fX4_simulate_54 : fetch tX4_simulate 54 = some (.iconst 2, 1, 0, 0, 2, 0) := rfl
theorem fX4_simulate_55 : fetch tX4_simulate 55 = some (.invokevirtual 46, 3, 2, 4, 0, 0) := rfl
theorem fX4_simulate_58 : fetch tX4_simulate 58 = some (.if_icmp .ge 10, 3, 68, 0, 0, 0) := rfl
theorem fX4_simulate_61 : fetch tX4_simulate 61 = some (.iconst 1, 1, 0, 0, 1, 0) := rfl
theorem fX4_simulate_62 : fetch tX4_simulate 62 = some (.iload 5, 2, 5, 0, 0, 0) := rfl
theorem fX4_simulate_64 : fetch tX4_simulate 64 = some (.ishl, 1, 0, 0, 0, 0) := rfl
theorem fX4_simulate_65 : fetch tX4_simulate 65 = some (.goto 4, 3, 69, 0, 0, 0) := rfl
theorem fX4_simulate_68 : fetch tX4_simulate 68 = some (.iconst 0, 1, 0, 0, 0, 0) := rfl
theorem fX4_simulate_69 : fetch tX4_simulate 69 = some (.ior, 1, 0, 0, 0, 0) := rfl
theorem fX4_simulate_70 : fetch tX4_simulate 70 = some (.istore 4, 2, 4, 0, 0, 0) := rfl
theorem fX4_simulate_72 : fetch tX4_simulate 72 = some (.iinc 5 1, 3, 5, 0, 1, 0) := rfl
theorem fX4_simulate_75 : fetch tX4_simulate 75 = some (.goto (-53), 3, 22, 0, 0, 0) := rfl
theorem fX4_simulate_78 : fetch tX4_simulate 78 = some (.aload_n 0, 1, 0, 0, 0, 0) := rfl
theorem fX4_simulate_79 : fetch tX4_simulate 79 = some (.iload_n 1, 1, 1, 0, 0, 0) := rfl
theorem fX4_simulate_80 : fetch tX4_simulate 80 = some (.iload 4, 2, 4, 0, 0, 0) := rfl
theorem fX4_simulate_82 : fetch tX4_simulate 82 = some (.invokevirtual 78, 3, 3, 4, 0, 0) := rfl
theorem fX4_simulate_85 : fetch tX4_simulate 85 = some (.iconst 0, 1, 0, 0, 0, 0) := rfl
theorem fX4_simulate_86 : fetch tX4_simulate 86 = some (.istore 5, 2, 5, 0, 0, 0) := rfl
theorem fX4_simulate_88 : fetch tX4_simulate 88 = some (.iconst 0, 1, 0, 0, 0, 0) := rfl
theorem fX4_simulate_89 : fetch tX4_simulate 89 = some (.istore 6, 2, 6, 0, 0, 0) := rfl
theorem fX4_simulate_91 : fetch tX4_simulate 91 = some (.iload 6, 2, 6, 0, 0, 0) := rfl
theorem fX4_simulate_93 : fetch tX4_simulate 93 = some (.bipush 8, 2, 0, 0, 8, 0) := rfl
theorem fX4_simulate_95 : fetch tX4_simulate 95 = some (.if_icmp .ge 72, 3, 167, 0, 0, 0) := rfl
theorem fX4_simulate_98 : fetch tX4_simulate 98 = some (.aload_n 0, 1, 0, 0, 0, 0) := rfl
theorem fX4_simulate_99 : fetch tX4_simulate 99 = some (.getfield 7, 3, 4, 0, 0, 0) := rfl
theorem fX4_simulate_102 : fetch tX4_simulate 102 = some (.bipush 51, 2, 0, 0, 51, 0) := rfl
theorem fX4_simulate_104 : fetch tX4_simulate 104 = some (.iload 6, 2, 6, 0, 0, 0) := rfl
theorem fX4_simulate_106 : fetch tX4_simulate 106 = some (.iadd, 1, 0, 0, 0, 0) := rfl
theorem fX4_simulate_107 : fetch tX4_simulate 107 = some (.aload_n 0, 1, 0, 0, 0, 0) := rfl
theorem fX4_simulate_108 : fetch tX4_simulate 108 = some (.getfield 7, 3, 4, 0, 0, 0) := rfl
theorem fX4_simulate_111 : fetch tX4_simulate 111 = some (.iconst 2, 1, 0, 0, 2, 0) := rfl
theorem fX4_simulate_112 : fetch tX4_simulate 112 = some (.iaload, 1, 0, 0, 0, 0) := rfl
theorem fX4_simulate_113 : fetch tX4_simulate 113 = some (.iload 6, 2, 6, 0, 0, 0) := rfl
theorem fX4_simulate_115 : fetch tX4_simulate 115 = some (.ishr, 1, 0, 0, 0, 0) := rfl
theorem fX4_simulate_116 : fetch tX4_simulate 116 = some (.iconst 1, 1, 0, 0, 1, 0) := rfl
theorem fX4_simulate_117 : fetch tX4_simulate 117 = some (.iand, 1, 0, 0, 0, 0) := rfl
theorem fX4_simulate_118 : fetch tX4_simulate 118 = some (.iconst 1, 1, 0, 0, 1, 0) := rfl
theorem fX4_simulate_119 : fetch tX4_simulate 119 = some (.if_icmp .ne 16, 3, 135, 0, 0, 0) := rfl
theorem fX4_simulate_122 : fetch tX4_simulate 122 = some (.aload_n 0, 1, 0, 0, 0, 0) := rfl
theorem fX4_simulate_123 : fetch tX4_simulate 123 = some (.getfield 13, 3, 4, 3, 0, 0) := rfl
theorem fX4_simulate_126 : fetch tX4_simulate 126 = some (.iload 6, 2, 6, 0, 0, 0) := rfl
theorem fX4_simulate_128 : fetch tX4_simulate 128 = some (.iaload, 1, 0, 0, 0, 0) := rfl
theorem fX4_simulate_129 : fetch tX4_simulate 129 = some (.invokestatic 67, 3, 4, 4, 0, 0) := rfl
theorem fX4_simulate_132 : fetch tX4_simulate 132 = some (.goto 5, 3, 137, 0, 0, 0) := rfl
theorem fX4_simulate_135 : fetch tX4_simulate 135 = some (.bipush 100, 2, 0, 0, 100, 0) := rfl
theorem fX4_simulate_137 : fetch tX4_simulate 137 = some (.iastore, 1, 0, 0, 0, 0) := rfl
theorem fX4_simulate_138 : fetch tX4_simulate 138 = some (.iload 5, 2, 5, 0, 0, 0) := rfl
theorem fX4_simulate_140 : fetch tX4_simulate 140 = some (.aload_n 0, 1, 0, 0, 0, 0) := rfl
theorem fX4_simulate_141 : fetch tX4_simulate 141 = some (.getfield 13, 3, 4, 3, 0, 0) := rfl
theorem fX4_simulate_144 : fetch tX4_simulate 144 = some (.iload 6, 2, 6, 0, 0, 0) := rfl
theorem fX4_simulate_146 : fetch tX4_simulate 146 = some (.iaload, 1, 0, 0, 0, 0) := rfl
theorem fX4_simulate_147 : fetch tX4_simulate 147 = some (.sipush 1000, 3, 0, 0, 1000, 0) := rfl
theorem fX4_simulate_150 : fetch tX4_simulate 150 = some (.if_icmp .ne 7, 3, 157, 0, 0, 0) := rfl
theorem fX4_simulate_153 : fetch tX4_simulate 153 = some (.iconst 0, 1, 0, 0, 0, 0) := rfl
theorem fX4_simulate_154 : fetch tX4_simulate 154 = some (.goto 4, 3, 158, 0, 0, 0) := rfl
theorem fX4_simulate_157 : fetch tX4_simulate 157 = some (.iconst 1, 1, 0, 0, 1, 0) := rfl
theorem fX4_simulate_158 : fetch tX4_simulate 158 = some (.iadd, 1, 0, 0, 0, 0) := rfl
theorem fX4_simulate_159 : fetch tX4_simulate 159 = some (.istore 5, 2, 5, 0, 0, 0) := rfl
theorem fX4_simulate_161 : fetch tX4_simulate 161 = some (.iinc 6 1, 3, 6, 0, 1, 0) := rfl
theorem fX4_simulate_164 : fetch tX4_simulate 164 = some (.goto (-73), 3, 91, 0, 0, 0) := rfl
theorem fX4_simulate_167 : fetch tX4_simulate 167 = some (.iload 5, 2, 5, 0, 0, 0) := rfl
theorem fX4_simulate_169 : fetch tX4_simulate 169 = some (.ireturn, 1, 0, 0, 0, 0) := rfl
def tX4_timeBy : List (Nat × TE) := [(0, .iload_n 3, 1, 3, 0, 0, 0), (1, .invokestatic 50, 3, 0, 4, 0, 0), (4, .ifCond .ne 6, 3, 10, 0, 0, 0), (7, .bipush (-2), 2, 0, 0, (-2), 0), (9, .ireturn, 1, 0, 0, 0, 0), (10, .iload_n 1, 1, 1, 0, 0, 0), (11, .invokestatic 74, 3, 1, 4, 0, 0), (14, .ifCond .eq 11, 3, 25, 0, 0, 0), (17, .aload_n 0, 1, 0, 0, 0, 0), (18, .iload_n 2, 1, 2, 0, 0, 0), (19, .invokevirtual 81, 3, 2, 4, 0, 0), (22, .ifCond .ne 6, 3, 28, 0, 0, 0), (25, .bipush (-3), 2, 0, 0, (-3), 0), (27, .ireturn, 1, 0, 0, 0, 0), (28, .aload_n 0, 1, 0, 0, 0, 0), (29, .iload_n 1, 1, 1, 0, 0, 0), (30, .iload_n 2, 1, 2, 0, 0, 0), (31, .invokevirtual 78, 3, 3, 4, 0, 0), (34, .aload_n 0, 1, 0, 0, 0, 0), (35, .getfield 13, 3, 4, 3, 0, 0), (38, .iload_n 3, 1, 3, 0, 0, 0), (39, .iaload, 1, 0, 0, 0, 0), (40, .invokestatic 67, 3, 4, 4, 0, 0), (43, .ireturn, 1, 0, 0, 0, 0)]
theorem tkX4_timeBy : tOk cX4_timeBy "RumourSourceModel" 4 tX4_timeBy = true := by decide +kernel
theorem fX4_timeBy_0 : fetch tX4_timeBy 0 = some (.iload_n 3, 1, 3, 0, 0, 0) := rfl
theorem fX4_timeBy_1 : fetch tX4_timeBy 1 = some (.invokestatic 50, 3, 0, 4, 0, 0) := rfl
theorem fX4_timeBy_4 : fetch tX4_timeBy 4 = some (.ifCond .ne 6, 3, 10, 0, 0, 0) := rfl
theorem fX4_timeBy_7 : fetch tX4_timeBy 7 = some (.bipush (-2), 2, 0, 0, (-2), 0) := rfl
theorem fX4_timeBy_9 : fetch tX4_timeBy 9 = some (.ireturn, 1, 0, 0, 0, 0) := rfl
theorem fX4_timeBy_10 : fetch tX4_timeBy 10 = some (.iload_n 1, 1, 1, 0, 0, 0) := rfl
theorem fX4_timeBy_11 : fetch tX4_timeBy 11 = some (.invokestatic 74, 3, 1, 4, 0, 0) := rfl
theorem fX4_timeBy_14 : fetch tX4_timeBy 14 = some (.ifCond .eq 11, 3, 25, 0, 0, 0) := rfl
theorem fX4_timeBy_17 : fetch tX4_timeBy 17 = some (.aload_n 0, 1, 0, 0, 0, 0) := rfl
theorem fX4_timeBy_18 : fetch tX4_timeBy 18 = some (.iload_n 2, 1, 2, 0, 0, 0) := rfl
theorem fX4_timeBy_19 : fetch tX4_timeBy 19 = some (.invokevirtual 81, 3, 2, 4, 0, 0) := rfl
theorem fX4_timeBy_22 : fetch tX4_timeBy 22 = some (.ifCond .ne 6, 3, 28, 0, 0, 0) := rfl
theorem fX4_timeBy_25 : fetch tX4_timeBy 25 = some (.bipush (-3), 2, 0, 0, (-3), 0) := rfl
theorem fX4_timeBy_27 : fetch tX4_timeBy 27 = some (.ireturn, 1, 0, 0, 0, 0) := rfl
theorem fX4_timeBy_28 : fetch tX4_timeBy 28 = some (.aload_n 0, 1, 0, 0, 0, 0) := rfl
theorem fX4_timeBy_29 : fetch tX4_timeBy 29 = some (.iload_n 1, 1, 1, 0, 0, 0) := rfl
theorem fX4_timeBy_30 : fetch tX4_timeBy 30 = some (.iload_n 2, 1, 2, 0, 0, 0) := rfl
theorem fX4_timeBy_31 : fetch tX4_timeBy 31 = some (.invokevirtual 78, 3, 3, 4, 0, 0) := rfl
theorem fX4_timeBy_34 : fetch tX4_timeBy 34 = some (.aload_n 0, 1, 0, 0, 0, 0) := rfl
theorem fX4_timeBy_35 : fetch tX4_timeBy 35 = some (.getfield 13, 3, 4, 3, 0, 0) := rfl
theorem fX4_timeBy_38 : fetch tX4_timeBy 38 = some (.iload_n 3, 1, 3, 0, 0, 0) := rfl
theorem fX4_timeBy_39 : fetch tX4_timeBy 39 = some (.iaload, 1, 0, 0, 0, 0) := rfl
theorem fX4_timeBy_40 : fetch tX4_timeBy 40 = some (.invokestatic 67, 3, 4, 4, 0, 0) := rfl
theorem fX4_timeBy_43 : fetch tX4_timeBy 43 = some (.ireturn, 1, 0, 0, 0, 0) := rfl
def tX4_weight : List (Nat × TE) := [(0, .aload_n 0, 1, 0, 0, 0, 0), (1, .iload_n 1, 1, 1, 0, 0, 0), (2, .invokevirtual 81, 3, 0, 4, 0, 0), (5, .ifCond .eq 11, 3, 16, 0, 0, 0), (8, .aload_n 0, 1, 0, 0, 0, 0), (9, .iload_n 1, 1, 1, 0, 0, 0), (10, .invokevirtual 84, 3, 1, 4, 0, 0), (13, .goto 6, 3, 19, 0, 0, 0), (16, .ldc2_w 88, 3, 0, 0, 0, (-3)), (19, .lreturn, 1, 0, 0, 0, 0)]
theorem tkX4_weight : tOk cX4_weight "RumourSourceModel" 2 tX4_weight = true := by decide +kernel
theorem fX4_weight_0 : fetch tX4_weight 0 = some (.aload_n 0, 1, 0, 0, 0, 0) := rfl
theorem fX4_weight_1 : fetch tX4_weight 1 = some (.iload_n 1, 1, 1, 0, 0, 0) := rfl
theorem fX4_weight_2 : fetch tX4_weight 2 = some (.invokevirtual 81, 3, 0, 4, 0, 0) := rfl
theorem fX4_weight_5 : fetch tX4_weight 5 = some (.ifCond .eq 11, 3, 16, 0, 0, 0) := rfl
theorem fX4_weight_8 : fetch tX4_weight 8 = some (.aload_n 0, 1, 0, 0, 0, 0) := rfl
theorem fX4_weight_9 : fetch tX4_weight 9 = some (.iload_n 1, 1, 1, 0, 0, 0) := rfl
theorem fX4_weight_10 : fetch tX4_weight 10 = some (.invokevirtual 84, 3, 1, 4, 0, 0) := rfl
theorem fX4_weight_13 : fetch tX4_weight 13 = some (.goto 6, 3, 19, 0, 0, 0) := rfl
theorem fX4_weight_16 : fetch tX4_weight 16 = some (.ldc2_w 88, 3, 0, 0, 0, (-3)) := rfl
theorem fX4_weight_19 : fetch tX4_weight 19 = some (.lreturn, 1, 0, 0, 0, 0) := rfl
def tX4_fits : List (Nat × TE) := [(0, .iload_n 1, 1, 1, 0, 0, 0), (1, .invokestatic 74, 3, 0, 4, 0, 0), (4, .ifCond .eq 11, 3, 15, 0, 0, 0), (7, .aload_n 0, 1, 0, 0, 0, 0), (8, .iload_n 2, 1, 2, 0, 0, 0), (9, .invokevirtual 81, 3, 1, 4, 0, 0), (12, .ifCond .ne 6, 3, 18, 0, 0, 0), (15, .bipush (-3), 2, 0, 0, (-3), 0), (17, .ireturn, 1, 0, 0, 0, 0), (18, .aload_n 0, 1, 0, 0, 0, 0), (19, .iload_n 1, 1, 1, 0, 0, 0), (20, .iload_n 2, 1, 2, 0, 0, 0), (21, .invokevirtual 78, 3, 2, 4, 0, 0), (24, .aload_n 0, 1, 0, 0, 0, 0), (25, .invokevirtual 90, 3, 3, 4, 0, 0), (28, .ifCond .eq 7, 3, 35, 0, 0, 0), (31, .iconst 1, 1, 0, 0, 1, 0), (32, .goto 4, 3, 36, 0, 0, 0), (35, .iconst 0, 1, 0, 0, 0, 0), (36, .ireturn, 1, 0, 0, 0, 0)]
theorem tkX4_fits : tOk cX4_fits "RumourSourceModel" 3 tX4_fits = true := by decide +kernel
theorem fX4_fits_0 : fetch tX4_fits 0 = some (.iload_n 1, 1, 1, 0, 0, 0) := rfl
theorem fX4_fits_1 : fetch tX4_fits 1 = some (.invokestatic 74, 3, 0, 4, 0, 0) := rfl
theorem fX4_fits_4 : fetch tX4_fits 4 = some (.ifCond .eq 11, 3, 15, 0, 0, 0) := rfl
theorem fX4_fits_7 : fetch tX4_fits 7 = some (.aload_n 0, 1, 0, 0, 0, 0) := rfl
theorem fX4_fits_8 : fetch tX4_fits 8 = some (.iload_n 2, 1, 2, 0, 0, 0) := rfl
theorem fX4_fits_9 : fetch tX4_fits 9 = some (.invokevirtual 81, 3, 1, 4, 0, 0) := rfl
theorem fX4_fits_12 : fetch tX4_fits 12 = some (.ifCond .ne 6, 3, 18, 0, 0, 0) := rfl
theorem fX4_fits_15 : fetch tX4_fits 15 = some (.bipush (-3), 2, 0, 0, (-3), 0) := rfl
theorem fX4_fits_17 : fetch tX4_fits 17 = some (.ireturn, 1, 0, 0, 0, 0) := rfl
theorem fX4_fits_18 : fetch tX4_fits 18 = some (.aload_n 0, 1, 0, 0, 0, 0) := rfl
theorem fX4_fits_19 : fetch tX4_fits 19 = some (.iload_n 1, 1, 1, 0, 0, 0) := rfl
theorem fX4_fits_20 : fetch tX4_fits 20 = some (.iload_n 2, 1, 2, 0, 0, 0) := rfl
theorem fX4_fits_21 : fetch tX4_fits 21 = some (.invokevirtual 78, 3, 2, 4, 0, 0) := rfl
theorem fX4_fits_24 : fetch tX4_fits 24 = some (.aload_n 0, 1, 0, 0, 0, 0) := rfl
theorem fX4_fits_25 : fetch tX4_fits 25 = some (.invokevirtual 90, 3, 3, 4, 0, 0) := rfl
theorem fX4_fits_28 : fetch tX4_fits 28 = some (.ifCond .eq 7, 3, 35, 0, 0, 0) := rfl
theorem fX4_fits_31 : fetch tX4_fits 31 = some (.iconst 1, 1, 0, 0, 1, 0) := rfl
theorem fX4_fits_32 : fetch tX4_fits 32 = some (.goto 4, 3, 36, 0, 0, 0) := rfl
theorem fX4_fits_35 : fetch tX4_fits 35 = some (.iconst 0, 1, 0, 0, 0, 0) := rfl
theorem fX4_fits_36 : fetch tX4_fits 36 = some (.ireturn, 1, 0, 0, 0, 0) := rfl
def tX4_timeWeight : List (Nat × TE) := [(0, .iload_n 2, 1, 2, 0, 0, 0), (1, .invokestatic 50, 3, 0, 4, 0, 0), (4, .ifCond .ne 7, 3, 11, 0, 0, 0), (7, .ldc2_w 94, 3, 0, 0, 0, (-2)), (10, .lreturn, 1, 0, 0, 0, 0), (11, .iload_n 1, 1, 1, 0, 0, 0), (12, .invokestatic 74, 3, 1, 4, 0, 0), (15, .ifCond .eq 13, 3, 28, 0, 0, 0), (18, .iload_n 3, 1, 3, 0, 0, 0), (19, .iconst (-1), 1, 0, 0, (-1), 0), (20, .bipush 30, 2, 0, 0, 30, 0), (22, .invokestatic 42, 3, 2, 4, 0, 0), (25, .ifCond .ne 7, 3, 32, 0, 0, 0), (28, .ldc2_w 88, 3, 0, 0, 0, (-3)), (31, .lreturn, 1, 0, 0, 0, 0), (32, .lconst 0, 1, 0, 0, 0, 0), (33, .lstore 4, 2, 4, 0, 0, 0), (35, .iconst 0, 1, 0, 0, 0, 0), (36, .istore 6, 2, 6, 0, 0, 0), (38, .iload 6, 2, 6, 0, 0, 0), (40, .iconst 1, 1, 0, 0, 1, 0), (41, .aload_n 0, 1, 0, 0, 0, 0), (42, .getfield 7, 3, 4, 0, 0, 0), (45, .iconst 0, 1, 0, 0, 0, 0), (46, .iaload, 1, 0, 0, 0, 0), (47, .ishl, 1, 0, 0, 0, 0), (48, .if_icmp .ge 55, 3, 103, 0, 0, 0), (51, .aload_n 0, 1, 0, 0, 0, 0), (52, .iload 6, 2, 6, 0, 0, 0), (54, .invokevirtual 84, 3, 3, 4, 0, 0), (57, .lstore 7, 2, 7, 0, 0, 0), (59, .lload 7, 2, 7, 0, 0, 0), (61, .lconst 0, 1, 0, 0, 0, 0), (62, .lcmp, 1, 0, 0, 0, 0), (63, .ifCond .le 34, 3, 97, 0, 0, 0), (66, .aload_n 0, 1, 0, 0, 0, 0), (67, .iload_n 1, 1, 1, 0, 0, 0), (68, .iload 6, 2, 6, 0, 0, 0), (70, .invokevirtual 78, 3, 4, 4, 0, 0), (73, .lload 4, 2, 4, 0, 0, 0), (75, .aload_n 0, 1, 0, 0, 0, 0), (76, .getfield 13, 3, 4, 3, 0, 0), (79, .iload_n 2, 1, 2, 0, 0, 0), (80, .iaload, 1, 0, 0, 0, 0), (81, .invokestatic 67, 3, 5, 4, 0, 0), (84, .iload_n 3, 1, 3, 0, 0, 0), (85, .if_icmp .ne 8, 3, 93, 0, 0, 0), (88, .lload 7, 2, 7, 0, 0, 0), (90, .goto 4, 3, 94, 0, 0, 0), (93, .lconst 0, 1, 0, 0, 0, 0), (94, .ladd, 1, 0, 0, 0, 0), (95, .lstore 4, 2, 4, 0, 0, 0), (97, .iinc 6 1, 3, 6, 0, 1, 0), (100, .goto (-62), 3, 38, 0, 0, 0), (103, .lload 4, 2, 4, 0, 0, 0), (105, .lreturn, 1, 0, 0, 0, 0)]
theorem tkX4_timeWeight : tOk cX4_timeWeight "RumourSourceModel" 9 tX4_timeWeight = true := by decide +kernel
theorem fX4_timeWeight_0 : fetch tX4_timeWeight 0 = some (.iload_n 2, 1, 2, 0, 0, 0) := rfl
theorem fX4_timeWeight_1 : fetch tX4_timeWeight 1 = some (.invokestatic 50, 3, 0, 4, 0, 0) := rfl
theorem fX4_timeWeight_4 : fetch tX4_timeWeight 4 = some (.ifCond .ne 7, 3, 11, 0, 0, 0) := rfl
theorem fX4_timeWeight_7 : fetch tX4_timeWeight 7 = some (.ldc2_w 94, 3, 0, 0, 0, (-2)) := rfl
theorem fX4_timeWeight_10 : fetch tX4_timeWeight 10 = some (.lreturn, 1, 0, 0, 0, 0) := rfl
theorem fX4_timeWeight_11 : fetch tX4_timeWeight 11 = some (.iload_n 1, 1, 1, 0, 0, 0) := rfl
theorem fX4_timeWeight_12 : fetch tX4_timeWeight 12 = some (.invokestatic 74, 3, 1, 4, 0, 0) := rfl
theorem fX4_timeWeight_15 : fetch tX4_timeWeight 15 = some (.ifCond .eq 13, 3, 28, 0, 0, 0) := rfl
theorem fX4_timeWeight_18 : fetch tX4_timeWeight 18 = some (.iload_n 3, 1, 3, 0, 0, 0) := rfl
theorem fX4_timeWeight_19 : fetch tX4_timeWeight 19 = some (.iconst (-1), 1, 0, 0, (-1), 0) := rfl
theorem fX4_timeWeight_20 : fetch tX4_timeWeight 20 = some (.bipush 30, 2, 0, 0, 30, 0) := rfl
theorem fX4_timeWeight_22 : fetch tX4_timeWeight 22 = some (.invokestatic 42, 3, 2, 4, 0, 0) := rfl
theorem fX4_timeWeight_25 : fetch tX4_timeWeight 25 = some (.ifCond .ne 7, 3, 32, 0, 0, 0) := rfl
theorem fX4_timeWeight_28 : fetch tX4_timeWeight 28 = some (.ldc2_w 88, 3, 0, 0, 0, (-3)) := rfl
theorem fX4_timeWeight_31 : fetch tX4_timeWeight 31 = some (.lreturn, 1, 0, 0, 0, 0) := rfl
theorem fX4_timeWeight_32 : fetch tX4_timeWeight 32 = some (.lconst 0, 1, 0, 0, 0, 0) := rfl
theorem fX4_timeWeight_33 : fetch tX4_timeWeight 33 = some (.lstore 4, 2, 4, 0, 0, 0) := rfl
theorem fX4_timeWeight_35 : fetch tX4_timeWeight 35 = some (.iconst 0, 1, 0, 0, 0, 0) := rfl
theorem fX4_timeWeight_36 : fetch tX4_timeWeight 36 = some (.istore 6, 2, 6, 0, 0, 0) := rfl
theorem fX4_timeWeight_38 : fetch tX4_timeWeight 38 = some (.iload 6, 2, 6, 0, 0, 0) := rfl
theorem fX4_timeWeight_40 : fetch tX4_timeWeight 40 = some (.iconst 1, 1, 0, 0, 1, 0) := rfl
theorem fX4_timeWeight_41 : fetch tX4_timeWeight 41 = some (.aload_n 0, 1, 0, 0, 0, 0) := rfl
theorem fX4_timeWeight_42 : fetch tX4_timeWeight 42 = some (.getfield 7, 3, 4, 0, 0, 0) := rfl
theorem fX4_timeWeight_45 : fetch tX4_timeWeight 45 = some (.iconst 0, 1, 0, 0, 0, 0) := rfl
theorem fX4_timeWeight_46 : fetch tX4_timeWeight 46 = some (.iaload, 1, 0, 0, 0, 0) := rfl
theorem fX4_timeWeight_47 : fetch tX4_timeWeight 47 = some (.ishl, 1, 0, 0, 0, 0) := rfl
theorem fX4_timeWeight_48 : fetch tX4_timeWeight 48 = some (.if_icmp .ge 55, 3, 103, 0, 0, 0) := rfl
theorem fX4_timeWeight_51 : fetch tX4_timeWeight 51 = some (.aload_n 0, 1, 0, 0, 0, 0) := rfl
theorem fX4_timeWeight_52 : fetch tX4_timeWeight 52 = some (.iload 6, 2, 6, 0, 0, 0) := rfl
theorem fX4_timeWeight_54 : fetch tX4_timeWeight 54 = some (.invokevirtual 84, 3, 3, 4, 0, 0) := rfl
theorem fX4_timeWeight_57 : fetch tX4_timeWeight 57 = some (.lstore 7, 2, 7, 0, 0, 0) := rfl
theorem fX4_timeWeight_59 : fetch tX4_timeWeight 59 = some (.lload 7, 2, 7, 0, 0, 0) := rfl
theorem fX4_timeWeight_61 : fetch tX4_timeWeight 61 = some (.lconst 0, 1, 0, 0, 0, 0) := rfl
theorem fX4_timeWeight_62 : fetch tX4_timeWeight 62 = some (.lcmp, 1, 0, 0, 0, 0) := rfl
theorem fX4_timeWeight_63 : fetch tX4_timeWeight 63 = some (.ifCond .le 34, 3, 97, 0, 0, 0) := rfl
theorem fX4_timeWeight_66 : fetch tX4_timeWeight 66 = some (.aload_n 0, 1, 0, 0, 0, 0) := rfl
theorem fX4_timeWeight_67 : fetch tX4_timeWeight 67 = some (.iload_n 1, 1, 1, 0, 0, 0) := rfl
theorem fX4_timeWeight_68 : fetch tX4_timeWeight 68 = some (.iload 6, 2, 6, 0, 0, 0) := rfl
theorem fX4_timeWeight_70 : fetch tX4_timeWeight 70 = some (.invokevirtual 78, 3, 4, 4, 0, 0) := rfl
theorem fX4_timeWeight_73 : fetch tX4_timeWeight 73 = some (.lload 4, 2, 4, 0, 0, 0) := rfl
theorem fX4_timeWeight_75 : fetch tX4_timeWeight 75 = some (.aload_n 0, 1, 0, 0, 0, 0) := rfl
theorem fX4_timeWeight_76 : fetch tX4_timeWeight 76 = some (.getfield 13, 3, 4, 3, 0, 0) := rfl
theorem fX4_timeWeight_79 : fetch tX4_timeWeight 79 = some (.iload_n 2, 1, 2, 0, 0, 0) := rfl
theorem fX4_timeWeight_80 : fetch tX4_timeWeight 80 = some (.iaload, 1, 0, 0, 0, 0) := rfl
theorem fX4_timeWeight_81 : fetch tX4_timeWeight 81 = some (.invokestatic 67, 3, 5, 4, 0, 0) := rfl
theorem fX4_timeWeight_84 : fetch tX4_timeWeight 84 = some (.iload_n 3, 1, 3, 0, 0, 0) := rfl
theorem fX4_timeWeight_85 : fetch tX4_timeWeight 85 = some (.if_icmp .ne 8, 3, 93, 0, 0, 0) := rfl
theorem fX4_timeWeight_88 : fetch tX4_timeWeight 88 = some (.lload 7, 2, 7, 0, 0, 0) := rfl
theorem fX4_timeWeight_90 : fetch tX4_timeWeight 90 = some (.goto 4, 3, 94, 0, 0, 0) := rfl
theorem fX4_timeWeight_93 : fetch tX4_timeWeight 93 = some (.lconst 0, 1, 0, 0, 0, 0) := rfl
theorem fX4_timeWeight_94 : fetch tX4_timeWeight 94 = some (.ladd, 1, 0, 0, 0, 0) := rfl
theorem fX4_timeWeight_95 : fetch tX4_timeWeight 95 = some (.lstore 4, 2, 4, 0, 0, 0) := rfl
theorem fX4_timeWeight_97 : fetch tX4_timeWeight 97 = some (.iinc 6 1, 3, 6, 0, 1, 0) := rfl
theorem fX4_timeWeight_100 : fetch tX4_timeWeight 100 = some (.goto (-62), 3, 38, 0, 0, 0) := rfl
theorem fX4_timeWeight_103 : fetch tX4_timeWeight 103 = some (.lload 4, 2, 4, 0, 0, 0) := rfl
theorem fX4_timeWeight_105 : fetch tX4_timeWeight 105 = some (.lreturn, 1, 0, 0, 0, 0) := rfl
def tX4_reach : List (Nat × TE) := [(0, .iload_n 1, 1, 1, 0, 0, 0), (1, .invokestatic 74, 3, 0, 4, 0, 0), (4, .ifCond .ne 7, 3, 11, 0, 0, 0), (7, .ldc2_w 88, 3, 0, 0, 0, (-3)), (10, .lreturn, 1, 0, 0, 0, 0), (11, .lconst 0, 1, 0, 0, 0, 0), (12, .lstore_n 2, 1, 2, 0, 0, 0), (13, .iconst 0, 1, 0, 0, 0, 0), (14, .istore 4, 2, 4, 0, 0, 0), (16, .iload 4, 2, 4, 0, 0, 0), (18, .iconst 1, 1, 0, 0, 1, 0), (19, .aload_n 0, 1, 0, 0, 0, 0), (20, .getfield 7, 3, 4, 0, 0, 0), (23, .iconst 0, 1, 0, 0, 0, 0), (24, .iaload, 1, 0, 0, 0, 0), (25, .ishl, 1, 0, 0, 0, 0), (26, .if_icmp .ge 69, 3, 95, 0, 0, 0), (29, .aload_n 0, 1, 0, 0, 0, 0), (30, .iload 4, 2, 4, 0, 0, 0), (32, .invokevirtual 84, 3, 1, 4, 0, 0), (35, .lstore 5, 2, 5, 0, 0, 0), (37, .lload 5, 2, 5, 0, 0, 0), (39, .lconst 0, 1, 0, 0, 0, 0), (40, .lcmp, 1, 0, 0, 0, 0), (41, .ifCond .le 48, 3, 89, 0, 0, 0), (44, .aload_n 0, 1, 0, 0, 0, 0), (45, .iload_n 1, 1, 1, 0, 0, 0), (46, .iload 4, 2, 4, 0, 0, 0), (48, .invokevirtual 78, 3, 2, 4, 0, 0), (51, .iconst 0, 1, 0, 0, 0, 0), (52, .istore 7, 2, 7, 0, 0, 0), (54, .iload 7, 2, 7, 0, 0, 0), (56, .bipush 8, 2, 0, 0, 8, 0), (58, .if_icmp .ge 31, 3, 89, 0, 0, 0), (61, .lload_n 2, 1, 2, 0, 0, 0), (62, .aload_n 0, 1, 0, 0, 0, 0), (63, .getfield 13, 3, 4, 3, 0, 0), (66, .iload 7, 2, 7, 0, 0, 0), (68, .iaload, 1, 0, 0, 0, 0), (69, .sipush 1000, 3, 0, 0, 1000, 0), (72, .if_icmp .ne 7, 3, 79, 0, 0, 0), (75, .lconst 0, 1, 0, 0, 0, 0), (76, .goto 5, 3, 81, 0, 0, 0), (79, .lload 5, 2, 5, 0, 0, 0), (81, .ladd, 1, 0, 0, 0, 0), (82, .lstore_n 2, 1, 2, 0, 0, 0), (83, .iinc 7 1, 3, 7, 0, 1, 0), (86, .goto (-32), 3, 54, 0, 0, 0), (89, .iinc 4 1, 3, 4, 0, 1, 0), (92, .goto (-76), 3, 16, 0, 0, 0), (95, .lload_n 2, 1, 2, 0, 0, 0), (96, .lreturn, 1, 0, 0, 0, 0)]
theorem tkX4_reach : tOk cX4_reach "RumourSourceModel" 8 tX4_reach = true := by decide +kernel
theorem fX4_reach_0 : fetch tX4_reach 0 = some (.iload_n 1, 1, 1, 0, 0, 0) := rfl
theorem fX4_reach_1 : fetch tX4_reach 1 = some (.invokestatic 74, 3, 0, 4, 0, 0) := rfl
theorem fX4_reach_4 : fetch tX4_reach 4 = some (.ifCond .ne 7, 3, 11, 0, 0, 0) := rfl
theorem fX4_reach_7 : fetch tX4_reach 7 = some (.ldc2_w 88, 3, 0, 0, 0, (-3)) := rfl
theorem fX4_reach_10 : fetch tX4_reach 10 = some (.lreturn, 1, 0, 0, 0, 0) := rfl
theorem fX4_reach_11 : fetch tX4_reach 11 = some (.lconst 0, 1, 0, 0, 0, 0) := rfl
theorem fX4_reach_12 : fetch tX4_reach 12 = some (.lstore_n 2, 1, 2, 0, 0, 0) := rfl
theorem fX4_reach_13 : fetch tX4_reach 13 = some (.iconst 0, 1, 0, 0, 0, 0) := rfl
theorem fX4_reach_14 : fetch tX4_reach 14 = some (.istore 4, 2, 4, 0, 0, 0) := rfl
theorem fX4_reach_16 : fetch tX4_reach 16 = some (.iload 4, 2, 4, 0, 0, 0) := rfl
theorem fX4_reach_18 : fetch tX4_reach 18 = some (.iconst 1, 1, 0, 0, 1, 0) := rfl
theorem fX4_reach_19 : fetch tX4_reach 19 = some (.aload_n 0, 1, 0, 0, 0, 0) := rfl
theorem fX4_reach_20 : fetch tX4_reach 20 = some (.getfield 7, 3, 4, 0, 0, 0) := rfl
theorem fX4_reach_23 : fetch tX4_reach 23 = some (.iconst 0, 1, 0, 0, 0, 0) := rfl
theorem fX4_reach_24 : fetch tX4_reach 24 = some (.iaload, 1, 0, 0, 0, 0) := rfl
theorem fX4_reach_25 : fetch tX4_reach 25 = some (.ishl, 1, 0, 0, 0, 0) := rfl
theorem fX4_reach_26 : fetch tX4_reach 26 = some (.if_icmp .ge 69, 3, 95, 0, 0, 0) := rfl
theorem fX4_reach_29 : fetch tX4_reach 29 = some (.aload_n 0, 1, 0, 0, 0, 0) := rfl
theorem fX4_reach_30 : fetch tX4_reach 30 = some (.iload 4, 2, 4, 0, 0, 0) := rfl
theorem fX4_reach_32 : fetch tX4_reach 32 = some (.invokevirtual 84, 3, 1, 4, 0, 0) := rfl
theorem fX4_reach_35 : fetch tX4_reach 35 = some (.lstore 5, 2, 5, 0, 0, 0) := rfl
theorem fX4_reach_37 : fetch tX4_reach 37 = some (.lload 5, 2, 5, 0, 0, 0) := rfl
theorem fX4_reach_39 : fetch tX4_reach 39 = some (.lconst 0, 1, 0, 0, 0, 0) := rfl
theorem fX4_reach_40 : fetch tX4_reach 40 = some (.lcmp, 1, 0, 0, 0, 0) := rfl
theorem fX4_reach_41 : fetch tX4_reach 41 = some (.ifCond .le 48, 3, 89, 0, 0, 0) := rfl
theorem fX4_reach_44 : fetch tX4_reach 44 = some (.aload_n 0, 1, 0, 0, 0, 0) := rfl
theorem fX4_reach_45 : fetch tX4_reach 45 = some (.iload_n 1, 1, 1, 0, 0, 0) := rfl
theorem fX4_reach_46 : fetch tX4_reach 46 = some (.iload 4, 2, 4, 0, 0, 0) := rfl
theorem fX4_reach_48 : fetch tX4_reach 48 = some (.invokevirtual 78, 3, 2, 4, 0, 0) := rfl
theorem fX4_reach_51 : fetch tX4_reach 51 = some (.iconst 0, 1, 0, 0, 0, 0) := rfl
theorem fX4_reach_52 : fetch tX4_reach 52 = some (.istore 7, 2, 7, 0, 0, 0) := rfl
theorem fX4_reach_54 : fetch tX4_reach 54 = some (.iload 7, 2, 7, 0, 0, 0) := rfl
theorem fX4_reach_56 : fetch tX4_reach 56 = some (.bipush 8, 2, 0, 0, 8, 0) := rfl
theorem fX4_reach_58 : fetch tX4_reach 58 = some (.if_icmp .ge 31, 3, 89, 0, 0, 0) := rfl
theorem fX4_reach_61 : fetch tX4_reach 61 = some (.lload_n 2, 1, 2, 0, 0, 0) := rfl
theorem fX4_reach_62 : fetch tX4_reach 62 = some (.aload_n 0, 1, 0, 0, 0, 0) := rfl
theorem fX4_reach_63 : fetch tX4_reach 63 = some (.getfield 13, 3, 4, 3, 0, 0) := rfl
theorem fX4_reach_66 : fetch tX4_reach 66 = some (.iload 7, 2, 7, 0, 0, 0) := rfl
theorem fX4_reach_68 : fetch tX4_reach 68 = some (.iaload, 1, 0, 0, 0, 0) := rfl
theorem fX4_reach_69 : fetch tX4_reach 69 = some (.sipush 1000, 3, 0, 0, 1000, 0) := rfl
theorem fX4_reach_72 : fetch tX4_reach 72 = some (.if_icmp .ne 7, 3, 79, 0, 0, 0) := rfl
theorem fX4_reach_75 : fetch tX4_reach 75 = some (.lconst 0, 1, 0, 0, 0, 0) := rfl
theorem fX4_reach_76 : fetch tX4_reach 76 = some (.goto 5, 3, 81, 0, 0, 0) := rfl
theorem fX4_reach_79 : fetch tX4_reach 79 = some (.lload 5, 2, 5, 0, 0, 0) := rfl
theorem fX4_reach_81 : fetch tX4_reach 81 = some (.ladd, 1, 0, 0, 0, 0) := rfl
theorem fX4_reach_82 : fetch tX4_reach 82 = some (.lstore_n 2, 1, 2, 0, 0, 0) := rfl
theorem fX4_reach_83 : fetch tX4_reach 83 = some (.iinc 7 1, 3, 7, 0, 1, 0) := rfl
theorem fX4_reach_86 : fetch tX4_reach 86 = some (.goto (-32), 3, 54, 0, 0, 0) := rfl
theorem fX4_reach_89 : fetch tX4_reach 89 = some (.iinc 4 1, 3, 4, 0, 1, 0) := rfl
theorem fX4_reach_92 : fetch tX4_reach 92 = some (.goto (-76), 3, 16, 0, 0, 0) := rfl
theorem fX4_reach_95 : fetch tX4_reach 95 = some (.lload_n 2, 1, 2, 0, 0, 0) := rfl
theorem fX4_reach_96 : fetch tX4_reach 96 = some (.lreturn, 1, 0, 0, 0, 0) := rfl
def tX4_likelihoodOf : List (Nat × TE) := [(0, .lconst 0, 1, 0, 0, 0, 0), (1, .lstore_n 3, 1, 3, 0, 0, 0), (2, .iconst 0, 1, 0, 0, 0, 0), (3, .istore 5, 2, 5, 0, 0, 0), (5, .iload 5, 2, 5, 0, 0, 0), (7, .iconst 1, 1, 0, 0, 1, 0), (8, .aload_n 0, 1, 0, 0, 0, 0), (9, .getfield 7, 3, 4, 0, 0, 0), (12, .iconst 0, 1, 0, 0, 0, 0), (13, .iaload, 1, 0, 0, 0, 0), (14, .ishl, 1, 0, 0, 0, 0), (15, .if_icmp .ge 57, 3, 72, 0, 0, 0), (18, .lload_n 3, 1, 3, 0, 0, 0), (19, .lconst 0, 1, 0, 0, 0, 0), (20, .lcmp, 1, 0, 0, 0, 0), (21, .ifCond .eq 7, 3, 28, 0, 0, 0), (24, .iload_n 2, 1, 2, 0, 0, 0), (25, .ifCond .ne 47, 3, 72, 0, 0, 0), (28, .aload_n 0, 1, 0, 0, 0, 0), (29, .iload 5, 2, 5, 0, 0, 0), (31, .invokevirtual 84, 3, 0, 4, 0, 0), (34, .lstore 6, 2, 6, 0, 0, 0), (36, .lload 6, 2, 6, 0, 0, 0), (38, .lconst 0, 1, 0, 0, 0, 0), (39, .lcmp, 1, 0, 0, 0, 0), (40, .ifCond .le 26, 3, 66, 0, 0, 0), (43, .aload_n 0, 1, 0, 0, 0, 0), (44, .iload_n 1, 1, 1, 0, 0, 0), (45, .iload 5, 2, 5, 0, 0, 0), (47, .invokevirtual 78, 3, 1, 4, 0, 0), (50, .lload_n 3, 1, 3, 0, 0, 0), (51, .aload_n 0, 1, 0, 0, 0, 0), (52, .invokevirtual 90, 3, 2, 4, 0, 0), (55, .ifCond .eq 8, 3, 63, 0, 0, 0), (58, .lload 6, 2, 6, 0, 0, 0), (60, .goto 4, 3, 64, 0, 0, 0), (63, .lconst 0, 1, 0, 0, 0, 0), (64, .ladd, 1, 0, 0, 0, 0), (65, .lstore_n 3, 1, 3, 0, 0, 0), (66, .iinc 5 1, 3, 5, 0, 1, 0), (69, .goto (-64), 3, 5, 0, 0, 0), (72, .lload_n 3, 1, 3, 0, 0, 0), (73, .lreturn, 1, 0, 0, 0, 0)]
theorem tkX4_likelihoodOf : tOk cX4_likelihoodOf "RumourSourceModel" 8 tX4_likelihoodOf = true := by decide +kernel
theorem fX4_likelihoodOf_0 : fetch tX4_likelihoodOf 0 = some (.lconst 0, 1, 0, 0, 0, 0) := rfl
theorem fX4_likelihoodOf_1 : fetch tX4_likelihoodOf 1 = some (.lstore_n 3, 1, 3, 0, 0, 0) := rfl
theorem fX4_likelihoodOf_2 : fetch tX4_likelihoodOf 2 = some (.iconst 0, 1, 0, 0, 0, 0) := rfl
theorem fX4_likelihoodOf_3 : fetch tX4_likelihoodOf 3 = some (.istore 5, 2, 5, 0, 0, 0) := rfl
theorem fX4_likelihoodOf_5 : fetch tX4_likelihoodOf 5 = some (.iload 5, 2, 5, 0, 0, 0) := rfl
theorem fX4_likelihoodOf_7 : fetch tX4_likelihoodOf 7 = some (.iconst 1, 1, 0, 0, 1, 0) := rfl
theorem fX4_likelihoodOf_8 : fetch tX4_likelihoodOf 8 = some (.aload_n 0, 1, 0, 0, 0, 0) := rfl
theorem fX4_likelihoodOf_9 : fetch tX4_likelihoodOf 9 = some (.getfield 7, 3, 4, 0, 0, 0) := rfl
theorem fX4_likelihoodOf_12 : fetch tX4_likelihoodOf 12 = some (.iconst 0, 1, 0, 0, 0, 0) := rfl
theorem fX4_likelihoodOf_13 : fetch tX4_likelihoodOf 13 = some (.iaload, 1, 0, 0, 0, 0) := rfl
theorem fX4_likelihoodOf_14 : fetch tX4_likelihoodOf 14 = some (.ishl, 1, 0, 0, 0, 0) := rfl
theorem fX4_likelihoodOf_15 : fetch tX4_likelihoodOf 15 = some (.if_icmp .ge 57, 3, 72, 0, 0, 0) := rfl
theorem fX4_likelihoodOf_18 : fetch tX4_likelihoodOf 18 = some (.lload_n 3, 1, 3, 0, 0, 0) := rfl
theorem fX4_likelihoodOf_19 : fetch tX4_likelihoodOf 19 = some (.lconst 0, 1, 0, 0, 0, 0) := rfl
theorem fX4_likelihoodOf_20 : fetch tX4_likelihoodOf 20 = some (.lcmp, 1, 0, 0, 0, 0) := rfl
theorem fX4_likelihoodOf_21 : fetch tX4_likelihoodOf 21 = some (.ifCond .eq 7, 3, 28, 0, 0, 0) := rfl
theorem fX4_likelihoodOf_24 : fetch tX4_likelihoodOf 24 = some (.iload_n 2, 1, 2, 0, 0, 0) := rfl
theorem fX4_likelihoodOf_25 : fetch tX4_likelihoodOf 25 = some (.ifCond .ne 47, 3, 72, 0, 0, 0) := rfl
theorem fX4_likelihoodOf_28 : fetch tX4_likelihoodOf 28 = some (.aload_n 0, 1, 0, 0, 0, 0) := rfl
theorem fX4_likelihoodOf_29 : fetch tX4_likelihoodOf 29 = some (.iload 5, 2, 5, 0, 0, 0) := rfl
theorem fX4_likelihoodOf_31 : fetch tX4_likelihoodOf 31 = some (.invokevirtual 84, 3, 0, 4, 0, 0) := rfl
theorem fX4_likelihoodOf_34 : fetch tX4_likelihoodOf 34 = some (.lstore 6, 2, 6, 0, 0, 0) := rfl
theorem fX4_likelihoodOf_36 : fetch tX4_likelihoodOf 36 = some (.lload 6, 2, 6, 0, 0, 0) := rfl
theorem fX4_likelihoodOf_38 : fetch tX4_likelihoodOf 38 = some (.lconst 0, 1, 0, 0, 0, 0) := rfl
theorem fX4_likelihoodOf_39 : fetch tX4_likelihoodOf 39 = some (.lcmp, 1, 0, 0, 0, 0) := rfl
theorem fX4_likelihoodOf_40 : fetch tX4_likelihoodOf 40 = some (.ifCond .le 26, 3, 66, 0, 0, 0) := rfl
theorem fX4_likelihoodOf_43 : fetch tX4_likelihoodOf 43 = some (.aload_n 0, 1, 0, 0, 0, 0) := rfl
theorem fX4_likelihoodOf_44 : fetch tX4_likelihoodOf 44 = some (.iload_n 1, 1, 1, 0, 0, 0) := rfl
theorem fX4_likelihoodOf_45 : fetch tX4_likelihoodOf 45 = some (.iload 5, 2, 5, 0, 0, 0) := rfl
theorem fX4_likelihoodOf_47 : fetch tX4_likelihoodOf 47 = some (.invokevirtual 78, 3, 1, 4, 0, 0) := rfl
theorem fX4_likelihoodOf_50 : fetch tX4_likelihoodOf 50 = some (.lload_n 3, 1, 3, 0, 0, 0) := rfl
theorem fX4_likelihoodOf_51 : fetch tX4_likelihoodOf 51 = some (.aload_n 0, 1, 0, 0, 0, 0) := rfl
theorem fX4_likelihoodOf_52 : fetch tX4_likelihoodOf 52 = some (.invokevirtual 90, 3, 2, 4, 0, 0) := rfl
theorem fX4_likelihoodOf_55 : fetch tX4_likelihoodOf 55 = some (.ifCond .eq 8, 3, 63, 0, 0, 0) := rfl
theorem fX4_likelihoodOf_58 : fetch tX4_likelihoodOf 58 = some (.lload 6, 2, 6, 0, 0, 0) := rfl
theorem fX4_likelihoodOf_60 : fetch tX4_likelihoodOf 60 = some (.goto 4, 3, 64, 0, 0, 0) := rfl
theorem fX4_likelihoodOf_63 : fetch tX4_likelihoodOf 63 = some (.lconst 0, 1, 0, 0, 0, 0) := rfl
theorem fX4_likelihoodOf_64 : fetch tX4_likelihoodOf 64 = some (.ladd, 1, 0, 0, 0, 0) := rfl
theorem fX4_likelihoodOf_65 : fetch tX4_likelihoodOf 65 = some (.lstore_n 3, 1, 3, 0, 0, 0) := rfl
theorem fX4_likelihoodOf_66 : fetch tX4_likelihoodOf 66 = some (.iinc 5 1, 3, 5, 0, 1, 0) := rfl
theorem fX4_likelihoodOf_69 : fetch tX4_likelihoodOf 69 = some (.goto (-64), 3, 5, 0, 0, 0) := rfl
theorem fX4_likelihoodOf_72 : fetch tX4_likelihoodOf 72 = some (.lload_n 3, 1, 3, 0, 0, 0) := rfl
theorem fX4_likelihoodOf_73 : fetch tX4_likelihoodOf 73 = some (.lreturn, 1, 0, 0, 0, 0) := rfl
def tX4_findsSingle : List (Nat × TE) := [(0, .iconst 0, 1, 0, 0, 0, 0), (1, .istore_n 1, 1, 1, 0, 0, 0), (2, .iload_n 1, 1, 1, 0, 0, 0), (3, .bipush 8, 2, 0, 0, 8, 0), (5, .if_icmp .ge 30, 3, 35, 0, 0, 0), (8, .aload_n 0, 1, 0, 0, 0, 0), (9, .getfield 38, 3, 4, 2, 0, 0), (12, .ifCond .ne 23, 3, 35, 0, 0, 0), (15, .aload_n 0, 1, 0, 0, 0, 0), (16, .getfield 16, 3, 4, 4, 0, 0), (19, .iload_n 1, 1, 1, 0, 0, 0), (20, .aload_n 0, 1, 0, 0, 0, 0), (21, .iconst 1, 1, 0, 0, 1, 0), (22, .iload_n 1, 1, 1, 0, 0, 0), (23, .ishl, 1, 0, 0, 0, 0), (24, .iconst 0, 1, 0, 0, 0, 0), (25, .invokevirtual 96, 3, 0, 4, 0, 0), (28, .lastore, 1, 0, 0, 0, 0), (29, .iinc 1 1, 3, 1, 0, 1, 0), (32, .goto (-30), 3, 2, 0, 0, 0), (35, .aload_n 0, 1, 0, 0, 0, 0), (36, .iconst 1, 1, 0, 0, 1, 0), (37, .putfield 38, 3, 4, 2, 0, 0), (40, .return_, 1, 0, 0, 0, 0)]
theorem tkX4_findsSingle : tOk cX4_findsSingle "RumourSourceModel" 2 tX4_findsSingle = true := by decide +kernel
theorem fX4_findsSingle_0 : fetch tX4_findsSingle 0 = some (.iconst 0, 1, 0, 0, 0, 0) := rfl
theorem fX4_findsSingle_1 : fetch tX4_findsSingle 1 = some (.istore_n 1, 1, 1, 0, 0, 0) := rfl
theorem fX4_findsSingle_2 : fetch tX4_findsSingle 2 = some (.iload_n 1, 1, 1, 0, 0, 0) := rfl
theorem fX4_findsSingle_3 : fetch tX4_findsSingle 3 = some (.bipush 8, 2, 0, 0, 8, 0) := rfl
theorem fX4_findsSingle_5 : fetch tX4_findsSingle 5 = some (.if_icmp .ge 30, 3, 35, 0, 0, 0) := rfl
theorem fX4_findsSingle_8 : fetch tX4_findsSingle 8 = some (.aload_n 0, 1, 0, 0, 0, 0) := rfl
theorem fX4_findsSingle_9 : fetch tX4_findsSingle 9 = some (.getfield 38, 3, 4, 2, 0, 0) := rfl
theorem fX4_findsSingle_12 : fetch tX4_findsSingle 12 = some (.ifCond .ne 23, 3, 35, 0, 0, 0) := rfl
theorem fX4_findsSingle_15 : fetch tX4_findsSingle 15 = some (.aload_n 0, 1, 0, 0, 0, 0) := rfl
theorem fX4_findsSingle_16 : fetch tX4_findsSingle 16 = some (.getfield 16, 3, 4, 4, 0, 0) := rfl
theorem fX4_findsSingle_19 : fetch tX4_findsSingle 19 = some (.iload_n 1, 1, 1, 0, 0, 0) := rfl
theorem fX4_findsSingle_20 : fetch tX4_findsSingle 20 = some (.aload_n 0, 1, 0, 0, 0, 0) := rfl
theorem fX4_findsSingle_21 : fetch tX4_findsSingle 21 = some (.iconst 1, 1, 0, 0, 1, 0) := rfl
theorem fX4_findsSingle_22 : fetch tX4_findsSingle 22 = some (.iload_n 1, 1, 1, 0, 0, 0) := rfl
theorem fX4_findsSingle_23 : fetch tX4_findsSingle 23 = some (.ishl, 1, 0, 0, 0, 0) := rfl
theorem fX4_findsSingle_24 : fetch tX4_findsSingle 24 = some (.iconst 0, 1, 0, 0, 0, 0) := rfl
theorem fX4_findsSingle_25 : fetch tX4_findsSingle 25 = some (.invokevirtual 96, 3, 0, 4, 0, 0) := rfl
theorem fX4_findsSingle_28 : fetch tX4_findsSingle 28 = some (.lastore, 1, 0, 0, 0, 0) := rfl
theorem fX4_findsSingle_29 : fetch tX4_findsSingle 29 = some (.iinc 1 1, 3, 1, 0, 1, 0) := rfl
theorem fX4_findsSingle_32 : fetch tX4_findsSingle 32 = some (.goto (-30), 3, 2, 0, 0, 0) := rfl
theorem fX4_findsSingle_35 : fetch tX4_findsSingle 35 = some (.aload_n 0, 1, 0, 0, 0, 0) := rfl
theorem fX4_findsSingle_36 : fetch tX4_findsSingle 36 = some (.iconst 1, 1, 0, 0, 1, 0) := rfl
theorem fX4_findsSingle_37 : fetch tX4_findsSingle 37 = some (.putfield 38, 3, 4, 2, 0, 0) := rfl
theorem fX4_findsSingle_40 : fetch tX4_findsSingle 40 = some (.return_, 1, 0, 0, 0, 0) := rfl
def tX4_likelihood : List (Nat × TE) := [(0, .iload_n 1, 1, 1, 0, 0, 0), (1, .invokestatic 74, 3, 0, 4, 0, 0), (4, .ifCond .eq 12, 3, 16, 0, 0, 0), (7, .aload_n 0, 1, 0, 0, 0, 0), (8, .iload_n 1, 1, 1, 0, 0, 0), (9, .iconst 0, 1, 0, 0, 0, 0), (10, .invokevirtual 96, 3, 1, 4, 0, 0), (13, .goto 6, 3, 19, 0, 0, 0), (16, .ldc2_w 88, 3, 0, 0, 0, (-3)), (19, .lreturn, 1, 0, 0, 0, 0)]
theorem tkX4_likelihood : tOk cX4_likelihood "RumourSourceModel" 2 tX4_likelihood = true := by decide +kernel
theorem fX4_likelihood_0 : fetch tX4_likelihood 0 = some (.iload_n 1, 1, 1, 0, 0, 0) := rfl
theorem fX4_likelihood_1 : fetch tX4_likelihood 1 = some (.invokestatic 74, 3, 0, 4, 0, 0) := rfl
theorem fX4_likelihood_4 : fetch tX4_likelihood 4 = some (.ifCond .eq 12, 3, 16, 0, 0, 0) := rfl
theorem fX4_likelihood_7 : fetch tX4_likelihood 7 = some (.aload_n 0, 1, 0, 0, 0, 0) := rfl
theorem fX4_likelihood_8 : fetch tX4_likelihood 8 = some (.iload_n 1, 1, 1, 0, 0, 0) := rfl
theorem fX4_likelihood_9 : fetch tX4_likelihood 9 = some (.iconst 0, 1, 0, 0, 0, 0) := rfl
theorem fX4_likelihood_10 : fetch tX4_likelihood 10 = some (.invokevirtual 96, 3, 1, 4, 0, 0) := rfl
theorem fX4_likelihood_13 : fetch tX4_likelihood 13 = some (.goto 6, 3, 19, 0, 0, 0) := rfl
theorem fX4_likelihood_16 : fetch tX4_likelihood 16 = some (.ldc2_w 88, 3, 0, 0, 0, (-3)) := rfl
theorem fX4_likelihood_19 : fetch tX4_likelihood 19 = some (.lreturn, 1, 0, 0, 0, 0) := rfl
def tX4_candidates : List (Nat × TE) := [(0, .aload_n 0, 1, 0, 0, 0, 0), (1, .invokevirtual 100, 3, 0, 4, 0, 0), (4, .iconst 0, 1, 0, 0, 0, 0), (5, .istore_n 1, 1, 1, 0, 0, 0), (6, .iconst 0, 1, 0, 0, 0, 0), (7, .istore_n 2, 1, 2, 0, 0, 0), (8, .iload_n 2, 1, 2, 0, 0, 0), (9, .bipush 8, 2, 0, 0, 8, 0), (11, .if_icmp .ge 28, 3, 39, 0, 0, 0), (14, .iload_n 1, 1, 1, 0, 0, 0), (15, .aload_n 0, 1, 0, 0, 0, 0), (16, .getfield 16, 3, 4, 4, 0, 0), (19, .iload_n 2, 1, 2, 0, 0, 0), (20, .laload, 1, 0, 0, 0, 0), (21, .lconst 0, 1, 0, 0, 0, 0), (22, .lcmp, 1, 0, 0, 0, 0), (23, .ifCond .le 7, 3, 30, 0, 0, 0), (26, .iconst 1, 1, 0, 0, 1, 0), (27, .goto 4, 3, 31, 0, 0, 0), (30, .iconst 0, 1, 0, 0, 0, 0), (31, .iadd, 1, 0, 0, 0, 0), (32, .istore_n 1, 1, 1, 0, 0, 0), (33, .iinc 2 1, 3, 2, 0, 1, 0), (36, .goto (-28), 3, 8, 0, 0, 0), (39, .iload_n 1, 1, 1, 0, 0, 0), (40, .ireturn, 1, 0, 0, 0, 0)]
theorem tkX4_candidates : tOk cX4_candidates "RumourSourceModel" 3 tX4_candidates = true := by decide +kernel
theorem fX4_candidates_0 : fetch tX4_candidates 0 = some (.aload_n 0, 1, 0, 0, 0, 0) := rfl
theorem fX4_candidates_1 : fetch tX4_candidates 1 = some (.invokevirtual 100, 3, 0, 4, 0, 0) := rfl
theorem fX4_candidates_4 : fetch tX4_candidates 4 = some (.iconst 0, 1, 0, 0, 0, 0) := rfl
theorem fX4_candidates_5 : fetch tX4_candidates 5 = some (.istore_n 1, 1, 1, 0, 0, 0) := rfl
theorem fX4_candidates_6 : fetch tX4_candidates 6 = some (.iconst 0, 1, 0, 0, 0, 0) := rfl
theorem fX4_candidates_7 : fetch tX4_candidates 7 = some (.istore_n 2, 1, 2, 0, 0, 0) := rfl
theorem fX4_candidates_8 : fetch tX4_candidates 8 = some (.iload_n 2, 1, 2, 0, 0, 0) := rfl
theorem fX4_candidates_9 : fetch tX4_candidates 9 = some (.bipush 8, 2, 0, 0, 8, 0) := rfl
theorem fX4_candidates_11 : fetch tX4_candidates 11 = some (.if_icmp .ge 28, 3, 39, 0, 0, 0) := rfl
theorem fX4_candidates_14 : fetch tX4_candidates 14 = some (.iload_n 1, 1, 1, 0, 0, 0) := rfl
theorem fX4_candidates_15 : fetch tX4_candidates 15 = some (.aload_n 0, 1, 0, 0, 0, 0) := rfl
theorem fX4_candidates_16 : fetch tX4_candidates 16 = some (.getfield 16, 3, 4, 4, 0, 0) := rfl
theorem fX4_candidates_19 : fetch tX4_candidates 19 = some (.iload_n 2, 1, 2, 0, 0, 0) := rfl
theorem fX4_candidates_20 : fetch tX4_candidates 20 = some (.laload, 1, 0, 0, 0, 0) := rfl
theorem fX4_candidates_21 : fetch tX4_candidates 21 = some (.lconst 0, 1, 0, 0, 0, 0) := rfl
theorem fX4_candidates_22 : fetch tX4_candidates 22 = some (.lcmp, 1, 0, 0, 0, 0) := rfl
theorem fX4_candidates_23 : fetch tX4_candidates 23 = some (.ifCond .le 7, 3, 30, 0, 0, 0) := rfl
theorem fX4_candidates_26 : fetch tX4_candidates 26 = some (.iconst 1, 1, 0, 0, 1, 0) := rfl
theorem fX4_candidates_27 : fetch tX4_candidates 27 = some (.goto 4, 3, 31, 0, 0, 0) := rfl
theorem fX4_candidates_30 : fetch tX4_candidates 30 = some (.iconst 0, 1, 0, 0, 0, 0) := rfl
theorem fX4_candidates_31 : fetch tX4_candidates 31 = some (.iadd, 1, 0, 0, 0, 0) := rfl
theorem fX4_candidates_32 : fetch tX4_candidates 32 = some (.istore_n 1, 1, 1, 0, 0, 0) := rfl
theorem fX4_candidates_33 : fetch tX4_candidates 33 = some (.iinc 2 1, 3, 2, 0, 1, 0) := rfl
theorem fX4_candidates_36 : fetch tX4_candidates 36 = some (.goto (-28), 3, 8, 0, 0, 0) := rfl
theorem fX4_candidates_39 : fetch tX4_candidates 39 = some (.iload_n 1, 1, 1, 0, 0, 0) := rfl
theorem fX4_candidates_40 : fetch tX4_candidates 40 = some (.ireturn, 1, 0, 0, 0, 0) := rfl
def tX4_candidate : List (Nat × TE) := [(0, .aload_n 0, 1, 0, 0, 0, 0), (1, .invokevirtual 100, 3, 0, 4, 0, 0), (4, .iconst 0, 1, 0, 0, 0, 0), (5, .istore_n 2, 1, 2, 0, 0, 0), (6, .iload_n 2, 1, 2, 0, 0, 0), (7, .bipush 8, 2, 0, 0, 8, 0), (9, .if_icmp .ge 93, 3, 102, 0, 0, 0), (12, .iconst 0, 1, 0, 0, 0, 0), (13, .istore_n 3, 1, 3, 0, 0, 0), (14, .iconst 0, 1, 0, 0, 0, 0), (15, .istore 4, 2, 4, 0, 0, 0), (17, .iload 4, 2, 4, 0, 0, 0), (19, .bipush 8, 2, 0, 0, 8, 0), (21, .if_icmp .ge 57, 3, 78, 0, 0, 0), (24, .iload_n 3, 1, 3, 0, 0, 0), (25, .aload_n 0, 1, 0, 0, 0, 0), (26, .getfield 16, 3, 4, 4, 0, 0), (29, .iload 4, 2, 4, 0, 0, 0), (31, .laload, 1, 0, 0, 0, 0), (32, .aload_n 0, 1, 0, 0, 0, 0), (33, .getfield 16, 3, 4, 4, 0, 0), (36, .iload_n 2, 1, 2, 0, 0, 0), (37, .laload, 1, 0, 0, 0, 0), (38, .lcmp, 1, 0, 0, 0, 0), (39, .ifCond .gt 26, 3, 65, 0, 0, 0), (42, .aload_n 0, 1, 0, 0, 0, 0), (43, .getfield 16, 3, 4, 4, 0, 0), (46, .iload 4, 2, 4, 0, 0, 0), (48, .laload, 1, 0, 0, 0, 0), (49, .aload_n 0, 1, 0, 0, 0, 0), (50, .getfield 16, 3, 4, 4, 0, 0), (53, .iload_n 2, 1, 2, 0, 0, 0), (54, .laload, 1, 0, 0, 0, 0), (55, .lcmp, 1, 0, 0, 0, 0), (56, .ifCond .ne 13, 3, 69, 0, 0, 0), (59, .iload 4, 2, 4, 0, 0, 0), (61, .iload_n 2, 1, 2, 0, 0, 0), (62, .if_icmp .ge 7, 3, 69, 0, 0, 0), (65, .iconst 1, 1, 0, 0, 1, 0), (66, .goto 4, 3, 70, 0, 0, 0), (69, .iconst 0, 1, 0, 0, 0, 0), (70, .iadd, 1, 0, 0, 0, 0), (71, .istore_n 3, 1, 3, 0, 0, 0), (72, .iinc 4 1, 3, 4, 0, 1, 0), (75, .goto (-58), 3, 17, 0, 0, 0), (78, .aload_n 0, 1, 0, 0, 0, 0), (79, .getfield 16, 3, 4, 4, 0, 0), (82, .iload_n 2, 1, 2, 0, 0, 0), (83, .laload, 1, 0, 0, 0, 0), (84, .lconst 0, 1, 0, 0, 0, 0), (85, .lcmp, 1, 0, 0, 0, 0), (86, .ifCond .le 10, 3, 96, 0, 0, 0), (89, .iload_n 3, 1, 3, 0, 0, 0), (90, .iload_n 1, 1, 1, 0, 0, 0), (91, .if_icmp .ne 5, 3, 96, 0, 0, 0), (94, .iload_n 2, 1, 2, 0, 0, 0), (95, .ireturn, 1, 0, 0, 0, 0), (96, .iinc 2 1, 3, 2, 0, 1, 0), (99, .goto (-93), 3, 6, 0, 0, 0), (102, .bipush (-2), 2, 0, 0, (-2), 0), (104, .ireturn, 1, 0, 0, 0, 0)]
theorem tkX4_candidate : tOk cX4_candidate "RumourSourceModel" 5 tX4_candidate = true := by decide +kernel
theorem fX4_candidate_0 : fetch tX4_candidate 0 = some (.aload_n 0, 1, 0, 0, 0, 0) := rfl
theorem fX4_candidate_1 : fetch tX4_candidate 1 = some (.invokevirtual 100, 3, 0, 4, 0, 0) := rfl
theorem fX4_candidate_4 : fetch tX4_candidate 4 = some (.iconst 0, 1, 0, 0, 0, 0) := rfl
theorem fX4_candidate_5 : fetch tX4_candidate 5 = some (.istore_n 2, 1, 2, 0, 0, 0) := rfl
theorem fX4_candidate_6 : fetch tX4_candidate 6 = some (.iload_n 2, 1, 2, 0, 0, 0) := rfl
theorem fX4_candidate_7 : fetch tX4_candidate 7 = some (.bipush 8, 2, 0, 0, 8, 0) := rfl
theorem fX4_candidate_9 : fetch tX4_candidate 9 = some (.if_icmp .ge 93, 3, 102, 0, 0, 0) := rfl
theorem fX4_candidate_12 : fetch tX4_candidate 12 = some (.iconst 0, 1, 0, 0, 0, 0) := rfl
theorem fX4_candidate_13 : fetch tX4_candidate 13 = some (.istore_n 3, 1, 3, 0, 0, 0) := rfl
theorem fX4_candidate_14 : fetch tX4_candidate 14 = some (.iconst 0, 1, 0, 0, 0, 0) := rfl
theorem fX4_candidate_15 : fetch tX4_candidate 15 = some (.istore 4, 2, 4, 0, 0, 0) := rfl
theorem fX4_candidate_17 : fetch tX4_candidate 17 = some (.iload 4, 2, 4, 0, 0, 0) := rfl
theorem fX4_candidate_19 : fetch tX4_candidate 19 = some (.bipush 8, 2, 0, 0, 8, 0) := rfl
theorem fX4_candidate_21 : fetch tX4_candidate 21 = some (.if_icmp .ge 57, 3, 78, 0, 0, 0) := rfl
theorem fX4_candidate_24 : fetch tX4_candidate 24 = some (.iload_n 3, 1, 3, 0, 0, 0) := rfl
theorem fX4_candidate_25 : fetch tX4_candidate 25 = some (.aload_n 0, 1, 0, 0, 0, 0) := rfl
theorem fX4_candidate_26 : fetch tX4_candidate 26 = some (.getfield 16, 3, 4, 4, 0, 0) := rfl
theorem fX4_candidate_29 : fetch tX4_candidate 29 = some (.iload 4, 2, 4, 0, 0, 0) := rfl
theorem fX4_candidate_31 : fetch tX4_candidate 31 = some (.laload, 1, 0, 0, 0, 0) := rfl
theorem fX4_candidate_32 : fetch tX4_candidate 32 = some (.aload_n 0, 1, 0, 0, 0, 0) := rfl
theorem fX4_candidate_33 : fetch tX4_candidate 33 = some (.getfield 16, 3, 4, 4, 0, 0) := rfl
theorem fX4_candidate_36 : fetch tX4_candidate 36 = some (.iload_n 2, 1, 2, 0, 0, 0) := rfl
theorem fX4_candidate_37 : fetch tX4_candidate 37 = some (.laload, 1, 0, 0, 0, 0) := rfl
theorem fX4_candidate_38 : fetch tX4_candidate 38 = some (.lcmp, 1, 0, 0, 0, 0) := rfl
theorem fX4_candidate_39 : fetch tX4_candidate 39 = some (.ifCond .gt 26, 3, 65, 0, 0, 0) := rfl
theorem fX4_candidate_42 : fetch tX4_candidate 42 = some (.aload_n 0, 1, 0, 0, 0, 0) := rfl
theorem fX4_candidate_43 : fetch tX4_candidate 43 = some (.getfield 16, 3, 4, 4, 0, 0) := rfl
theorem fX4_candidate_46 : fetch tX4_candidate 46 = some (.iload 4, 2, 4, 0, 0, 0) := rfl
theorem fX4_candidate_48 : fetch tX4_candidate 48 = some (.laload, 1, 0, 0, 0, 0) := rfl
theorem fX4_candidate_49 : fetch tX4_candidate 49 = some (.aload_n 0, 1, 0, 0, 0, 0) := rfl
theorem fX4_candidate_50 : fetch tX4_candidate 50 = some (.getfield 16, 3, 4, 4, 0, 0) := rfl
theorem fX4_candidate_53 : fetch tX4_candidate 53 = some (.iload_n 2, 1, 2, 0, 0, 0) := rfl
theorem fX4_candidate_54 : fetch tX4_candidate 54 = some (.laload, 1, 0, 0, 0, 0) := rfl
theorem fX4_candidate_55 : fetch tX4_candidate 55 = some (.lcmp, 1, 0, 0, 0, 0) := rfl
theorem fX4_candidate_56 : fetch tX4_candidate 56 = some (.ifCond .ne 13, 3, 69, 0, 0, 0) := rfl
theorem fX4_candidate_59 : fetch tX4_candidate 59 = some (.iload 4, 2, 4, 0, 0, 0) := rfl
theorem fX4_candidate_61 : fetch tX4_candidate 61 = some (.iload_n 2, 1, 2, 0, 0, 0) := rfl
theorem fX4_candidate_62 : fetch tX4_candidate 62 = some (.if_icmp .ge 7, 3, 69, 0, 0, 0) := rfl
theorem fX4_candidate_65 : fetch tX4_candidate 65 = some (.iconst 1, 1, 0, 0, 1, 0) := rfl
theorem fX4_candidate_66 : fetch tX4_candidate 66 = some (.goto 4, 3, 70, 0, 0, 0) := rfl
theorem fX4_candidate_69 : fetch tX4_candidate 69 = some (.iconst 0, 1, 0, 0, 0, 0) := rfl
theorem fX4_candidate_70 : fetch tX4_candidate 70 = some (.iadd, 1, 0, 0, 0, 0) := rfl
theorem fX4_candidate_71 : fetch tX4_candidate 71 = some (.istore_n 3, 1, 3, 0, 0, 0) := rfl
theorem fX4_candidate_72 : fetch tX4_candidate 72 = some (.iinc 4 1, 3, 4, 0, 1, 0) := rfl
theorem fX4_candidate_75 : fetch tX4_candidate 75 = some (.goto (-58), 3, 17, 0, 0, 0) := rfl
theorem fX4_candidate_78 : fetch tX4_candidate 78 = some (.aload_n 0, 1, 0, 0, 0, 0) := rfl
theorem fX4_candidate_79 : fetch tX4_candidate 79 = some (.getfield 16, 3, 4, 4, 0, 0) := rfl
theorem fX4_candidate_82 : fetch tX4_candidate 82 = some (.iload_n 2, 1, 2, 0, 0, 0) := rfl
theorem fX4_candidate_83 : fetch tX4_candidate 83 = some (.laload, 1, 0, 0, 0, 0) := rfl
theorem fX4_candidate_84 : fetch tX4_candidate 84 = some (.lconst 0, 1, 0, 0, 0, 0) := rfl
theorem fX4_candidate_85 : fetch tX4_candidate 85 = some (.lcmp, 1, 0, 0, 0, 0) := rfl
theorem fX4_candidate_86 : fetch tX4_candidate 86 = some (.ifCond .le 10, 3, 96, 0, 0, 0) := rfl
theorem fX4_candidate_89 : fetch tX4_candidate 89 = some (.iload_n 3, 1, 3, 0, 0, 0) := rfl
theorem fX4_candidate_90 : fetch tX4_candidate 90 = some (.iload_n 1, 1, 1, 0, 0, 0) := rfl
theorem fX4_candidate_91 : fetch tX4_candidate 91 = some (.if_icmp .ne 5, 3, 96, 0, 0, 0) := rfl
theorem fX4_candidate_94 : fetch tX4_candidate 94 = some (.iload_n 2, 1, 2, 0, 0, 0) := rfl
theorem fX4_candidate_95 : fetch tX4_candidate 95 = some (.ireturn, 1, 0, 0, 0, 0) := rfl
theorem fX4_candidate_96 : fetch tX4_candidate 96 = some (.iinc 2 1, 3, 2, 0, 1, 0) := rfl
theorem fX4_candidate_99 : fetch tX4_candidate 99 = some (.goto (-93), 3, 6, 0, 0, 0) := rfl
theorem fX4_candidate_102 : fetch tX4_candidate 102 = some (.bipush (-2), 2, 0, 0, (-2), 0) := rfl
theorem fX4_candidate_104 : fetch tX4_candidate 104 = some (.ireturn, 1, 0, 0, 0, 0) := rfl
def tX4_belief : List (Nat × TE) := [(0, .iload_n 1, 1, 1, 0, 0, 0), (1, .invokestatic 50, 3, 0, 4, 0, 0), (4, .ifCond .ne 6, 3, 10, 0, 0, 0), (7, .bipush (-2), 2, 0, 0, (-2), 0), (9, .ireturn, 1, 0, 0, 0, 0), (10, .aload_n 0, 1, 0, 0, 0, 0), (11, .invokevirtual 100, 3, 1, 4, 0, 0), (14, .lconst 0, 1, 0, 0, 0, 0), (15, .lstore_n 2, 1, 2, 0, 0, 0), (16, .iconst 0, 1, 0, 0, 0, 0), (17, .istore 4, 2, 4, 0, 0, 0), (19, .iload 4, 2, 4, 0, 0, 0), (21, .bipush 8, 2, 0, 0, 8, 0), (23, .if_icmp .ge 19, 3, 42, 0, 0, 0), (26, .lload_n 2, 1, 2, 0, 0, 0), (27, .aload_n 0, 1, 0, 0, 0, 0), (28, .getfield 16, 3, 4, 4, 0, 0), (31, .iload 4, 2, 4, 0, 0, 0), (33, .laload, 1, 0, 0, 0, 0), (34, .ladd, 1, 0, 0, 0, 0), (35, .lstore_n 2, 1, 2, 0, 0, 0), (36, .iinc 4 1, 3, 4, 0, 1, 0), (39, .goto (-20), 3, 19, 0, 0, 0), (42, .aload_n 0, 1, 0, 0, 0, 0), (43, .getfield 16, 3, 4, 4, 0, 0), (46, .iload_n 1, 1, 1, 0, 0, 0), (47, .laload, 1, 0, 0, 0, 0), (48, .lconst 0, 1, 0, 0, 0, 0), (49, .lcmp, 1, 0, 0, 0, 0), (50, .ifCond .ne 7, 3, 57, 0, 0, 0), (53, .iconst 0, 1, 0, 0, 0, 0), (54, .goto 16, 3, 70, 0, 0, 0), (57, .ldc2_w 103, 3, 0, 0, 0, 1000), (60, .aload_n 0, 1, 0, 0, 0, 0), (61, .getfield 16, 3, 4, 4, 0, 0), (64, .iload_n 1, 1, 1, 0, 0, 0), (65, .laload, 1, 0, 0, 0, 0), (66, .lmul, 1, 0, 0, 0, 0), (67, .lload_n 2, 1, 2, 0, 0, 0), (68, .ldiv, 1, 0, 0, 0, 0), (69, .l2i, 1, 0, 0, 0, 0), (70, .ireturn, 1, 0, 0, 0, 0)]
theorem tkX4_belief : tOk cX4_belief "RumourSourceModel" 5 tX4_belief = true := by decide +kernel
theorem fX4_belief_0 : fetch tX4_belief 0 = some (.iload_n 1, 1, 1, 0, 0, 0) := rfl
theorem fX4_belief_1 : fetch tX4_belief 1 = some (.invokestatic 50, 3, 0, 4, 0, 0) := rfl
theorem fX4_belief_4 : fetch tX4_belief 4 = some (.ifCond .ne 6, 3, 10, 0, 0, 0) := rfl
theorem fX4_belief_7 : fetch tX4_belief 7 = some (.bipush (-2), 2, 0, 0, (-2), 0) := rfl
theorem fX4_belief_9 : fetch tX4_belief 9 = some (.ireturn, 1, 0, 0, 0, 0) := rfl
theorem fX4_belief_10 : fetch tX4_belief 10 = some (.aload_n 0, 1, 0, 0, 0, 0) := rfl
theorem fX4_belief_11 : fetch tX4_belief 11 = some (.invokevirtual 100, 3, 1, 4, 0, 0) := rfl
theorem fX4_belief_14 : fetch tX4_belief 14 = some (.lconst 0, 1, 0, 0, 0, 0) := rfl
theorem fX4_belief_15 : fetch tX4_belief 15 = some (.lstore_n 2, 1, 2, 0, 0, 0) := rfl
theorem fX4_belief_16 : fetch tX4_belief 16 = some (.iconst 0, 1, 0, 0, 0, 0) := rfl
theorem fX4_belief_17 : fetch tX4_belief 17 = some (.istore 4, 2, 4, 0, 0, 0) := rfl
theorem fX4_belief_19 : fetch tX4_belief 19 = some (.iload 4, 2, 4, 0, 0, 0) := rfl
theorem fX4_belief_21 : fetch tX4_belief 21 = some (.bipush 8, 2, 0, 0, 8, 0) := rfl
theorem fX4_belief_23 : fetch tX4_belief 23 = some (.if_icmp .ge 19, 3, 42, 0, 0, 0) := rfl
theorem fX4_belief_26 : fetch tX4_belief 26 = some (.lload_n 2, 1, 2, 0, 0, 0) := rfl
theorem fX4_belief_27 : fetch tX4_belief 27 = some (.aload_n 0, 1, 0, 0, 0, 0) := rfl
theorem fX4_belief_28 : fetch tX4_belief 28 = some (.getfield 16, 3, 4, 4, 0, 0) := rfl
theorem fX4_belief_31 : fetch tX4_belief 31 = some (.iload 4, 2, 4, 0, 0, 0) := rfl
theorem fX4_belief_33 : fetch tX4_belief 33 = some (.laload, 1, 0, 0, 0, 0) := rfl
theorem fX4_belief_34 : fetch tX4_belief 34 = some (.ladd, 1, 0, 0, 0, 0) := rfl
theorem fX4_belief_35 : fetch tX4_belief 35 = some (.lstore_n 2, 1, 2, 0, 0, 0) := rfl
theorem fX4_belief_36 : fetch tX4_belief 36 = some (.iinc 4 1, 3, 4, 0, 1, 0) := rfl
theorem fX4_belief_39 : fetch tX4_belief 39 = some (.goto (-20), 3, 19, 0, 0, 0) := rfl
theorem fX4_belief_42 : fetch tX4_belief 42 = some (.aload_n 0, 1, 0, 0, 0, 0) := rfl
theorem fX4_belief_43 : fetch tX4_belief 43 = some (.getfield 16, 3, 4, 4, 0, 0) := rfl
theorem fX4_belief_46 : fetch tX4_belief 46 = some (.iload_n 1, 1, 1, 0, 0, 0) := rfl
theorem fX4_belief_47 : fetch tX4_belief 47 = some (.laload, 1, 0, 0, 0, 0) := rfl
theorem fX4_belief_48 : fetch tX4_belief 48 = some (.lconst 0, 1, 0, 0, 0, 0) := rfl
theorem fX4_belief_49 : fetch tX4_belief 49 = some (.lcmp, 1, 0, 0, 0, 0) := rfl
theorem fX4_belief_50 : fetch tX4_belief 50 = some (.ifCond .ne 7, 3, 57, 0, 0, 0) := rfl
theorem fX4_belief_53 : fetch tX4_belief 53 = some (.iconst 0, 1, 0, 0, 0, 0) := rfl
theorem fX4_belief_54 : fetch tX4_belief 54 = some (.goto 16, 3, 70, 0, 0, 0) := rfl
theorem fX4_belief_57 : fetch tX4_belief 57 = some (.ldc2_w 103, 3, 0, 0, 0, 1000) := rfl
theorem fX4_belief_60 : fetch tX4_belief 60 = some (.aload_n 0, 1, 0, 0, 0, 0) := rfl
theorem fX4_belief_61 : fetch tX4_belief 61 = some (.getfield 16, 3, 4, 4, 0, 0) := rfl
theorem fX4_belief_64 : fetch tX4_belief 64 = some (.iload_n 1, 1, 1, 0, 0, 0) := rfl
theorem fX4_belief_65 : fetch tX4_belief 65 = some (.laload, 1, 0, 0, 0, 0) := rfl
theorem fX4_belief_66 : fetch tX4_belief 66 = some (.lmul, 1, 0, 0, 0, 0) := rfl
theorem fX4_belief_67 : fetch tX4_belief 67 = some (.lload_n 2, 1, 2, 0, 0, 0) := rfl
theorem fX4_belief_68 : fetch tX4_belief 68 = some (.ldiv, 1, 0, 0, 0, 0) := rfl
theorem fX4_belief_69 : fetch tX4_belief 69 = some (.l2i, 1, 0, 0, 0, 0) := rfl
theorem fX4_belief_70 : fetch tX4_belief 70 = some (.ireturn, 1, 0, 0, 0, 0) := rfl
def tX4_decoy : List (Nat × TE) := [(0, .iload_n 1, 1, 1, 0, 0, 0), (1, .invokestatic 50, 3, 0, 4, 0, 0), (4, .ifCond .ne 6, 3, 10, 0, 0, 0), (7, .bipush (-2), 2, 0, 0, (-2), 0), (9, .ireturn, 1, 0, 0, 0, 0), (10, .iconst (-1), 1, 0, 0, (-1), 0), (11, .istore_n 2, 1, 2, 0, 0, 0), (12, .lconst 0, 1, 0, 0, 0, 0), (13, .lstore_n 3, 1, 3, 0, 0, 0), (14, .iconst 0, 1, 0, 0, 0, 0), (15, .istore 5, 2, 5, 0, 0, 0), (17, .iload 5, 2, 5, 0, 0, 0), (19, .bipush 8, 2, 0, 0, 8, 0), (21, .if_icmp .ge 62, 3, 83, 0, 0, 0), (24, .iload 5, 2, 5, 0, 0, 0), (26, .iload_n 1, 1, 1, 0, 0, 0), (27, .if_icmp .ne 7, 3, 34, 0, 0, 0), (30, .lconst 0, 1, 0, 0, 0, 0), (31, .goto 16, 3, 47, 0, 0, 0), (34, .aload_n 0, 1, 0, 0, 0, 0), (35, .iconst 1, 1, 0, 0, 1, 0), (36, .iload_n 1, 1, 1, 0, 0, 0), (37, .ishl, 1, 0, 0, 0, 0), (38, .iconst 1, 1, 0, 0, 1, 0), (39, .iload 5, 2, 5, 0, 0, 0), (41, .ishl, 1, 0, 0, 0, 0), (42, .ior, 1, 0, 0, 0, 0), (43, .iconst 0, 1, 0, 0, 0, 0), (44, .invokevirtual 96, 3, 1, 4, 0, 0), (47, .lstore 6, 2, 6, 0, 0, 0), (49, .lload 6, 2, 6, 0, 0, 0), (51, .lload_n 3, 1, 3, 0, 0, 0), (52, .lcmp, 1, 0, 0, 0, 0), (53, .ifCond .le 8, 3, 61, 0, 0, 0), (56, .iload 5, 2, 5, 0, 0, 0), (58, .goto 4, 3, 62, 0, 0, 0), (61, .iload_n 2, 1, 2, 0, 0, 0), (62, .istore_n 2, 1, 2, 0, 0, 0), (63, .lload 6, 2, 6, 0, 0, 0), (65, .lload_n 3, 1, 3, 0, 0, 0), (66, .lcmp, 1, 0, 0, 0, 0), (67, .ifCond .le 8, 3, 75, 0, 0, 0), (70, .lload 6, 2, 6, 0, 0, 0), (72, .goto 4, 3, 76, 0, 0, 0), (75, .lload_n 3, 1, 3, 0, 0, 0), (76, .lstore_n 3, 1, 3, 0, 0, 0), (77, .iinc 5 1, 3, 5, 0, 1, 0), (80, .goto (-63), 3, 17, 0, 0, 0), (83, .iload_n 2, 1, 2, 0, 0, 0), (84, .ireturn, 1, 0, 0, 0, 0)]
theorem tkX4_decoy : tOk cX4_decoy "RumourSourceModel" 8 tX4_decoy = true := by decide +kernel
theorem fX4_decoy_0 : fetch tX4_decoy 0 = some (.iload_n 1, 1, 1, 0, 0, 0) := rfl
theorem fX4_decoy_1 : fetch tX4_decoy 1 = some (.invokestatic 50, 3, 0, 4, 0, 0) := rfl
theorem fX4_decoy_4 : fetch tX4_decoy 4 = some (.ifCond .ne 6, 3, 10, 0, 0, 0) := rfl
theorem fX4_decoy_7 : fetch tX4_decoy 7 = some (.bipush (-2), 2, 0, 0, (-2), 0) := rfl
theorem fX4_decoy_9 : fetch tX4_decoy 9 = some (.ireturn, 1, 0, 0, 0, 0) := rfl
theorem fX4_decoy_10 : fetch tX4_decoy 10 = some (.iconst (-1), 1, 0, 0, (-1), 0) := rfl
theorem fX4_decoy_11 : fetch tX4_decoy 11 = some (.istore_n 2, 1, 2, 0, 0, 0) := rfl
theorem fX4_decoy_12 : fetch tX4_decoy 12 = some (.lconst 0, 1, 0, 0, 0, 0) := rfl
theorem fX4_decoy_13 : fetch tX4_decoy 13 = some (.lstore_n 3, 1, 3, 0, 0, 0) := rfl
theorem fX4_decoy_14 : fetch tX4_decoy 14 = some (.iconst 0, 1, 0, 0, 0, 0) := rfl
theorem fX4_decoy_15 : fetch tX4_decoy 15 = some (.istore 5, 2, 5, 0, 0, 0) := rfl
theorem fX4_decoy_17 : fetch tX4_decoy 17 = some (.iload 5, 2, 5, 0, 0, 0) := rfl
theorem fX4_decoy_19 : fetch tX4_decoy 19 = some (.bipush 8, 2, 0, 0, 8, 0) := rfl
theorem fX4_decoy_21 : fetch tX4_decoy 21 = some (.if_icmp .ge 62, 3, 83, 0, 0, 0) := rfl
theorem fX4_decoy_24 : fetch tX4_decoy 24 = some (.iload 5, 2, 5, 0, 0, 0) := rfl
theorem fX4_decoy_26 : fetch tX4_decoy 26 = some (.iload_n 1, 1, 1, 0, 0, 0) := rfl
theorem fX4_decoy_27 : fetch tX4_decoy 27 = some (.if_icmp .ne 7, 3, 34, 0, 0, 0) := rfl
theorem fX4_decoy_30 : fetch tX4_decoy 30 = some (.lconst 0, 1, 0, 0, 0, 0) := rfl
theorem fX4_decoy_31 : fetch tX4_decoy 31 = some (.goto 16, 3, 47, 0, 0, 0) := rfl
theorem fX4_decoy_34 : fetch tX4_decoy 34 = some (.aload_n 0, 1, 0, 0, 0, 0) := rfl
theorem fX4_decoy_35 : fetch tX4_decoy 35 = some (.iconst 1, 1, 0, 0, 1, 0) := rfl
theorem fX4_decoy_36 : fetch tX4_decoy 36 = some (.iload_n 1, 1, 1, 0, 0, 0) := rfl
theorem fX4_decoy_37 : fetch tX4_decoy 37 = some (.ishl, 1, 0, 0, 0, 0) := rfl
theorem fX4_decoy_38 : fetch tX4_decoy 38 = some (.iconst 1, 1, 0, 0, 1, 0) := rfl
theorem fX4_decoy_39 : fetch tX4_decoy 39 = some (.iload 5, 2, 5, 0, 0, 0) := rfl
theorem fX4_decoy_41 : fetch tX4_decoy 41 = some (.ishl, 1, 0, 0, 0, 0) := rfl
theorem fX4_decoy_42 : fetch tX4_decoy 42 = some (.ior, 1, 0, 0, 0, 0) := rfl
theorem fX4_decoy_43 : fetch tX4_decoy 43 = some (.iconst 0, 1, 0, 0, 0, 0) := rfl
theorem fX4_decoy_44 : fetch tX4_decoy 44 = some (.invokevirtual 96, 3, 1, 4, 0, 0) := rfl
theorem fX4_decoy_47 : fetch tX4_decoy 47 = some (.lstore 6, 2, 6, 0, 0, 0) := rfl
theorem fX4_decoy_49 : fetch tX4_decoy 49 = some (.lload 6, 2, 6, 0, 0, 0) := rfl
theorem fX4_decoy_51 : fetch tX4_decoy 51 = some (.lload_n 3, 1, 3, 0, 0, 0) := rfl
theorem fX4_decoy_52 : fetch tX4_decoy 52 = some (.lcmp, 1, 0, 0, 0, 0) := rfl
theorem fX4_decoy_53 : fetch tX4_decoy 53 = some (.ifCond .le 8, 3, 61, 0, 0, 0) := rfl
theorem fX4_decoy_56 : fetch tX4_decoy 56 = some (.iload 5, 2, 5, 0, 0, 0) := rfl
theorem fX4_decoy_58 : fetch tX4_decoy 58 = some (.goto 4, 3, 62, 0, 0, 0) := rfl
theorem fX4_decoy_61 : fetch tX4_decoy 61 = some (.iload_n 2, 1, 2, 0, 0, 0) := rfl
theorem fX4_decoy_62 : fetch tX4_decoy 62 = some (.istore_n 2, 1, 2, 0, 0, 0) := rfl
theorem fX4_decoy_63 : fetch tX4_decoy 63 = some (.lload 6, 2, 6, 0, 0, 0) := rfl
theorem fX4_decoy_65 : fetch tX4_decoy 65 = some (.lload_n 3, 1, 3, 0, 0, 0) := rfl
theorem fX4_decoy_66 : fetch tX4_decoy 66 = some (.lcmp, 1, 0, 0, 0, 0) := rfl
theorem fX4_decoy_67 : fetch tX4_decoy 67 = some (.ifCond .le 8, 3, 75, 0, 0, 0) := rfl
theorem fX4_decoy_70 : fetch tX4_decoy 70 = some (.lload 6, 2, 6, 0, 0, 0) := rfl
theorem fX4_decoy_72 : fetch tX4_decoy 72 = some (.goto 4, 3, 76, 0, 0, 0) := rfl
theorem fX4_decoy_75 : fetch tX4_decoy 75 = some (.lload_n 3, 1, 3, 0, 0, 0) := rfl
theorem fX4_decoy_76 : fetch tX4_decoy 76 = some (.lstore_n 3, 1, 3, 0, 0, 0) := rfl
theorem fX4_decoy_77 : fetch tX4_decoy 77 = some (.iinc 5 1, 3, 5, 0, 1, 0) := rfl
theorem fX4_decoy_80 : fetch tX4_decoy 80 = some (.goto (-63), 3, 17, 0, 0, 0) := rfl
theorem fX4_decoy_83 : fetch tX4_decoy 83 = some (.iload_n 2, 1, 2, 0, 0, 0) := rfl
theorem fX4_decoy_84 : fetch tX4_decoy 84 = some (.ireturn, 1, 0, 0, 0, 0) := rfl
def tX4_possible : List (Nat × TE) := [(0, .iconst 0, 1, 0, 0, 0, 0), (1, .istore_n 1, 1, 1, 0, 0, 0), (2, .iconst 0, 1, 0, 0, 0, 0), (3, .istore_n 2, 1, 2, 0, 0, 0), (4, .iload_n 2, 1, 2, 0, 0, 0), (5, .bipush 8, 2, 0, 0, 8, 0), (7, .if_icmp .ge 48, 3, 55, 0, 0, 0), (10, .iload_n 2, 1, 2, 0, 0, 0), (11, .istore_n 3, 1, 3, 0, 0, 0), (12, .iload_n 3, 1, 3, 0, 0, 0), (13, .bipush 8, 2, 0, 0, 8, 0), (15, .if_icmp .ge 34, 3, 49, 0, 0, 0), (18, .iload_n 1, 1, 1, 0, 0, 0), (19, .aload_n 0, 1, 0, 0, 0, 0), (20, .iconst 1, 1, 0, 0, 1, 0), (21, .iload_n 2, 1, 2, 0, 0, 0), (22, .ishl, 1, 0, 0, 0, 0), (23, .iconst 1, 1, 0, 0, 1, 0), (24, .iload_n 3, 1, 3, 0, 0, 0), (25, .ishl, 1, 0, 0, 0, 0), (26, .ior, 1, 0, 0, 0, 0), (27, .iconst 1, 1, 0, 0, 1, 0), (28, .invokevirtual 96, 3, 0, 4, 0, 0), (31, .lconst 0, 1, 0, 0, 0, 0), (32, .lcmp, 1, 0, 0, 0, 0), (33, .ifCond .le 7, 3, 40, 0, 0, 0), (36, .iconst 1, 1, 0, 0, 1, 0), (37, .goto 4, 3, 41, 0, 0, 0), (40, .iconst 0, 1, 0, 0, 0, 0), (41, .iadd, 1, 0, 0, 0, 0), (42, .istore_n 1, 1, 1, 0, 0, 0), (43, .iinc 3 1, 3, 3, 0, 1, 0), (46, .goto (-34), 3, 12, 0, 0, 0), (49, .iinc 2 1, 3, 2, 0, 1, 0), (52, .goto (-48), 3, 4, 0, 0, 0), (55, .iload_n 1, 1, 1, 0, 0, 0), (56, .ireturn, 1, 0, 0, 0, 0)]
theorem tkX4_possible : tOk cX4_possible "RumourSourceModel" 4 tX4_possible = true := by decide +kernel
theorem fX4_possible_0 : fetch tX4_possible 0 = some (.iconst 0, 1, 0, 0, 0, 0) := rfl
theorem fX4_possible_1 : fetch tX4_possible 1 = some (.istore_n 1, 1, 1, 0, 0, 0) := rfl
theorem fX4_possible_2 : fetch tX4_possible 2 = some (.iconst 0, 1, 0, 0, 0, 0) := rfl
theorem fX4_possible_3 : fetch tX4_possible 3 = some (.istore_n 2, 1, 2, 0, 0, 0) := rfl
theorem fX4_possible_4 : fetch tX4_possible 4 = some (.iload_n 2, 1, 2, 0, 0, 0) := rfl
theorem fX4_possible_5 : fetch tX4_possible 5 = some (.bipush 8, 2, 0, 0, 8, 0) := rfl
theorem fX4_possible_7 : fetch tX4_possible 7 = some (.if_icmp .ge 48, 3, 55, 0, 0, 0) := rfl
theorem fX4_possible_10 : fetch tX4_possible 10 = some (.iload_n 2, 1, 2, 0, 0, 0) := rfl
theorem fX4_possible_11 : fetch tX4_possible 11 = some (.istore_n 3, 1, 3, 0, 0, 0) := rfl
theorem fX4_possible_12 : fetch tX4_possible 12 = some (.iload_n 3, 1, 3, 0, 0, 0) := rfl
theorem fX4_possible_13 : fetch tX4_possible 13 = some (.bipush 8, 2, 0, 0, 8, 0) := rfl
theorem fX4_possible_15 : fetch tX4_possible 15 = some (.if_icmp .ge 34, 3, 49, 0, 0, 0) := rfl
theorem fX4_possible_18 : fetch tX4_possible 18 = some (.iload_n 1, 1, 1, 0, 0, 0) := rfl
theorem fX4_possible_19 : fetch tX4_possible 19 = some (.aload_n 0, 1, 0, 0, 0, 0) := rfl
theorem fX4_possible_20 : fetch tX4_possible 20 = some (.iconst 1, 1, 0, 0, 1, 0) := rfl
theorem fX4_possible_21 : fetch tX4_possible 21 = some (.iload_n 2, 1, 2, 0, 0, 0) := rfl
theorem fX4_possible_22 : fetch tX4_possible 22 = some (.ishl, 1, 0, 0, 0, 0) := rfl
theorem fX4_possible_23 : fetch tX4_possible 23 = some (.iconst 1, 1, 0, 0, 1, 0) := rfl
theorem fX4_possible_24 : fetch tX4_possible 24 = some (.iload_n 3, 1, 3, 0, 0, 0) := rfl
theorem fX4_possible_25 : fetch tX4_possible 25 = some (.ishl, 1, 0, 0, 0, 0) := rfl
theorem fX4_possible_26 : fetch tX4_possible 26 = some (.ior, 1, 0, 0, 0, 0) := rfl
theorem fX4_possible_27 : fetch tX4_possible 27 = some (.iconst 1, 1, 0, 0, 1, 0) := rfl
theorem fX4_possible_28 : fetch tX4_possible 28 = some (.invokevirtual 96, 3, 0, 4, 0, 0) := rfl
theorem fX4_possible_31 : fetch tX4_possible 31 = some (.lconst 0, 1, 0, 0, 0, 0) := rfl
theorem fX4_possible_32 : fetch tX4_possible 32 = some (.lcmp, 1, 0, 0, 0, 0) := rfl
theorem fX4_possible_33 : fetch tX4_possible 33 = some (.ifCond .le 7, 3, 40, 0, 0, 0) := rfl
theorem fX4_possible_36 : fetch tX4_possible 36 = some (.iconst 1, 1, 0, 0, 1, 0) := rfl
theorem fX4_possible_37 : fetch tX4_possible 37 = some (.goto 4, 3, 41, 0, 0, 0) := rfl
theorem fX4_possible_40 : fetch tX4_possible 40 = some (.iconst 0, 1, 0, 0, 0, 0) := rfl
theorem fX4_possible_41 : fetch tX4_possible 41 = some (.iadd, 1, 0, 0, 0, 0) := rfl
theorem fX4_possible_42 : fetch tX4_possible 42 = some (.istore_n 1, 1, 1, 0, 0, 0) := rfl
theorem fX4_possible_43 : fetch tX4_possible 43 = some (.iinc 3 1, 3, 3, 0, 1, 0) := rfl
theorem fX4_possible_46 : fetch tX4_possible 46 = some (.goto (-34), 3, 12, 0, 0, 0) := rfl
theorem fX4_possible_49 : fetch tX4_possible 49 = some (.iinc 2 1, 3, 2, 0, 1, 0) := rfl
theorem fX4_possible_52 : fetch tX4_possible 52 = some (.goto (-48), 3, 4, 0, 0, 0) := rfl
theorem fX4_possible_55 : fetch tX4_possible 55 = some (.iload_n 1, 1, 1, 0, 0, 0) := rfl
theorem fX4_possible_56 : fetch tX4_possible 56 = some (.ireturn, 1, 0, 0, 0, 0) := rfl
def tX4_explanation : List (Nat × TE) := [(0, .iload_n 1, 1, 1, 0, 0, 0), (1, .invokestatic 74, 3, 0, 4, 0, 0), (4, .ifCond .ne 6, 3, 10, 0, 0, 0), (7, .bipush (-3), 2, 0, 0, (-3), 0), (9, .ireturn, 1, 0, 0, 0, 0), (10, .iconst (-1), 1, 0, 0, (-1), 0), (11, .istore_n 2, 1, 2, 0, 0, 0), (12, .lconst 0, 1, 0, 0, 0, 0), (13, .lstore_n 3, 1, 3, 0, 0, 0), (14, .iconst 0, 1, 0, 0, 0, 0), (15, .istore 5, 2, 5, 0, 0, 0), (17, .iload 5, 2, 5, 0, 0, 0), (19, .iconst 1, 1, 0, 0, 1, 0), (20, .aload_n 0, 1, 0, 0, 0, 0), (21, .getfield 7, 3, 4, 0, 0, 0), (24, .iconst 0, 1, 0, 0, 0, 0), (25, .iaload, 1, 0, 0, 0, 0), (26, .ishl, 1, 0, 0, 0, 0), (27, .if_icmp .ge 59, 3, 86, 0, 0, 0), (30, .aload_n 0, 1, 0, 0, 0, 0), (31, .iload 5, 2, 5, 0, 0, 0), (33, .invokevirtual 84, 3, 1, 4, 0, 0), (36, .lstore 6, 2, 6, 0, 0, 0), (38, .lload 6, 2, 6, 0, 0, 0), (40, .lload_n 3, 1, 3, 0, 0, 0), (41, .lcmp, 1, 0, 0, 0, 0), (42, .ifCond .le 38, 3, 80, 0, 0, 0), (45, .aload_n 0, 1, 0, 0, 0, 0), (46, .iload_n 1, 1, 1, 0, 0, 0), (47, .iload 5, 2, 5, 0, 0, 0), (49, .invokevirtual 78, 3, 2, 4, 0, 0), (52, .aload_n 0, 1, 0, 0, 0, 0), (53, .invokevirtual 90, 3, 3, 4, 0, 0), (56, .ifCond .eq 8, 3, 64, 0, 0, 0), (59, .iload 5, 2, 5, 0, 0, 0), (61, .goto 4, 3, 65, 0, 0, 0), (64, .iload_n 2, 1, 2, 0, 0, 0), (65, .istore_n 2, 1, 2, 0, 0, 0), (66, .aload_n 0, 1, 0, 0, 0, 0), (67, .invokevirtual 90, 3, 3, 4, 0, 0), (70, .ifCond .eq 8, 3, 78, 0, 0, 0), (73, .lload 6, 2, 6, 0, 0, 0), (75, .goto 4, 3, 79, 0, 0, 0), (78, .lload_n 3, 1, 3, 0, 0, 0), (79, .lstore_n 3, 1, 3, 0, 0, 0), (80, .iinc 5 1, 3, 5, 0, 1, 0), (83, .goto (-66), 3, 17, 0, 0, 0), (86, .iload_n 2, 1, 2, 0, 0, 0), (87, .ireturn, 1, 0, 0, 0, 0)]
theorem tkX4_explanation : tOk cX4_explanation "RumourSourceModel" 8 tX4_explanation = true := by decide +kernel
theorem fX4_explanation_0 : fetch tX4_explanation 0 = some (.iload_n 1, 1, 1, 0, 0, 0) := rfl
theorem fX4_explanation_1 : fetch tX4_explanation 1 = some (.invokestatic 74, 3, 0, 4, 0, 0) := rfl
theorem fX4_explanation_4 : fetch tX4_explanation 4 = some (.ifCond .ne 6, 3, 10, 0, 0, 0) := rfl
theorem fX4_explanation_7 : fetch tX4_explanation 7 = some (.bipush (-3), 2, 0, 0, (-3), 0) := rfl
theorem fX4_explanation_9 : fetch tX4_explanation 9 = some (.ireturn, 1, 0, 0, 0, 0) := rfl
theorem fX4_explanation_10 : fetch tX4_explanation 10 = some (.iconst (-1), 1, 0, 0, (-1), 0) := rfl
theorem fX4_explanation_11 : fetch tX4_explanation 11 = some (.istore_n 2, 1, 2, 0, 0, 0) := rfl
theorem fX4_explanation_12 : fetch tX4_explanation 12 = some (.lconst 0, 1, 0, 0, 0, 0) := rfl
theorem fX4_explanation_13 : fetch tX4_explanation 13 = some (.lstore_n 3, 1, 3, 0, 0, 0) := rfl
theorem fX4_explanation_14 : fetch tX4_explanation 14 = some (.iconst 0, 1, 0, 0, 0, 0) := rfl
theorem fX4_explanation_15 : fetch tX4_explanation 15 = some (.istore 5, 2, 5, 0, 0, 0) := rfl
theorem fX4_explanation_17 : fetch tX4_explanation 17 = some (.iload 5, 2, 5, 0, 0, 0) := rfl
theorem fX4_explanation_19 : fetch tX4_explanation 19 = some (.iconst 1, 1, 0, 0, 1, 0) := rfl
theorem fX4_explanation_20 : fetch tX4_explanation 20 = some (.aload_n 0, 1, 0, 0, 0, 0) := rfl
theorem fX4_explanation_21 : fetch tX4_explanation 21 = some (.getfield 7, 3, 4, 0, 0, 0) := rfl
theorem fX4_explanation_24 : fetch tX4_explanation 24 = some (.iconst 0, 1, 0, 0, 0, 0) := rfl
theorem fX4_explanation_25 : fetch tX4_explanation 25 = some (.iaload, 1, 0, 0, 0, 0) := rfl
theorem fX4_explanation_26 : fetch tX4_explanation 26 = some (.ishl, 1, 0, 0, 0, 0) := rfl
theorem fX4_explanation_27 : fetch tX4_explanation 27 = some (.if_icmp .ge 59, 3, 86, 0, 0, 0) := rfl
theorem fX4_explanation_30 : fetch tX4_explanation 30 = some (.aload_n 0, 1, 0, 0, 0, 0) := rfl
theorem fX4_explanation_31 : fetch tX4_explanation 31 = some (.iload 5, 2, 5, 0, 0, 0) := rfl
theorem fX4_explanation_33 : fetch tX4_explanation 33 = some (.invokevirtual 84, 3, 1, 4, 0, 0) := rfl
theorem fX4_explanation_36 : fetch tX4_explanation 36 = some (.lstore 6, 2, 6, 0, 0, 0) := rfl
theorem fX4_explanation_38 : fetch tX4_explanation 38 = some (.lload 6, 2, 6, 0, 0, 0) := rfl
theorem fX4_explanation_40 : fetch tX4_explanation 40 = some (.lload_n 3, 1, 3, 0, 0, 0) := rfl
theorem fX4_explanation_41 : fetch tX4_explanation 41 = some (.lcmp, 1, 0, 0, 0, 0) := rfl
theorem fX4_explanation_42 : fetch tX4_explanation 42 = some (.ifCond .le 38, 3, 80, 0, 0, 0) := rfl
theorem fX4_explanation_45 : fetch tX4_explanation 45 = some (.aload_n 0, 1, 0, 0, 0, 0) := rfl
theorem fX4_explanation_46 : fetch tX4_explanation 46 = some (.iload_n 1, 1, 1, 0, 0, 0) := rfl
theorem fX4_explanation_47 : fetch tX4_explanation 47 = some (.iload 5, 2, 5, 0, 0, 0) := rfl
theorem fX4_explanation_49 : fetch tX4_explanation 49 = some (.invokevirtual 78, 3, 2, 4, 0, 0) := rfl
theorem fX4_explanation_52 : fetch tX4_explanation 52 = some (.aload_n 0, 1, 0, 0, 0, 0) := rfl
theorem fX4_explanation_53 : fetch tX4_explanation 53 = some (.invokevirtual 90, 3, 3, 4, 0, 0) := rfl
theorem fX4_explanation_56 : fetch tX4_explanation 56 = some (.ifCond .eq 8, 3, 64, 0, 0, 0) := rfl
theorem fX4_explanation_59 : fetch tX4_explanation 59 = some (.iload 5, 2, 5, 0, 0, 0) := rfl
theorem fX4_explanation_61 : fetch tX4_explanation 61 = some (.goto 4, 3, 65, 0, 0, 0) := rfl
theorem fX4_explanation_64 : fetch tX4_explanation 64 = some (.iload_n 2, 1, 2, 0, 0, 0) := rfl
theorem fX4_explanation_65 : fetch tX4_explanation 65 = some (.istore_n 2, 1, 2, 0, 0, 0) := rfl
theorem fX4_explanation_66 : fetch tX4_explanation 66 = some (.aload_n 0, 1, 0, 0, 0, 0) := rfl
theorem fX4_explanation_67 : fetch tX4_explanation 67 = some (.invokevirtual 90, 3, 3, 4, 0, 0) := rfl
theorem fX4_explanation_70 : fetch tX4_explanation 70 = some (.ifCond .eq 8, 3, 78, 0, 0, 0) := rfl
theorem fX4_explanation_73 : fetch tX4_explanation 73 = some (.lload 6, 2, 6, 0, 0, 0) := rfl
theorem fX4_explanation_75 : fetch tX4_explanation 75 = some (.goto 4, 3, 79, 0, 0, 0) := rfl
theorem fX4_explanation_78 : fetch tX4_explanation 78 = some (.lload_n 3, 1, 3, 0, 0, 0) := rfl
theorem fX4_explanation_79 : fetch tX4_explanation 79 = some (.lstore_n 3, 1, 3, 0, 0, 0) := rfl
theorem fX4_explanation_80 : fetch tX4_explanation 80 = some (.iinc 5 1, 3, 5, 0, 1, 0) := rfl
theorem fX4_explanation_83 : fetch tX4_explanation 83 = some (.goto (-66), 3, 17, 0, 0, 0) := rfl
theorem fX4_explanation_86 : fetch tX4_explanation 86 = some (.iload_n 2, 1, 2, 0, 0, 0) := rfl
theorem fX4_explanation_87 : fetch tX4_explanation 87 = some (.ireturn, 1, 0, 0, 0, 0) := rfl
def tX4_values : List (Nat × TE) := [(0, .iload_n 1, 1, 1, 0, 0, 0), (1, .invokestatic 50, 3, 0, 4, 0, 0), (4, .ifCond .ne 6, 3, 10, 0, 0, 0), (7, .bipush (-2), 2, 0, 0, (-2), 0), (9, .ireturn, 1, 0, 0, 0, 0), (10, .iconst 0, 1, 0, 0, 0, 0), (11, .istore_n 2, 1, 2, 0, 0, 0), (12, .iload_n 2, 1, 2, 0, 0, 0), (13, .bipush 32, 2, 0, 0, 32, 0), (15, .if_icmp .ge 16, 3, 31, 0, 0, 0), (18, .aload_n 0, 1, 0, 0, 0, 0), (19, .getfield 20, 3, 4, 5, 0, 0), (22, .iload_n 2, 1, 2, 0, 0, 0), (23, .iconst 0, 1, 0, 0, 0, 0), (24, .bastore, 1, 0, 0, 0, 0), (25, .iinc 2 1, 3, 2, 0, 1, 0), (28, .goto (-16), 3, 12, 0, 0, 0), (31, .iconst 0, 1, 0, 0, 0, 0), (32, .istore_n 2, 1, 2, 0, 0, 0), (33, .iload_n 2, 1, 2, 0, 0, 0), (34, .iconst 1, 1, 0, 0, 1, 0), (35, .aload_n 0, 1, 0, 0, 0, 0), (36, .getfield 7, 3, 4, 0, 0, 0), (39, .iconst 0, 1, 0, 0, 0, 0), (40, .iaload, 1, 0, 0, 0, 0), (41, .ishl, 1, 0, 0, 0, 0), (42, .if_icmp .ge 77, 3, 119, 0, 0, 0), (45, .iconst 0, 1, 0, 0, 0, 0), (46, .istore_n 3, 1, 3, 0, 0, 0), (47, .iload_n 3, 1, 3, 0, 0, 0), (48, .bipush 8, 2, 0, 0, 8, 0), (50, .if_icmp .ge 63, 3, 113, 0, 0, 0), (53, .aload_n 0, 1, 0, 0, 0, 0), (54, .iload_n 2, 1, 2, 0, 0, 0), (55, .invokevirtual 84, 3, 1, 4, 0, 0), (58, .lconst 0, 1, 0, 0, 0, 0), (59, .lcmp, 1, 0, 0, 0, 0), (60, .ifCond .le 53, 3, 113, 0, 0, 0), (63, .aload_n 0, 1, 0, 0, 0, 0), (64, .iconst 1, 1, 0, 0, 1, 0), (65, .iload_n 3, 1, 3, 0, 0, 0), (66, .ishl, 1, 0, 0, 0, 0), (67, .iload_n 2, 1, 2, 0, 0, 0), (68, .invokevirtual 78, 3, 2, 4, 0, 0), (71, .aload_n 0, 1, 0, 0, 0, 0), (72, .invokevirtual 90, 3, 3, 4, 0, 0), (75, .ifCond .eq 32, 3, 107, 0, 0, 0), (78, .aload_n 0, 1, 0, 0, 0, 0), (79, .getfield 20, 3, 4, 5, 0, 0), (82, .aload_n 0, 1, 0, 0, 0, 0), (83, .getfield 13, 3, 4, 3, 0, 0), (86, .iload_n 1, 1, 1, 0, 0, 0), (87, .iaload, 1, 0, 0, 0, 0), (88, .sipush 1000, 3, 0, 0, 1000, 0), (91, .if_icmp .ne 8, 3, 99, 0, 0, 0), (94, .bipush 31, 2, 0, 0, 31, 0), (96, .goto 9, 3, 105, 0, 0, 0), (99, .aload_n 0, 1, 0, 0, 0, 0), (100, .getfield 13, 3, 4, 3, 0, 0), (103, .iload_n 1, 1, 1, 0, 0, 0), (104, .iaload, 1, 0, 0, 0, 0), (105, .iconst 1, 1, 0, 0, 1, 0), (106, .bastore, 1, 0, 0, 0, 0), (107, .iinc 3 1, 3, 3, 0, 1, 0), (110, .goto (-63), 3, 47, 0, 0, 0), (113, .iinc 2 1, 3, 2, 0, 1, 0), (116, .goto (-83), 3, 33, 0, 0, 0), (119, .iconst 0, 1, 0, 0, 0, 0), (120, .istore_n 2, 1, 2, 0, 0, 0), (121, .iconst 0, 1, 0, 0, 0, 0), (122, .istore_n 3, 1, 3, 0, 0, 0), (123, .iload_n 3, 1, 3, 0, 0, 0), (124, .bipush 32, 2, 0, 0, 32, 0), (126, .if_icmp .ge 26, 3, 152, 0, 0, 0), (129, .iload_n 2, 1, 2, 0, 0, 0), (130, .aload_n 0, 1, 0, 0, 0, 0), (131, .getfield 20, 3, 4, 5, 0, 0), (134, .iload_n 3, 1, 3, 0, 0, 0), (135, .baload, 1, 0, 0, 0, 0), (136, .ifCond .eq 7, 3, 143, 0, 0, 0), (139, .iconst 1, 1, 0, 0, 1, 0), (140, .goto 4, 3, 144, 0, 0, 0), (143, .iconst 0, 1, 0, 0, 0, 0), (144, .iadd, 1, 0, 0, 0, 0), (145, .istore_n 2, 1, 2, 0, 0, 0), (146, .iinc 3 1, 3, 3, 0, 1, 0), (149, .goto (-26), 3, 123, 0, 0, 0), (152, .iload_n 2, 1, 2, 0, 0, 0), (153, .ireturn, 1, 0, 0, 0, 0)]
theorem tkX4_values : tOk cX4_values "RumourSourceModel" 4 tX4_values = true := by decide +kernel
theorem fX4_values_0 : fetch tX4_values 0 = some (.iload_n 1, 1, 1, 0, 0, 0) := rfl
theorem fX4_values_1 : fetch tX4_values 1 = some (.invokestatic 50, 3, 0, 4, 0, 0) := rfl
theorem fX4_values_4 : fetch tX4_values 4 = some (.ifCond .ne 6, 3, 10, 0, 0, 0) := rfl
theorem fX4_values_7 : fetch tX4_values 7 = some (.bipush (-2), 2, 0, 0, (-2), 0) := rfl
theorem fX4_values_9 : fetch tX4_values 9 = some (.ireturn, 1, 0, 0, 0, 0) := rfl
theorem fX4_values_10 : fetch tX4_values 10 = some (.iconst 0, 1, 0, 0, 0, 0) := rfl
theorem fX4_values_11 : fetch tX4_values 11 = some (.istore_n 2, 1, 2, 0, 0, 0) := rfl
theorem fX4_values_12 : fetch tX4_values 12 = some (.iload_n 2, 1, 2, 0, 0, 0) := rfl
theorem fX4_values_13 : fetch tX4_values 13 = some (.bipush 32, 2, 0, 0, 32, 0) := rfl
theorem fX4_values_15 : fetch tX4_values 15 = some (.if_icmp .ge 16, 3, 31, 0, 0, 0) := rfl
theorem fX4_values_18 : fetch tX4_values 18 = some (.aload_n 0, 1, 0, 0, 0, 0) := rfl
theorem fX4_values_19 : fetch tX4_values 19 = some (.getfield 20, 3, 4, 5, 0, 0) := rfl
theorem fX4_values_22 : fetch tX4_values 22 = some (.iload_n 2, 1, 2, 0, 0, 0) := rfl
theorem fX4_values_23 : fetch tX4_values 23 = some (.iconst 0, 1, 0, 0, 0, 0) := rfl
theorem fX4_values_24 : fetch tX4_values 24 = some (.bastore, 1, 0, 0, 0, 0) := rfl
theorem fX4_values_25 : fetch tX4_values 25 = some (.iinc 2 1, 3, 2, 0, 1, 0) := rfl
theorem fX4_values_28 : fetch tX4_values 28 = some (.goto (-16), 3, 12, 0, 0, 0) := rfl
theorem fX4_values_31 : fetch tX4_values 31 = some (.iconst 0, 1, 0, 0, 0, 0) := rfl
theorem fX4_values_32 : fetch tX4_values 32 = some (.istore_n 2, 1, 2, 0, 0, 0) := rfl
theorem fX4_values_33 : fetch tX4_values 33 = some (.iload_n 2, 1, 2, 0, 0, 0) := rfl
theorem fX4_values_34 : fetch tX4_values 34 = some (.iconst 1, 1, 0, 0, 1, 0) := rfl
theorem fX4_values_35 : fetch tX4_values 35 = some (.aload_n 0, 1, 0, 0, 0, 0) := rfl
theorem fX4_values_36 : fetch tX4_values 36 = some (.getfield 7, 3, 4, 0, 0, 0) := rfl
theorem fX4_values_39 : fetch tX4_values 39 = some (.iconst 0, 1, 0, 0, 0, 0) := rfl
theorem fX4_values_40 : fetch tX4_values 40 = some (.iaload, 1, 0, 0, 0, 0) := rfl
theorem fX4_values_41 : fetch tX4_values 41 = some (.ishl, 1, 0, 0, 0, 0) := rfl
theorem fX4_values_42 : fetch tX4_values 42 = some (.if_icmp .ge 77, 3, 119, 0, 0, 0) := rfl
theorem fX4_values_45 : fetch tX4_values 45 = some (.iconst 0, 1, 0, 0, 0, 0) := rfl
theorem fX4_values_46 : fetch tX4_values 46 = some (.istore_n 3, 1, 3, 0, 0, 0) := rfl
theorem fX4_values_47 : fetch tX4_values 47 = some (.iload_n 3, 1, 3, 0, 0, 0) := rfl
theorem fX4_values_48 : fetch tX4_values 48 = some (.bipush 8, 2, 0, 0, 8, 0) := rfl
theorem fX4_values_50 : fetch tX4_values 50 = some (.if_icmp .ge 63, 3, 113, 0, 0, 0) := rfl
theorem fX4_values_53 : fetch tX4_values 53 = some (.aload_n 0, 1, 0, 0, 0, 0) := rfl
theorem fX4_values_54 : fetch tX4_values 54 = some (.iload_n 2, 1, 2, 0, 0, 0) := rfl
theorem fX4_values_55 : fetch tX4_values 55 = some (.invokevirtual 84, 3, 1, 4, 0, 0) := rfl
theorem fX4_values_58 : fetch tX4_values 58 = some (.lconst 0, 1, 0, 0, 0, 0) := rfl
theorem fX4_values_59 : fetch tX4_values 59 = some (.lcmp, 1, 0, 0, 0, 0) := rfl
theorem fX4_values_60 : fetch tX4_values 60 = some (.ifCond .le 53, 3, 113, 0, 0, 0) := rfl
theorem fX4_values_63 : fetch tX4_values 63 = some (.aload_n 0, 1, 0, 0, 0, 0) := rfl
theorem fX4_values_64 : fetch tX4_values 64 = some (.iconst 1, 1, 0, 0, 1, 0) := rfl
theorem fX4_values_65 : fetch tX4_values 65 = some (.iload_n 3, 1, 3, 0, 0, 0) := rfl
theorem fX4_values_66 : fetch tX4_values 66 = some (.ishl, 1, 0, 0, 0, 0) := rfl
theorem fX4_values_67 : fetch tX4_values 67 = some (.iload_n 2, 1, 2, 0, 0, 0) := rfl
theorem fX4_values_68 : fetch tX4_values 68 = some (.invokevirtual 78, 3, 2, 4, 0, 0) := rfl
theorem fX4_values_71 : fetch tX4_values 71 = some (.aload_n 0, 1, 0, 0, 0, 0) := rfl
theorem fX4_values_72 : fetch tX4_values 72 = some (.invokevirtual 90, 3, 3, 4, 0, 0) := rfl
theorem fX4_values_75 : fetch tX4_values 75 = some (.ifCond .eq 32, 3, 107, 0, 0, 0) := rfl
theorem fX4_values_78 : fetch tX4_values 78 = some (.aload_n 0, 1, 0, 0, 0, 0) := rfl
theorem fX4_values_79 : fetch tX4_values 79 = some (.getfield 20, 3, 4, 5, 0, 0) := rfl
theorem fX4_values_82 : fetch tX4_values 82 = some (.aload_n 0, 1, 0, 0, 0, 0) := rfl
theorem fX4_values_83 : fetch tX4_values 83 = some (.getfield 13, 3, 4, 3, 0, 0) := rfl
theorem fX4_values_86 : fetch tX4_values 86 = some (.iload_n 1, 1, 1, 0, 0, 0) := rfl
theorem fX4_values_87 : fetch tX4_values 87 = some (.iaload, 1, 0, 0, 0, 0) := rfl
theorem fX4_values_88 : fetch tX4_values 88 = some (.sipush 1000, 3, 0, 0, 1000, 0) := rfl
theorem fX4_values_91 : fetch tX4_values 91 = some (.if_icmp .ne 8, 3, 99, 0, 0, 0) := rfl
theorem fX4_values_94 : fetch tX4_values 94 = some (.bipush 31, 2, 0, 0, 31, 0) := rfl
theorem fX4_values_96 : fetch tX4_values 96 = some (.goto 9, 3, 105, 0, 0, 0) := rfl
theorem fX4_values_99 : fetch tX4_values 99 = some (.aload_n 0, 1, 0, 0, 0, 0) := rfl
theorem fX4_values_100 : fetch tX4_values 100 = some (.getfield 13, 3, 4, 3, 0, 0) := rfl
theorem fX4_values_103 : fetch tX4_values 103 = some (.iload_n 1, 1, 1, 0, 0, 0) := rfl
theorem fX4_values_104 : fetch tX4_values 104 = some (.iaload, 1, 0, 0, 0, 0) := rfl
theorem fX4_values_105 : fetch tX4_values 105 = some (.iconst 1, 1, 0, 0, 1, 0) := rfl
theorem fX4_values_106 : fetch tX4_values 106 = some (.bastore, 1, 0, 0, 0, 0) := rfl
theorem fX4_values_107 : fetch tX4_values 107 = some (.iinc 3 1, 3, 3, 0, 1, 0) := rfl
theorem fX4_values_110 : fetch tX4_values 110 = some (.goto (-63), 3, 47, 0, 0, 0) := rfl
theorem fX4_values_113 : fetch tX4_values 113 = some (.iinc 2 1, 3, 2, 0, 1, 0) := rfl
theorem fX4_values_116 : fetch tX4_values 116 = some (.goto (-83), 3, 33, 0, 0, 0) := rfl
theorem fX4_values_119 : fetch tX4_values 119 = some (.iconst 0, 1, 0, 0, 0, 0) := rfl
theorem fX4_values_120 : fetch tX4_values 120 = some (.istore_n 2, 1, 2, 0, 0, 0) := rfl
theorem fX4_values_121 : fetch tX4_values 121 = some (.iconst 0, 1, 0, 0, 0, 0) := rfl
theorem fX4_values_122 : fetch tX4_values 122 = some (.istore_n 3, 1, 3, 0, 0, 0) := rfl
theorem fX4_values_123 : fetch tX4_values 123 = some (.iload_n 3, 1, 3, 0, 0, 0) := rfl
theorem fX4_values_124 : fetch tX4_values 124 = some (.bipush 32, 2, 0, 0, 32, 0) := rfl
theorem fX4_values_126 : fetch tX4_values 126 = some (.if_icmp .ge 26, 3, 152, 0, 0, 0) := rfl
theorem fX4_values_129 : fetch tX4_values 129 = some (.iload_n 2, 1, 2, 0, 0, 0) := rfl
theorem fX4_values_130 : fetch tX4_values 130 = some (.aload_n 0, 1, 0, 0, 0, 0) := rfl
theorem fX4_values_131 : fetch tX4_values 131 = some (.getfield 20, 3, 4, 5, 0, 0) := rfl
theorem fX4_values_134 : fetch tX4_values 134 = some (.iload_n 3, 1, 3, 0, 0, 0) := rfl
theorem fX4_values_135 : fetch tX4_values 135 = some (.baload, 1, 0, 0, 0, 0) := rfl
theorem fX4_values_136 : fetch tX4_values 136 = some (.ifCond .eq 7, 3, 143, 0, 0, 0) := rfl
theorem fX4_values_139 : fetch tX4_values 139 = some (.iconst 1, 1, 0, 0, 1, 0) := rfl
theorem fX4_values_140 : fetch tX4_values 140 = some (.goto 4, 3, 144, 0, 0, 0) := rfl
theorem fX4_values_143 : fetch tX4_values 143 = some (.iconst 0, 1, 0, 0, 0, 0) := rfl
theorem fX4_values_144 : fetch tX4_values 144 = some (.iadd, 1, 0, 0, 0, 0) := rfl
theorem fX4_values_145 : fetch tX4_values 145 = some (.istore_n 2, 1, 2, 0, 0, 0) := rfl
theorem fX4_values_146 : fetch tX4_values 146 = some (.iinc 3 1, 3, 3, 0, 1, 0) := rfl
theorem fX4_values_149 : fetch tX4_values 149 = some (.goto (-26), 3, 123, 0, 0, 0) := rfl
theorem fX4_values_152 : fetch tX4_values 152 = some (.iload_n 2, 1, 2, 0, 0, 0) := rfl
theorem fX4_values_153 : fetch tX4_values 153 = some (.ireturn, 1, 0, 0, 0, 0) := rfl
def tX4_undo : List (Nat × TE) := [(0, .aload_n 0, 1, 0, 0, 0, 0), (1, .getfield 30, 3, 4, 1, 0, 0), (4, .ifCond .ne 6, 3, 10, 0, 0, 0), (7, .bipush (-4), 2, 0, 0, (-4), 0), (9, .ireturn, 1, 0, 0, 0, 0), (10, .aload_n 0, 1, 0, 0, 0, 0), (11, .aload_n 0, 1, 0, 0, 0, 0), (12, .getfield 30, 3, 4, 1, 0, 0), (15, .iconst 0, 1, 0, 0, 0, 0), (16, .invokevirtual 34, 3, 0, 4, 0, 0), (19, .aload_n 0, 1, 0, 0, 0, 0), (20, .dup, 1, 0, 0, 0, 0), (21, .getfield 30, 3, 4, 1, 0, 0), (24, .iconst 1, 1, 0, 0, 1, 0), (25, .isub, 1, 0, 0, 0, 0), (26, .putfield 30, 3, 4, 1, 0, 0), (29, .aload_n 0, 1, 0, 0, 0, 0), (30, .iconst 0, 1, 0, 0, 0, 0), (31, .putfield 38, 3, 4, 2, 0, 0), (34, .aload_n 0, 1, 0, 0, 0, 0), (35, .getfield 30, 3, 4, 1, 0, 0), (38, .ireturn, 1, 0, 0, 0, 0)]
theorem tkX4_undo : tOk cX4_undo "RumourSourceModel" 1 tX4_undo = true := by decide +kernel
theorem fX4_undo_0 : fetch tX4_undo 0 = some (.aload_n 0, 1, 0, 0, 0, 0) := rfl
theorem fX4_undo_1 : fetch tX4_undo 1 = some (.getfield 30, 3, 4, 1, 0, 0) := rfl
theorem fX4_undo_4 : fetch tX4_undo 4 = some (.ifCond .ne 6, 3, 10, 0, 0, 0) := rfl
theorem fX4_undo_7 : fetch tX4_undo 7 = some (.bipush (-4), 2, 0, 0, (-4), 0) := rfl
theorem fX4_undo_9 : fetch tX4_undo 9 = some (.ireturn, 1, 0, 0, 0, 0) := rfl
theorem fX4_undo_10 : fetch tX4_undo 10 = some (.aload_n 0, 1, 0, 0, 0, 0) := rfl
theorem fX4_undo_11 : fetch tX4_undo 11 = some (.aload_n 0, 1, 0, 0, 0, 0) := rfl
theorem fX4_undo_12 : fetch tX4_undo 12 = some (.getfield 30, 3, 4, 1, 0, 0) := rfl
theorem fX4_undo_15 : fetch tX4_undo 15 = some (.iconst 0, 1, 0, 0, 0, 0) := rfl
theorem fX4_undo_16 : fetch tX4_undo 16 = some (.invokevirtual 34, 3, 0, 4, 0, 0) := rfl
theorem fX4_undo_19 : fetch tX4_undo 19 = some (.aload_n 0, 1, 0, 0, 0, 0) := rfl
theorem fX4_undo_20 : fetch tX4_undo 20 = some (.dup, 1, 0, 0, 0, 0) := rfl
theorem fX4_undo_21 : fetch tX4_undo 21 = some (.getfield 30, 3, 4, 1, 0, 0) := rfl
theorem fX4_undo_24 : fetch tX4_undo 24 = some (.iconst 1, 1, 0, 0, 1, 0) := rfl
theorem fX4_undo_25 : fetch tX4_undo 25 = some (.isub, 1, 0, 0, 0, 0) := rfl
theorem fX4_undo_26 : fetch tX4_undo 26 = some (.putfield 30, 3, 4, 1, 0, 0) := rfl
theorem fX4_undo_29 : fetch tX4_undo 29 = some (.aload_n 0, 1, 0, 0, 0, 0) := rfl
theorem fX4_undo_30 : fetch tX4_undo 30 = some (.iconst 0, 1, 0, 0, 0, 0) := rfl
theorem fX4_undo_31 : fetch tX4_undo 31 = some (.putfield 38, 3, 4, 2, 0, 0) := rfl
theorem fX4_undo_34 : fetch tX4_undo 34 = some (.aload_n 0, 1, 0, 0, 0, 0) := rfl
theorem fX4_undo_35 : fetch tX4_undo 35 = some (.getfield 30, 3, 4, 1, 0, 0) := rfl
theorem fX4_undo_38 : fetch tX4_undo 38 = some (.ireturn, 1, 0, 0, 0, 0) := rfl
def tX4_type : List (Nat × TE) := [(0, .iload_n 1, 1, 1, 0, 0, 0), (1, .iconst 0, 1, 0, 0, 0, 0), (2, .sipush 255, 3, 0, 0, 255, 0), (5, .invokestatic 42, 3, 0, 4, 0, 0), (8, .ifCond .ne 6, 3, 14, 0, 0, 0), (11, .bipush (-3), 2, 0, 0, (-3), 0), (13, .ireturn, 1, 0, 0, 0, 0), (14, .aload_n 0, 1, 0, 0, 0, 0), (15, .getfield 105, 3, 4, 7, 0, 0), (18, .bipush 120, 2, 0, 0, 120, 0), (20, .if_icmp .ne 6, 3, 26, 0, 0, 0), (23, .bipush (-5), 2, 0, 0, (-5), 0), (25, .ireturn, 1, 0, 0, 0, 0), (26, .aload_n 0, 1, 0, 0, 0, 0), (27, .getfield 24, 3, 4, 6, 0, 0), (30, .aload_n 0, 1, 0, 0, 0, 0), (31, .getfield 105, 3, 4, 7, 0, 0), (34, .iload_n 1, 1, 1, 0, 0, 0), (35, .iastore, 1, 0, 0, 0, 0), (36, .aload_n 0, 1, 0, 0, 0, 0), (37, .dup, 1, 0, 0, 0, 0), (38, .getfield 105, 3, 4, 7, 0, 0), (41, .iconst 1, 1, 0, 0, 1, 0), (42, .iadd, 1, 0, 0, 0, 0), (43, .putfield 105, 3, 4, 7, 0, 0), (46, .aload_n 0, 1, 0, 0, 0, 0), (47, .getfield 105, 3, 4, 7, 0, 0), (50, .ireturn, 1, 0, 0, 0, 0)]
theorem tkX4_type : tOk cX4_type "RumourSourceModel" 2 tX4_type = true := by decide +kernel
theorem fX4_type_0 : fetch tX4_type 0 = some (.iload_n 1, 1, 1, 0, 0, 0) := rfl
theorem fX4_type_1 : fetch tX4_type 1 = some (.iconst 0, 1, 0, 0, 0, 0) := rfl
theorem fX4_type_2 : fetch tX4_type 2 = some (.sipush 255, 3, 0, 0, 255, 0) := rfl
theorem fX4_type_5 : fetch tX4_type 5 = some (.invokestatic 42, 3, 0, 4, 0, 0) := rfl
theorem fX4_type_8 : fetch tX4_type 8 = some (.ifCond .ne 6, 3, 14, 0, 0, 0) := rfl
theorem fX4_type_11 : fetch tX4_type 11 = some (.bipush (-3), 2, 0, 0, (-3), 0) := rfl
theorem fX4_type_13 : fetch tX4_type 13 = some (.ireturn, 1, 0, 0, 0, 0) := rfl
theorem fX4_type_14 : fetch tX4_type 14 = some (.aload_n 0, 1, 0, 0, 0, 0) := rfl
theorem fX4_type_15 : fetch tX4_type 15 = some (.getfield 105, 3, 4, 7, 0, 0) := rfl
theorem fX4_type_18 : fetch tX4_type 18 = some (.bipush 120, 2, 0, 0, 120, 0) := rfl
theorem fX4_type_20 : fetch tX4_type 20 = some (.if_icmp .ne 6, 3, 26, 0, 0, 0) := rfl
theorem fX4_type_23 : fetch tX4_type 23 = some (.bipush (-5), 2, 0, 0, (-5), 0) := rfl
theorem fX4_type_25 : fetch tX4_type 25 = some (.ireturn, 1, 0, 0, 0, 0) := rfl
theorem fX4_type_26 : fetch tX4_type 26 = some (.aload_n 0, 1, 0, 0, 0, 0) := rfl
theorem fX4_type_27 : fetch tX4_type 27 = some (.getfield 24, 3, 4, 6, 0, 0) := rfl
theorem fX4_type_30 : fetch tX4_type 30 = some (.aload_n 0, 1, 0, 0, 0, 0) := rfl
theorem fX4_type_31 : fetch tX4_type 31 = some (.getfield 105, 3, 4, 7, 0, 0) := rfl
theorem fX4_type_34 : fetch tX4_type 34 = some (.iload_n 1, 1, 1, 0, 0, 0) := rfl
theorem fX4_type_35 : fetch tX4_type 35 = some (.iastore, 1, 0, 0, 0, 0) := rfl
theorem fX4_type_36 : fetch tX4_type 36 = some (.aload_n 0, 1, 0, 0, 0, 0) := rfl
theorem fX4_type_37 : fetch tX4_type 37 = some (.dup, 1, 0, 0, 0, 0) := rfl
theorem fX4_type_38 : fetch tX4_type 38 = some (.getfield 105, 3, 4, 7, 0, 0) := rfl
theorem fX4_type_41 : fetch tX4_type 41 = some (.iconst 1, 1, 0, 0, 1, 0) := rfl
theorem fX4_type_42 : fetch tX4_type 42 = some (.iadd, 1, 0, 0, 0, 0) := rfl
theorem fX4_type_43 : fetch tX4_type 43 = some (.putfield 105, 3, 4, 7, 0, 0) := rfl
theorem fX4_type_46 : fetch tX4_type 46 = some (.aload_n 0, 1, 0, 0, 0, 0) := rfl
theorem fX4_type_47 : fetch tX4_type 47 = some (.getfield 105, 3, 4, 7, 0, 0) := rfl
theorem fX4_type_50 : fetch tX4_type 50 = some (.ireturn, 1, 0, 0, 0, 0) := rfl
def tX4_clearText : List (Nat × TE) := [(0, .aload_n 0, 1, 0, 0, 0, 0), (1, .getfield 105, 3, 4, 7, 0, 0), (4, .istore_n 1, 1, 1, 0, 0, 0), (5, .aload_n 0, 1, 0, 0, 0, 0), (6, .iconst 0, 1, 0, 0, 0, 0), (7, .putfield 105, 3, 4, 7, 0, 0), (10, .iload_n 1, 1, 1, 0, 0, 0), (11, .ireturn, 1, 0, 0, 0, 0)]
theorem tkX4_clearText : tOk cX4_clearText "RumourSourceModel" 2 tX4_clearText = true := by decide +kernel
theorem fX4_clearText_0 : fetch tX4_clearText 0 = some (.aload_n 0, 1, 0, 0, 0, 0) := rfl
theorem fX4_clearText_1 : fetch tX4_clearText 1 = some (.getfield 105, 3, 4, 7, 0, 0) := rfl
theorem fX4_clearText_4 : fetch tX4_clearText 4 = some (.istore_n 1, 1, 1, 0, 0, 0) := rfl
theorem fX4_clearText_5 : fetch tX4_clearText 5 = some (.aload_n 0, 1, 0, 0, 0, 0) := rfl
theorem fX4_clearText_6 : fetch tX4_clearText 6 = some (.iconst 0, 1, 0, 0, 0, 0) := rfl
theorem fX4_clearText_7 : fetch tX4_clearText 7 = some (.putfield 105, 3, 4, 7, 0, 0) := rfl
theorem fX4_clearText_10 : fetch tX4_clearText 10 = some (.iload_n 1, 1, 1, 0, 0, 0) := rfl
theorem fX4_clearText_11 : fetch tX4_clearText 11 = some (.ireturn, 1, 0, 0, 0, 0) := rfl
def tX4_here : List (Nat × TE) := [(0, .aload_n 0, 1, 0, 0, 0, 0), (1, .getfield 108, 3, 4, 8, 0, 0), (4, .aload_n 0, 1, 0, 0, 0, 0), (5, .getfield 105, 3, 4, 7, 0, 0), (8, .if_icmp .ge 30, 3, 38, 0, 0, 0), (11, .aload_n 0, 1, 0, 0, 0, 0), (12, .getfield 24, 3, 4, 6, 0, 0), (15, .aload_n 0, 1, 0, 0, 0, 0), (16, .getfield 108, 3, 4, 8, 0, 0), (19, .iaload, 1, 0, 0, 0, 0), (20, .bipush 32, 2, 0, 0, 32, 0), (22, .if_icmp .ne 16, 3, 38, 0, 0, 0), (25, .aload_n 0, 1, 0, 0, 0, 0), (26, .dup, 1, 0, 0, 0, 0), (27, .getfield 108, 3, 4, 8, 0, 0), (30, .iconst 1, 1, 0, 0, 1, 0), (31, .iadd, 1, 0, 0, 0, 0), (32, .putfield 108, 3, 4, 8, 0, 0), (35, .goto (-35), 3, 0, 0, 0, 0), (38, .aload_n 0, 1, 0, 0, 0, 0), (39, .getfield 108, 3, 4, 8, 0, 0), (42, .aload_n 0, 1, 0, 0, 0, 0), (43, .getfield 105, 3, 4, 7, 0, 0), (46, .if_icmp .ge 15, 3, 61, 0, 0, 0), (49, .aload_n 0, 1, 0, 0, 0, 0), (50, .getfield 24, 3, 4, 6, 0, 0), (53, .aload_n 0, 1, 0, 0, 0, 0), (54, .getfield 108, 3, 4, 8, 0, 0), (57, .iaload, 1, 0, 0, 0, 0), (58, .goto 4, 3, 62, 0, 0, 0), (61, .iconst (-1), 1, 0, 0, (-1), 0), (62, .ireturn, 1, 0, 0, 0, 0)]
theorem tkX4_here : tOk cX4_here "RumourSourceModel" 1 tX4_here = true := by decide +kernel
theorem fX4_here_0 : fetch tX4_here 0 = some (.aload_n 0, 1, 0, 0, 0, 0) := rfl
theorem fX4_here_1 : fetch tX4_here 1 = some (.getfield 108, 3, 4, 8, 0, 0) := rfl
theorem fX4_here_4 : fetch tX4_here 4 = some (.aload_n 0, 1, 0, 0, 0, 0) := rfl
theorem fX4_here_5 : fetch tX4_here 5 = some (.getfield 105, 3, 4, 7, 0, 0) := rfl
theorem fX4_here_8 : fetch tX4_here 8 = some (.if_icmp .ge 30, 3, 38, 0, 0, 0) := rfl
theorem fX4_here_11 : fetch tX4_here 11 = some (.aload_n 0, 1, 0, 0, 0, 0) := rfl
theorem fX4_here_12 : fetch tX4_here 12 = some (.getfield 24, 3, 4, 6, 0, 0) := rfl
theorem fX4_here_15 : fetch tX4_here 15 = some (.aload_n 0, 1, 0, 0, 0, 0) := rfl
theorem fX4_here_16 : fetch tX4_here 16 = some (.getfield 108, 3, 4, 8, 0, 0) := rfl
theorem fX4_here_19 : fetch tX4_here 19 = some (.iaload, 1, 0, 0, 0, 0) := rfl
theorem fX4_here_20 : fetch tX4_here 20 = some (.bipush 32, 2, 0, 0, 32, 0) := rfl
theorem fX4_here_22 : fetch tX4_here 22 = some (.if_icmp .ne 16, 3, 38, 0, 0, 0) := rfl
theorem fX4_here_25 : fetch tX4_here 25 = some (.aload_n 0, 1, 0, 0, 0, 0) := rfl
theorem fX4_here_26 : fetch tX4_here 26 = some (.dup, 1, 0, 0, 0, 0) := rfl
theorem fX4_here_27 : fetch tX4_here 27 = some (.getfield 108, 3, 4, 8, 0, 0) := rfl
theorem fX4_here_30 : fetch tX4_here 30 = some (.iconst 1, 1, 0, 0, 1, 0) := rfl
theorem fX4_here_31 : fetch tX4_here 31 = some (.iadd, 1, 0, 0, 0, 0) := rfl
theorem fX4_here_32 : fetch tX4_here 32 = some (.putfield 108, 3, 4, 8, 0, 0) := rfl
theorem fX4_here_35 : fetch tX4_here 35 = some (.goto (-35), 3, 0, 0, 0, 0) := rfl
theorem fX4_here_38 : fetch tX4_here 38 = some (.aload_n 0, 1, 0, 0, 0, 0) := rfl
theorem fX4_here_39 : fetch tX4_here 39 = some (.getfield 108, 3, 4, 8, 0, 0) := rfl
theorem fX4_here_42 : fetch tX4_here 42 = some (.aload_n 0, 1, 0, 0, 0, 0) := rfl
theorem fX4_here_43 : fetch tX4_here 43 = some (.getfield 105, 3, 4, 7, 0, 0) := rfl
theorem fX4_here_46 : fetch tX4_here 46 = some (.if_icmp .ge 15, 3, 61, 0, 0, 0) := rfl
theorem fX4_here_49 : fetch tX4_here 49 = some (.aload_n 0, 1, 0, 0, 0, 0) := rfl
theorem fX4_here_50 : fetch tX4_here 50 = some (.getfield 24, 3, 4, 6, 0, 0) := rfl
theorem fX4_here_53 : fetch tX4_here 53 = some (.aload_n 0, 1, 0, 0, 0, 0) := rfl
theorem fX4_here_54 : fetch tX4_here 54 = some (.getfield 108, 3, 4, 8, 0, 0) := rfl
theorem fX4_here_57 : fetch tX4_here 57 = some (.iaload, 1, 0, 0, 0, 0) := rfl
theorem fX4_here_58 : fetch tX4_here 58 = some (.goto 4, 3, 62, 0, 0, 0) := rfl
theorem fX4_here_61 : fetch tX4_here 61 = some (.iconst (-1), 1, 0, 0, (-1), 0) := rfl
theorem fX4_here_62 : fetch tX4_here 62 = some (.ireturn, 1, 0, 0, 0, 0) := rfl
def tX4_sign : List (Nat × TE) := [(0, .aload_n 0, 1, 0, 0, 0, 0), (1, .invokevirtual 111, 3, 0, 4, 0, 0), (4, .iload_n 1, 1, 1, 0, 0, 0), (5, .if_icmp .ne 7, 3, 12, 0, 0, 0), (8, .iconst 1, 1, 0, 0, 1, 0), (9, .goto 4, 3, 13, 0, 0, 0), (12, .iconst 0, 1, 0, 0, 0, 0), (13, .istore_n 2, 1, 2, 0, 0, 0), (14, .aload_n 0, 1, 0, 0, 0, 0), (15, .dup, 1, 0, 0, 0, 0), (16, .getfield 108, 3, 4, 8, 0, 0), (19, .iload_n 2, 1, 2, 0, 0, 0), (20, .ifCond .eq 7, 3, 27, 0, 0, 0), (23, .iconst 1, 1, 0, 0, 1, 0), (24, .goto 4, 3, 28, 0, 0, 0), (27, .iconst 0, 1, 0, 0, 0, 0), (28, .iadd, 1, 0, 0, 0, 0), (29, .putfield 108, 3, 4, 8, 0, 0), (32, .iload_n 2, 1, 2, 0, 0, 0), (33, .ireturn, 1, 0, 0, 0, 0)]
theorem tkX4_sign : tOk cX4_sign "RumourSourceModel" 3 tX4_sign = true := by decide +kernel
theorem fX4_sign_0 : fetch tX4_sign 0 = some (.aload_n 0, 1, 0, 0, 0, 0) := rfl
theorem fX4_sign_1 : fetch tX4_sign 1 = some (.invokevirtual 111, 3, 0, 4, 0, 0) := rfl
theorem fX4_sign_4 : fetch tX4_sign 4 = some (.iload_n 1, 1, 1, 0, 0, 0) := rfl
theorem fX4_sign_5 : fetch tX4_sign 5 = some (.if_icmp .ne 7, 3, 12, 0, 0, 0) := rfl
theorem fX4_sign_8 : fetch tX4_sign 8 = some (.iconst 1, 1, 0, 0, 1, 0) := rfl
theorem fX4_sign_9 : fetch tX4_sign 9 = some (.goto 4, 3, 13, 0, 0, 0) := rfl
theorem fX4_sign_12 : fetch tX4_sign 12 = some (.iconst 0, 1, 0, 0, 0, 0) := rfl
theorem fX4_sign_13 : fetch tX4_sign 13 = some (.istore_n 2, 1, 2, 0, 0, 0) := rfl
theorem fX4_sign_14 : fetch tX4_sign 14 = some (.aload_n 0, 1, 0, 0, 0, 0) := rfl
theorem fX4_sign_15 : fetch tX4_sign 15 = some (.dup, 1, 0, 0, 0, 0) := rfl
theorem fX4_sign_16 : fetch tX4_sign 16 = some (.getfield 108, 3, 4, 8, 0, 0) := rfl
theorem fX4_sign_19 : fetch tX4_sign 19 = some (.iload_n 2, 1, 2, 0, 0, 0) := rfl
theorem fX4_sign_20 : fetch tX4_sign 20 = some (.ifCond .eq 7, 3, 27, 0, 0, 0) := rfl
theorem fX4_sign_23 : fetch tX4_sign 23 = some (.iconst 1, 1, 0, 0, 1, 0) := rfl
theorem fX4_sign_24 : fetch tX4_sign 24 = some (.goto 4, 3, 28, 0, 0, 0) := rfl
theorem fX4_sign_27 : fetch tX4_sign 27 = some (.iconst 0, 1, 0, 0, 0, 0) := rfl
theorem fX4_sign_28 : fetch tX4_sign 28 = some (.iadd, 1, 0, 0, 0, 0) := rfl
theorem fX4_sign_29 : fetch tX4_sign 29 = some (.putfield 108, 3, 4, 8, 0, 0) := rfl
theorem fX4_sign_32 : fetch tX4_sign 32 = some (.iload_n 2, 1, 2, 0, 0, 0) := rfl
theorem fX4_sign_33 : fetch tX4_sign 33 = some (.ireturn, 1, 0, 0, 0, 0) := rfl
def tX4_number : List (Nat × TE) := [(0, .aload_n 0, 1, 0, 0, 0, 0), (1, .invokevirtual 111, 3, 0, 4, 0, 0), (4, .istore_n 3, 1, 3, 0, 0, 0), (5, .aload_n 0, 1, 0, 0, 0, 0), (6, .getfield 108, 3, 4, 8, 0, 0), (9, .istore 4, 2, 4, 0, 0, 0), (11, .iconst 0, 1, 0, 0, 0, 0), (12, .istore 5, 2, 5, 0, 0, 0), (14, .iload_n 3, 1, 3, 0, 0, 0), (15, .ifCond .lt 69, 3, 84, 0, 0, 0), (18, .iload 4, 2, 4, 0, 0, 0), (20, .aload_n 0, 1, 0, 0, 0, 0), (21, .getfield 105, 3, 4, 7, 0, 0), (24, .if_icmp .ge 60, 3, 84, 0, 0, 0), (27, .aload_n 0, 1, 0, 0, 0, 0), (28, .getfield 24, 3, 4, 6, 0, 0), (31, .iload 4, 2, 4, 0, 0, 0), (33, .iaload, 1, 0, 0, 0, 0), (34, .bipush 48, 2, 0, 0, 48, 0), (36, .bipush 57, 2, 0, 0, 57, 0), (38, .invokestatic 42, 3, 1, 4, 0, 0), (41, .ifCond .eq 43, 3, 84, 0, 0, 0), (44, .iload 4, 2, 4, 0, 0, 0), (46, .aload_n 0, 1, 0, 0, 0, 0), (47, .getfield 108, 3, 4, 8, 0, 0), (50, .isub, 1, 0, 0, 0, 0), (51, .iconst 3, 1, 0, 0, 3, 0), (52, .if_icmp .ge 22, 3, 74, 0, 0, 0), (55, .bipush 10, 2, 0, 0, 10, 0), (57, .iload 5, 2, 5, 0, 0, 0), (59, .imul, 1, 0, 0, 0, 0), (60, .aload_n 0, 1, 0, 0, 0, 0), (61, .getfield 24, 3, 4, 6, 0, 0), (64, .iload 4, 2, 4, 0, 0, 0), (66, .iaload, 1, 0, 0, 0, 0), (67, .iadd, 1, 0, 0, 0, 0), (68, .bipush 48, 2, 0, 0, 48, 0), (70, .isub, 1, 0, 0, 0, 0), (71, .goto 5, 3, 76, 0, 0, 0), (74, .iload 5, 2, 5, 0, 0, 0), (76, .istore 5, 2, 5, 0, 0, 0), (78, .iinc 4 1, 3, 4, 0, 1, 0), (81, .goto (-67), 3, 14, 0, 0, 0), (84, .iload 4, 2, 4, 0, 0, 0), (86, .aload_n 0, 1, 0, 0, 0, 0), (87, .getfield 108, 3, 4, 8, 0, 0), (90, .if_icmp .eq 24, 3, 114, 0, 0, 0), (93, .iload 4, 2, 4, 0, 0, 0), (95, .aload_n 0, 1, 0, 0, 0, 0), (96, .getfield 108, 3, 4, 8, 0, 0), (99, .isub, 1, 0, 0, 0, 0), (100, .iconst 2, 1, 0, 0, 2, 0), (101, .if_icmp .gt 13, 3, 114, 0, 0, 0), (104, .iload 5, 2, 5, 0, 0, 0), (106, .iload_n 1, 1, 1, 0, 0, 0), (107, .iload_n 2, 1, 2, 0, 0, 0), (108, .invokestatic 42, 3, 1, 4, 0, 0), (111, .ifCond .ne 5, 3, 116, 0, 0, 0), (114, .iconst (-1), 1, 0, 0, (-1), 0), (115, .ireturn, 1, 0, 0, 0, 0), (116, .aload_n 0, 1, 0, 0, 0, 0), (117, .iload 4, 2, 4, 0, 0, 0), (119, .putfield 108, 3, 4, 8, 0, 0), (122, .iload 5, 2, 5, 0, 0, 0), (124, .ireturn, 1, 0, 0, 0, 0)]
theorem tkX4_number : tOk cX4_number "RumourSourceModel" 6 tX4_number = true := by decide +kernel
theorem fX4_number_0 : fetch tX4_number 0 = some (.aload_n 0, 1, 0, 0, 0, 0) := rfl
theorem fX4_number_1 : fetch tX4_number 1 = some (.invokevirtual 111, 3, 0, 4, 0, 0) := rfl
theorem fX4_number_4 : fetch tX4_number 4 = some (.istore_n 3, 1, 3, 0, 0, 0) := rfl
theorem fX4_number_5 : fetch tX4_number 5 = some (.aload_n 0, 1, 0, 0, 0, 0) := rfl
theorem fX4_number_6 : fetch tX4_number 6 = some (.getfield 108, 3, 4, 8, 0, 0) := rfl
theorem fX4_number_9 : fetch tX4_number 9 = some (.istore 4, 2, 4, 0, 0, 0) := rfl
theorem fX4_number_11 : fetch tX4_number 11 = some (.iconst 0, 1, 0, 0, 0, 0) := rfl
theorem fX4_number_12 : fetch tX4_number 12 = some (.istore 5, 2, 5, 0, 0, 0) := rfl
theorem fX4_number_14 : fetch tX4_number 14 = some (.iload_n 3, 1, 3, 0, 0, 0) := rfl
theorem fX4_number_15 : fetch tX4_number 15 = some (.ifCond .lt 69, 3, 84, 0, 0, 0) := rfl
theorem fX4_number_18 : fetch tX4_number 18 = some (.iload 4, 2, 4, 0, 0, 0) := rfl
theorem fX4_number_20 : fetch tX4_number 20 = some (.aload_n 0, 1, 0, 0, 0, 0) := rfl
theorem fX4_number_21 : fetch tX4_number 21 = some (.getfield 105, 3, 4, 7, 0, 0) := rfl
theorem fX4_number_24 : fetch tX4_number 24 = some (.if_icmp .ge 60, 3, 84, 0, 0, 0) := rfl
theorem fX4_number_27 : fetch tX4_number 27 = some (.aload_n 0, 1, 0, 0, 0, 0) := rfl
theorem fX4_number_28 : fetch tX4_number 28 = some (.getfield 24, 3, 4, 6, 0, 0) := rfl
theorem fX4_number_31 : fetch tX4_number 31 = some (.iload 4, 2, 4, 0, 0, 0) := rfl
theorem fX4_number_33 : fetch tX4_number 33 = some (.iaload, 1, 0, 0, 0, 0) := rfl
theorem fX4_number_34 : fetch tX4_number 34 = some (.bipush 48, 2, 0, 0, 48, 0) := rfl
theorem fX4_number_36 : fetch tX4_number 36 = some (.bipush 57, 2, 0, 0, 57, 0) := rfl
theorem fX4_number_38 : fetch tX4_number 38 = some (.invokestatic 42, 3, 1, 4, 0, 0) := rfl
theorem fX4_number_41 : fetch tX4_number 41 = some (.ifCond .eq 43, 3, 84, 0, 0, 0) := rfl
theorem fX4_number_44 : fetch tX4_number 44 = some (.iload 4, 2, 4, 0, 0, 0) := rfl
theorem fX4_number_46 : fetch tX4_number 46 = some (.aload_n 0, 1, 0, 0, 0, 0) := rfl
theorem fX4_number_47 : fetch tX4_number 47 = some (.getfield 108, 3, 4, 8, 0, 0) := rfl
theorem fX4_number_50 : fetch tX4_number 50 = some (.isub, 1, 0, 0, 0, 0) := rfl
theorem fX4_number_51 : fetch tX4_number 51 = some (.iconst 3, 1, 0, 0, 3, 0) := rfl
theorem fX4_number_52 : fetch tX4_number 52 = some (.if_icmp .ge 22, 3, 74, 0, 0, 0) := rfl
theorem fX4_number_55 : fetch tX4_number 55 = some (.bipush 10, 2, 0, 0, 10, 0) := rfl
theorem fX4_number_57 : fetch tX4_number 57 = some (.iload 5, 2, 5, 0, 0, 0) := rfl
theorem fX4_number_59 : fetch tX4_number 59 = some (.imul, 1, 0, 0, 0, 0) := rfl
theorem fX4_number_60 : fetch tX4_number 60 = some (.aload_n 0, 1, 0, 0, 0, 0) := rfl
theorem fX4_number_61 : fetch tX4_number 61 = some (.getfield 24, 3, 4, 6, 0, 0) := rfl
theorem fX4_number_64 : fetch tX4_number 64 = some (.iload 4, 2, 4, 0, 0, 0) := rfl
theorem fX4_number_66 : fetch tX4_number 66 = some (.iaload, 1, 0, 0, 0, 0) := rfl
theorem fX4_number_67 : fetch tX4_number 67 = some (.iadd, 1, 0, 0, 0, 0) := rfl
theorem fX4_number_68 : fetch tX4_number 68 = some (.bipush 48, 2, 0, 0, 48, 0) := rfl
theorem fX4_number_70 : fetch tX4_number 70 = some (.isub, 1, 0, 0, 0, 0) := rfl
theorem fX4_number_71 : fetch tX4_number 71 = some (.goto 5, 3, 76, 0, 0, 0) := rfl
theorem fX4_number_74 : fetch tX4_number 74 = some (.iload 5, 2, 5, 0, 0, 0) := rfl
theorem fX4_number_76 : fetch tX4_number 76 = some (.istore 5, 2, 5, 0, 0, 0) := rfl
theorem fX4_number_78 : fetch tX4_number 78 = some (.iinc 4 1, 3, 4, 0, 1, 0) := rfl
theorem fX4_number_81 : fetch tX4_number 81 = some (.goto (-67), 3, 14, 0, 0, 0) := rfl
theorem fX4_number_84 : fetch tX4_number 84 = some (.iload 4, 2, 4, 0, 0, 0) := rfl
theorem fX4_number_86 : fetch tX4_number 86 = some (.aload_n 0, 1, 0, 0, 0, 0) := rfl
theorem fX4_number_87 : fetch tX4_number 87 = some (.getfield 108, 3, 4, 8, 0, 0) := rfl
theorem fX4_number_90 : fetch tX4_number 90 = some (.if_icmp .eq 24, 3, 114, 0, 0, 0) := rfl
theorem fX4_number_93 : fetch tX4_number 93 = some (.iload 4, 2, 4, 0, 0, 0) := rfl
theorem fX4_number_95 : fetch tX4_number 95 = some (.aload_n 0, 1, 0, 0, 0, 0) := rfl
theorem fX4_number_96 : fetch tX4_number 96 = some (.getfield 108, 3, 4, 8, 0, 0) := rfl
theorem fX4_number_99 : fetch tX4_number 99 = some (.isub, 1, 0, 0, 0, 0) := rfl
theorem fX4_number_100 : fetch tX4_number 100 = some (.iconst 2, 1, 0, 0, 2, 0) := rfl
theorem fX4_number_101 : fetch tX4_number 101 = some (.if_icmp .gt 13, 3, 114, 0, 0, 0) := rfl
theorem fX4_number_104 : fetch tX4_number 104 = some (.iload 5, 2, 5, 0, 0, 0) := rfl
theorem fX4_number_106 : fetch tX4_number 106 = some (.iload_n 1, 1, 1, 0, 0, 0) := rfl
theorem fX4_number_107 : fetch tX4_number 107 = some (.iload_n 2, 1, 2, 0, 0, 0) := rfl
theorem fX4_number_108 : fetch tX4_number 108 = some (.invokestatic 42, 3, 1, 4, 0, 0) := rfl
theorem fX4_number_111 : fetch tX4_number 111 = some (.ifCond .ne 5, 3, 116, 0, 0, 0) := rfl
theorem fX4_number_114 : fetch tX4_number 114 = some (.iconst (-1), 1, 0, 0, (-1), 0) := rfl
theorem fX4_number_115 : fetch tX4_number 115 = some (.ireturn, 1, 0, 0, 0, 0) := rfl
theorem fX4_number_116 : fetch tX4_number 116 = some (.aload_n 0, 1, 0, 0, 0, 0) := rfl
theorem fX4_number_117 : fetch tX4_number 117 = some (.iload 4, 2, 4, 0, 0, 0) := rfl
theorem fX4_number_119 : fetch tX4_number 119 = some (.putfield 108, 3, 4, 8, 0, 0) := rfl
theorem fX4_number_122 : fetch tX4_number 122 = some (.iload 5, 2, 5, 0, 0, 0) := rfl
theorem fX4_number_124 : fetch tX4_number 124 = some (.ireturn, 1, 0, 0, 0, 0) := rfl
def tX4_readsEdge : List (Nat × TE) := [(0, .aload_n 0, 1, 0, 0, 0, 0), (1, .invokevirtual 111, 3, 0, 4, 0, 0), (4, .bipush 48, 2, 0, 0, 48, 0), (6, .isub, 1, 0, 0, 0, 0), (7, .istore_n 3, 1, 3, 0, 0, 0), (8, .iload_n 3, 1, 3, 0, 0, 0), (9, .invokestatic 50, 3, 1, 4, 0, 0), (12, .ifCond .eq 35, 3, 47, 0, 0, 0), (15, .iload_n 3, 1, 3, 0, 0, 0), (16, .iload_n 1, 1, 1, 0, 0, 0), (17, .if_icmp .eq 30, 3, 47, 0, 0, 0), (20, .aload_n 0, 1, 0, 0, 0, 0), (21, .getfield 27, 3, 4, 9, 0, 0), (24, .bipush 8, 2, 0, 0, 8, 0), (26, .iload_n 1, 1, 1, 0, 0, 0), (27, .imul, 1, 0, 0, 0, 0), (28, .iload_n 3, 1, 3, 0, 0, 0), (29, .iadd, 1, 0, 0, 0, 0), (30, .baload, 1, 0, 0, 0, 0), (31, .ifCond .ne 12, 3, 43, 0, 0, 0), (34, .aload_n 0, 1, 0, 0, 0, 0), (35, .getfield 115, 3, 4, 10, 0, 0), (38, .bipush 12, 2, 0, 0, 12, 0), (40, .if_icmp .ge 7, 3, 47, 0, 0, 0), (43, .iconst 1, 1, 0, 0, 1, 0), (44, .goto 4, 3, 48, 0, 0, 0), (47, .iconst 0, 1, 0, 0, 0, 0), (48, .istore 4, 2, 4, 0, 0, 0), (50, .iload 4, 2, 4, 0, 0, 0), (52, .ifCond .ne 5, 3, 57, 0, 0, 0), (55, .iconst 0, 1, 0, 0, 0, 0), (56, .ireturn, 1, 0, 0, 0, 0), (57, .aload_n 0, 1, 0, 0, 0, 0), (58, .dup, 1, 0, 0, 0, 0), (59, .getfield 108, 3, 4, 8, 0, 0), (62, .iconst 1, 1, 0, 0, 1, 0), (63, .iadd, 1, 0, 0, 0, 0), (64, .putfield 108, 3, 4, 8, 0, 0), (67, .aload_n 0, 1, 0, 0, 0, 0), (68, .dup, 1, 0, 0, 0, 0), (69, .getfield 115, 3, 4, 10, 0, 0), (72, .aload_n 0, 1, 0, 0, 0, 0), (73, .getfield 27, 3, 4, 9, 0, 0), (76, .bipush 8, 2, 0, 0, 8, 0), (78, .iload_n 1, 1, 1, 0, 0, 0), (79, .imul, 1, 0, 0, 0, 0), (80, .iload_n 3, 1, 3, 0, 0, 0), (81, .iadd, 1, 0, 0, 0, 0), (82, .baload, 1, 0, 0, 0, 0), (83, .ifCond .eq 7, 3, 90, 0, 0, 0), (86, .iconst 0, 1, 0, 0, 0, 0), (87, .goto 4, 3, 91, 0, 0, 0), (90, .iconst 1, 1, 0, 0, 1, 0), (91, .iadd, 1, 0, 0, 0, 0), (92, .putfield 115, 3, 4, 10, 0, 0), (95, .aload_n 0, 1, 0, 0, 0, 0), (96, .getfield 27, 3, 4, 9, 0, 0), (99, .bipush 8, 2, 0, 0, 8, 0), (101, .iload_n 1, 1, 1, 0, 0, 0), (102, .imul, 1, 0, 0, 0, 0), (103, .iload_n 3, 1, 3, 0, 0, 0), (104, .iadd, 1, 0, 0, 0, 0), (105, .iconst 1, 1, 0, 0, 1, 0), (106, .bastore, 1, 0, 0, 0, 0), (107, .aload_n 0, 1, 0, 0, 0, 0), (108, .bipush 42, 2, 0, 0, 42, 0), (110, .invokevirtual 118, 3, 2, 4, 0, 0), (113, .ifCond .ne 5, 3, 118, 0, 0, 0), (116, .iconst 0, 1, 0, 0, 0, 0), (117, .ireturn, 1, 0, 0, 0, 0), (118, .aload_n 0, 1, 0, 0, 0, 0), (119, .iconst 0, 1, 0, 0, 0, 0), (120, .bipush 10, 2, 0, 0, 10, 0), (122, .invokevirtual 121, 3, 3, 4, 0, 0), (125, .istore 5, 2, 5, 0, 0, 0), (127, .iload 5, 2, 5, 0, 0, 0), (129, .iconst (-1), 1, 0, 0, (-1), 0), (130, .if_icmp .eq 12, 3, 142, 0, 0, 0), (133, .aload_n 0, 1, 0, 0, 0, 0), (134, .bipush 43, 2, 0, 0, 43, 0), (136, .invokevirtual 118, 3, 2, 4, 0, 0), (139, .ifCond .ne 5, 3, 144, 0, 0, 0), (142, .iconst 0, 1, 0, 0, 0, 0), (143, .ireturn, 1, 0, 0, 0, 0), (144, .aload_n 0, 1, 0, 0, 0, 0), (145, .iconst 1, 1, 0, 0, 1, 0), (146, .iconst 5, 1, 0, 0, 5, 0), (147, .invokevirtual 121, 3, 3, 4, 0, 0), (150, .istore 6, 2, 6, 0, 0, 0), (152, .iload 6, 2, 6, 0, 0, 0), (154, .iconst (-1), 1, 0, 0, (-1), 0), (155, .if_icmp .ne 5, 3, 160, 0, 0, 0), (158, .iconst 0, 1, 0, 0, 0, 0), (159, .ireturn, 1, 0, 0, 0, 0), (160, .iload_n 2, 1, 2, 0, 0, 0), (161, .ifCond .eq 58, 3, 219, 0, 0, 0), (164, .aload_n 0, 1, 0, 0, 0, 0), (165, .iload_n 1, 1, 1, 0, 0, 0), (166, .iload_n 3, 1, 3, 0, 0, 0), (167, .invokevirtual 54, 3, 4, 4, 0, 0), (170, .istore 7, 2, 7, 0, 0, 0), (172, .aload_n 0, 1, 0, 0, 0, 0), (173, .iload 7, 2, 7, 0, 0, 0), (175, .iconst (-1), 1, 0, 0, (-1), 0), (176, .if_icmp .ne 12, 3, 188, 0, 0, 0), (179, .aload_n 0, 1, 0, 0, 0, 0), (180, .getfield 7, 3, 4, 0, 0, 0), (183, .iconst 0, 1, 0, 0, 0, 0), (184, .iaload, 1, 0, 0, 0, 0), (185, .goto 5, 3, 190, 0, 0, 0), (188, .iload 7, 2, 7, 0, 0, 0), (190, .iload_n 1, 1, 1, 0, 0, 0), (191, .iload_n 3, 1, 3, 0, 0, 0), (192, .iload 5, 2, 5, 0, 0, 0), (194, .iload 6, 2, 6, 0, 0, 0), (196, .invokevirtual 60, 3, 5, 4, 0, 0), (199, .aload_n 0, 1, 0, 0, 0, 0), (200, .getfield 7, 3, 4, 0, 0, 0), (203, .iconst 0, 1, 0, 0, 0, 0), (204, .dup2, 1, 0, 0, 0, 0), (205, .iaload, 1, 0, 0, 0, 0), (206, .iload 7, 2, 7, 0, 0, 0), (208, .iconst (-1), 1, 0, 0, (-1), 0), (209, .if_icmp .ne 7, 3, 216, 0, 0, 0), (212, .iconst 1, 1, 0, 0, 1, 0), (213, .goto 4, 3, 217, 0, 0, 0), (216, .iconst 0, 1, 0, 0, 0, 0), (217, .iadd, 1, 0, 0, 0, 0), (218, .iastore, 1, 0, 0, 0, 0), (219, .iconst 1, 1, 0, 0, 1, 0), (220, .ireturn, 1, 0, 0, 0, 0)]
theorem tkX4_readsEdge : tOk cX4_readsEdge "RumourSourceModel" 8 tX4_readsEdge = true := by decide +kernel
set_option maxRecDepth 20000 in
theorem fX4_readsEdge_0 : fetch tX4_readsEdge 0 = some (.aload_n 0, 1, 0, 0, 0, 0) := rfl
set_option maxRecDepth 20000 in
theorem fX4_readsEdge_1 : fetch tX4_readsEdge 1 = some (.invokevirtual 111, 3, 0, 4, 0, 0) := rfl
set_option maxRecDepth 20000 in
theorem fX4_readsEdge_4 : fetch tX4_readsEdge 4 = some (.bipush 48, 2, 0, 0, 48, 0) := rfl
set_option maxRecDepth 20000 in
theorem fX4_readsEdge_6 : fetch tX4_readsEdge 6 = some (.isub, 1, 0, 0, 0, 0) := rfl
set_option maxRecDepth 20000 in
theorem fX4_readsEdge_7 : fetch tX4_readsEdge 7 = some (.istore_n 3, 1, 3, 0, 0, 0) := rfl
set_option maxRecDepth 20000 in
theorem fX4_readsEdge_8 : fetch tX4_readsEdge 8 = some (.iload_n 3, 1, 3, 0, 0, 0) := rfl
set_option maxRecDepth 20000 in
theorem fX4_readsEdge_9 : fetch tX4_readsEdge 9 = some (.invokestatic 50, 3, 1, 4, 0, 0) := rfl
set_option maxRecDepth 20000 in
theorem fX4_readsEdge_12 : fetch tX4_readsEdge 12 = some (.ifCond .eq 35, 3, 47, 0, 0, 0) := rfl
set_option maxRecDepth 20000 in
theorem fX4_readsEdge_15 : fetch tX4_readsEdge 15 = some (.iload_n 3, 1, 3, 0, 0, 0) := rfl
set_option maxRecDepth 20000 in
theorem fX4_readsEdge_16 : fetch tX4_readsEdge 16 = some (.iload_n 1, 1, 1, 0, 0, 0) := rfl
set_option maxRecDepth 20000 in
theorem fX4_readsEdge_17 : fetch tX4_readsEdge 17 = some (.if_icmp .eq 30, 3, 47, 0, 0, 0) := rfl
set_option maxRecDepth 20000 in
theorem fX4_readsEdge_20 : fetch tX4_readsEdge 20 = some (.aload_n 0, 1, 0, 0, 0, 0) := rfl
set_option maxRecDepth 20000 in
theorem fX4_readsEdge_21 : fetch tX4_readsEdge 21 = some (.getfield 27, 3, 4, 9, 0, 0) := rfl
set_option maxRecDepth 20000 in
theorem fX4_readsEdge_24 : fetch tX4_readsEdge 24 = some (.bipush 8, 2, 0, 0, 8, 0) := rfl
set_option maxRecDepth 20000 in
theorem fX4_readsEdge_26 : fetch tX4_readsEdge 26 = some (.iload_n 1, 1, 1, 0, 0, 0) := rfl
set_option maxRecDepth 20000 in
theorem fX4_readsEdge_27 : fetch tX4_readsEdge 27 = some (.imul, 1, 0, 0, 0, 0) := rfl
set_option maxRecDepth 20000 in
theorem fX4_readsEdge_28 : fetch tX4_readsEdge 28 = some (.iload_n 3, 1, 3, 0, 0, 0) := rfl
set_option maxRecDepth 20000 in
theorem fX4_readsEdge_29 : fetch tX4_readsEdge 29 = some (.iadd, 1, 0, 0, 0, 0) := rfl
set_option maxRecDepth 20000 in
theorem fX4_readsEdge_30 : fetch tX4_readsEdge 30 = some (.baload, 1, 0, 0, 0, 0) := rfl
set_option maxRecDepth 20000 in
theorem fX4_readsEdge_31 : fetch tX4_readsEdge 31 = some (.ifCond .ne 12, 3, 43, 0, 0, 0) := rfl
set_option maxRecDepth 20000 in
theorem fX4_readsEdge_34 : fetch tX4_readsEdge 34 = some (.aload_n 0, 1, 0, 0, 0, 0) := rfl
set_option maxRecDepth 20000 in
theorem fX4_readsEdge_35 : fetch tX4_readsEdge 35 = some (.getfield 115, 3, 4, 10, 0, 0) := rfl
set_option maxRecDepth 20000 in
theorem fX4_readsEdge_38 : fetch tX4_readsEdge 38 = some (.bipush 12, 2, 0, 0, 12, 0) := rfl
set_option maxRecDepth 20000 in
theorem fX4_readsEdge_40 : fetch tX4_readsEdge 40 = some (.if_icmp .ge 7, 3, 47, 0, 0, 0) := rfl
set_option maxRecDepth 20000 in
theorem fX4_readsEdge_43 : fetch tX4_readsEdge 43 = some (.iconst 1, 1, 0, 0, 1, 0) := rfl
set_option maxRecDepth 20000 in
theorem fX4_readsEdge_44 : fetch tX4_readsEdge 44 = some (.goto 4, 3, 48, 0, 0, 0) := rfl
set_option maxRecDepth 20000 in
theorem fX4_readsEdge_47 : fetch tX4_readsEdge 47 = some (.iconst 0, 1, 0, 0, 0, 0) := rfl
set_option maxRecDepth 20000 in
theorem fX4_readsEdge_48 : fetch tX4_readsEdge 48 = some (.istore 4, 2, 4, 0, 0, 0) := rfl
set_option maxRecDepth 20000 in
theorem fX4_readsEdge_50 : fetch tX4_readsEdge 50 = some (.iload 4, 2, 4, 0, 0, 0) := rfl
set_option maxRecDepth 20000 in
theorem fX4_readsEdge_52 : fetch tX4_readsEdge 52 = some (.ifCond .ne 5, 3, 57, 0, 0, 0) := rfl
set_option maxRecDepth 20000 in
theorem fX4_readsEdge_55 : fetch tX4_readsEdge 55 = some (.iconst 0, 1, 0, 0, 0, 0) := rfl
set_option maxRecDepth 20000 in
theorem fX4_readsEdge_56 : fetch tX4_readsEdge 56 = some (.ireturn, 1, 0, 0, 0, 0) := rfl
set_option maxRecDepth 20000 in
theorem fX4_readsEdge_57 : fetch tX4_readsEdge 57 = some (.aload_n 0, 1, 0, 0, 0, 0) := rfl
set_option maxRecDepth 20000 in
theorem fX4_readsEdge_58 : fetch tX4_readsEdge 58 = some (.dup, 1, 0, 0, 0, 0) := rfl
set_option maxRecDepth 20000 in
theorem fX4_readsEdge_59 : fetch tX4_readsEdge 59 = some (.getfield 108, 3, 4, 8, 0, 0) := rfl
set_option maxRecDepth 20000 in
theorem fX4_readsEdge_62 : fetch tX4_readsEdge 62 = some (.iconst 1, 1, 0, 0, 1, 0) := rfl
set_option maxRecDepth 20000 in
theorem fX4_readsEdge_63 : fetch tX4_readsEdge 63 = some (.iadd, 1, 0, 0, 0, 0) := rfl
set_option maxRecDepth 20000 in
theorem fX4_readsEdge_64 : fetch tX4_readsEdge 64 = some (.putfield 108, 3, 4, 8, 0, 0) := rfl
set_option maxRecDepth 20000 in
theorem fX4_readsEdge_67 : fetch tX4_readsEdge 67 = some (.aload_n 0, 1, 0, 0, 0, 0) := rfl
set_option maxRecDepth 20000 in
theorem fX4_readsEdge_68 : fetch tX4_readsEdge 68 = some (.dup, 1, 0, 0, 0, 0) := rfl
set_option maxRecDepth 20000 in
theorem fX4_readsEdge_69 : fetch tX4_readsEdge 69 = some (.getfield 115, 3, 4, 10, 0, 0) := rfl
set_option maxRecDepth 20000 in
theorem fX4_readsEdge_72 : fetch tX4_readsEdge 72 = some (.aload_n 0, 1, 0, 0, 0, 0) := rfl
set_option maxRecDepth 20000 in
theorem fX4_readsEdge_73 : fetch tX4_readsEdge 73 = some (.getfield 27, 3, 4, 9, 0, 0) := rfl
set_option maxRecDepth 20000 in
theorem fX4_readsEdge_76 : fetch tX4_readsEdge 76 = some (.bipush 8, 2, 0, 0, 8, 0) := rfl
set_option maxRecDepth 20000 in
theorem fX4_readsEdge_78 : fetch tX4_readsEdge 78 = some (.iload_n 1, 1, 1, 0, 0, 0) := rfl
set_option maxRecDepth 20000 in
theorem fX4_readsEdge_79 : fetch tX4_readsEdge 79 = some (.imul, 1, 0, 0, 0, 0) := rfl
set_option maxRecDepth 20000 in
theorem fX4_readsEdge_80 : fetch tX4_readsEdge 80 = some (.iload_n 3, 1, 3, 0, 0, 0) := rfl
set_option maxRecDepth 20000 in
theorem fX4_readsEdge_81 : fetch tX4_readsEdge 81 = some (.iadd, 1, 0, 0, 0, 0) := rfl
set_option maxRecDepth 20000 in
theorem fX4_readsEdge_82 : fetch tX4_readsEdge 82 = some (.baload, 1, 0, 0, 0, 0) := rfl
set_option maxRecDepth 20000 in
theorem fX4_readsEdge_83 : fetch tX4_readsEdge 83 = some (.ifCond .eq 7, 3, 90, 0, 0, 0) := rfl
set_option maxRecDepth 20000 in
theorem fX4_readsEdge_86 : fetch tX4_readsEdge 86 = some (.iconst 0, 1, 0, 0, 0, 0) := rfl
set_option maxRecDepth 20000 in
theorem fX4_readsEdge_87 : fetch tX4_readsEdge 87 = some (.goto 4, 3, 91, 0, 0, 0) := rfl
set_option maxRecDepth 20000 in
theorem fX4_readsEdge_90 : fetch tX4_readsEdge 90 = some (.iconst 1, 1, 0, 0, 1, 0) := rfl
set_option maxRecDepth 20000 in
theorem fX4_readsEdge_91 : fetch tX4_readsEdge 91 = some (.iadd, 1, 0, 0, 0, 0) := rfl
set_option maxRecDepth 20000 in
theorem fX4_readsEdge_92 : fetch tX4_readsEdge 92 = some (.putfield 115, 3, 4, 10, 0, 0) := rfl
set_option maxRecDepth 20000 in
theorem fX4_readsEdge_95 : fetch tX4_readsEdge 95 = some (.aload_n 0, 1, 0, 0, 0, 0) := rfl
set_option maxRecDepth 20000 in
theorem fX4_readsEdge_96 : fetch tX4_readsEdge 96 = some (.getfield 27, 3, 4, 9, 0, 0) := rfl
set_option maxRecDepth 20000 in
theorem fX4_readsEdge_99 : fetch tX4_readsEdge 99 = some (.bipush 8, 2, 0, 0, 8, 0) := rfl
set_option maxRecDepth 20000 in
theorem fX4_readsEdge_101 : fetch tX4_readsEdge 101 = some (.iload_n 1, 1, 1, 0, 0, 0) := rfl
set_option maxRecDepth 20000 in
theorem fX4_readsEdge_102 : fetch tX4_readsEdge 102 = some (.imul, 1, 0, 0, 0, 0) := rfl
set_option maxRecDepth 20000 in
theorem fX4_readsEdge_103 : fetch tX4_readsEdge 103 = some (.iload_n 3, 1, 3, 0, 0, 0) := rfl
set_option maxRecDepth 20000 in
theorem fX4_readsEdge_104 : fetch tX4_readsEdge 104 = some (.iadd, 1, 0, 0, 0, 0) := rfl
set_option maxRecDepth 20000 in
theorem fX4_readsEdge_105 : fetch tX4_readsEdge 105 = some (.iconst 1, 1, 0, 0, 1, 0) := rfl
set_option maxRecDepth 20000 in
theorem fX4_readsEdge_106 : fetch tX4_readsEdge 106 = some (.bastore, 1, 0, 0, 0, 0) := rfl
set_option maxRecDepth 20000 in
theorem fX4_readsEdge_107 : fetch tX4_readsEdge 107 = some (.aload_n 0, 1, 0, 0, 0, 0) := rfl
set_option maxRecDepth 20000 in
theorem fX4_readsEdge_108 : fetch tX4_readsEdge 108 = some (.bipush 42, 2, 0, 0, 42, 0) := rfl
set_option maxRecDepth 20000 in
theorem fX4_readsEdge_110 : fetch tX4_readsEdge 110 = some (.invokevirtual 118, 3, 2, 4, 0, 0) := rfl
set_option maxRecDepth 20000 in
theorem fX4_readsEdge_113 : fetch tX4_readsEdge 113 = some (.ifCond .ne 5, 3, 118, 0, 0, 0) := rfl
set_option maxRecDepth 20000 in
theorem fX4_readsEdge_116 : fetch tX4_readsEdge 116 = some (.iconst 0, 1, 0, 0, 0, 0) := rfl
set_option maxRecDepth 20000 in
theorem fX4_readsEdge_117 : fetch tX4_readsEdge 117 = some (.ireturn, 1, 0, 0, 0, 0) := rfl
set_option maxRecDepth 20000 in
theorem fX4_readsEdge_118 : fetch tX4_readsEdge 118 = some (.aload_n 0, 1, 0, 0, 0, 0) := rfl
set_option maxRecDepth 20000 in
theorem fX4_readsEdge_119 : fetch tX4_readsEdge 119 = some (.iconst 0, 1, 0, 0, 0, 0) := rfl
set_option maxRecDepth 20000 in
theorem fX4_readsEdge_120 : fetch tX4_readsEdge 120 = some (.bipush 10, 2, 0, 0, 10, 0) := rfl
set_option maxRecDepth 20000 in
theorem fX4_readsEdge_122 : fetch tX4_readsEdge 122 = some (.invokevirtual 121, 3, 3, 4, 0, 0) := rfl
set_option maxRecDepth 20000 in
theorem fX4_readsEdge_125 : fetch tX4_readsEdge 125 = some (.istore 5, 2, 5, 0, 0, 0) := rfl
set_option maxRecDepth 20000 in
theorem fX4_readsEdge_127 : fetch tX4_readsEdge 127 = some (.iload 5, 2, 5, 0, 0, 0) := rfl
set_option maxRecDepth 20000 in
theorem fX4_readsEdge_129 : fetch tX4_readsEdge 129 = some (.iconst (-1), 1, 0, 0, (-1), 0) := rfl
set_option maxRecDepth 20000 in
theorem fX4_readsEdge_130 : fetch tX4_readsEdge 130 = some (.if_icmp .eq 12, 3, 142, 0, 0, 0) := rfl
set_option maxRecDepth 20000 in
theorem fX4_readsEdge_133 : fetch tX4_readsEdge 133 = some (.aload_n 0, 1, 0, 0, 0, 0) := rfl
set_option maxRecDepth 20000 in
theorem fX4_readsEdge_134 : fetch tX4_readsEdge 134 = some (.bipush 43, 2, 0, 0, 43, 0) := rfl
set_option maxRecDepth 20000 in
theorem fX4_readsEdge_136 : fetch tX4_readsEdge 136 = some (.invokevirtual 118, 3, 2, 4, 0, 0) := rfl
set_option maxRecDepth 20000 in
theorem fX4_readsEdge_139 : fetch tX4_readsEdge 139 = some (.ifCond .ne 5, 3, 144, 0, 0, 0) := rfl
set_option maxRecDepth 20000 in
theorem fX4_readsEdge_142 : fetch tX4_readsEdge 142 = some (.iconst 0, 1, 0, 0, 0, 0) := rfl
set_option maxRecDepth 20000 in
theorem fX4_readsEdge_143 : fetch tX4_readsEdge 143 = some (.ireturn, 1, 0, 0, 0, 0) := rfl
set_option maxRecDepth 20000 in
theorem fX4_readsEdge_144 : fetch tX4_readsEdge 144 = some (.aload_n 0, 1, 0, 0, 0, 0) := rfl
set_option maxRecDepth 20000 in
theorem fX4_readsEdge_145 : fetch tX4_readsEdge 145 = some (.iconst 1, 1, 0, 0, 1, 0) := rfl
set_option maxRecDepth 20000 in
theorem fX4_readsEdge_146 : fetch tX4_readsEdge 146 = some (.iconst 5, 1, 0, 0, 5, 0) := rfl
set_option maxRecDepth 20000 in
theorem fX4_readsEdge_147 : fetch tX4_readsEdge 147 = some (.invokevirtual 121, 3, 3, 4, 0, 0) := rfl
set_option maxRecDepth 20000 in
theorem fX4_readsEdge_150 : fetch tX4_readsEdge 150 = some (.istore 6, 2, 6, 0, 0, 0) := rfl
set_option maxRecDepth 20000 in
theorem fX4_readsEdge_152 : fetch tX4_readsEdge 152 = some (.iload 6, 2, 6, 0, 0, 0) := rfl
set_option maxRecDepth 20000 in
theorem fX4_readsEdge_154 : fetch tX4_readsEdge 154 = some (.iconst (-1), 1, 0, 0, (-1), 0) := rfl
set_option maxRecDepth 20000 in
theorem fX4_readsEdge_155 : fetch tX4_readsEdge 155 = some (.if_icmp .ne 5, 3, 160, 0, 0, 0) := rfl
set_option maxRecDepth 20000 in
theorem fX4_readsEdge_158 : fetch tX4_readsEdge 158 = some (.iconst 0, 1, 0, 0, 0, 0) := rfl
set_option maxRecDepth 20000 in
theorem fX4_readsEdge_159 : fetch tX4_readsEdge 159 = some (.ireturn, 1, 0, 0, 0, 0) := rfl
set_option maxRecDepth 20000 in
theorem fX4_readsEdge_160 : fetch tX4_readsEdge 160 = some (.iload_n 2, 1, 2, 0, 0, 0) := rfl
set_option maxRecDepth 20000 in
theorem fX4_readsEdge_161 : fetch tX4_readsEdge 161 = some (.ifCond .eq 58, 3, 219, 0, 0, 0) := rfl
set_option maxRecDepth 20000 in
theorem fX4_readsEdge_164 : fetch tX4_readsEdge 164 = some (.aload_n 0, 1, 0, 0, 0, 0) := rfl
set_option maxRecDepth 20000 in
theorem fX4_readsEdge_165 : fetch tX4_readsEdge 165 = some (.iload_n 1, 1, 1, 0, 0, 0) := rfl
set_option maxRecDepth 20000 in
theorem fX4_readsEdge_166 : fetch tX4_readsEdge 166 = some (.iload_n 3, 1, 3, 0, 0, 0) := rfl
set_option maxRecDepth 20000 in
theorem fX4_readsEdge_167 : fetch tX4_readsEdge 167 = some (.invokevirtual 54, 3, 4, 4, 0, 0) := rfl
set_option maxRecDepth 20000 in
theorem fX4_readsEdge_170 : fetch tX4_readsEdge 170 = some (.istore 7, 2, 7, 0, 0, 0) := rfl
set_option maxRecDepth 20000 in
theorem fX4_readsEdge_172 : fetch tX4_readsEdge 172 = some (.aload_n 0, 1, 0, 0, 0, 0) := rfl
set_option maxRecDepth 20000 in
theorem fX4_readsEdge_173 : fetch tX4_readsEdge 173 = some (.iload 7, 2, 7, 0, 0, 0) := rfl
set_option maxRecDepth 20000 in
theorem fX4_readsEdge_175 : fetch tX4_readsEdge 175 = some (.iconst (-1), 1, 0, 0, (-1), 0) := rfl
set_option maxRecDepth 20000 in
theorem fX4_readsEdge_176 : fetch tX4_readsEdge 176 = some (.if_icmp .ne 12, 3, 188, 0, 0, 0) := rfl
set_option maxRecDepth 20000 in
theorem fX4_readsEdge_179 : fetch tX4_readsEdge 179 = some (.aload_n 0, 1, 0, 0, 0, 0) := rfl
set_option maxRecDepth 20000 in
theorem fX4_readsEdge_180 : fetch tX4_readsEdge 180 = some (.getfield 7, 3, 4, 0, 0, 0) := rfl
set_option maxRecDepth 20000 in
theorem fX4_readsEdge_183 : fetch tX4_readsEdge 183 = some (.iconst 0, 1, 0, 0, 0, 0) := rfl
set_option maxRecDepth 20000 in
theorem fX4_readsEdge_184 : fetch tX4_readsEdge 184 = some (.iaload, 1, 0, 0, 0, 0) := rfl
set_option maxRecDepth 20000 in
theorem fX4_readsEdge_185 : fetch tX4_readsEdge 185 = some (.goto 5, 3, 190, 0, 0, 0) := rfl
set_option maxRecDepth 20000 in
theorem fX4_readsEdge_188 : fetch tX4_readsEdge 188 = some (.iload 7, 2, 7, 0, 0, 0) := rfl
set_option maxRecDepth 20000 in
theorem fX4_readsEdge_190 : fetch tX4_readsEdge 190 = some (.iload_n 1, 1, 1, 0, 0, 0) := rfl
set_option maxRecDepth 20000 in
theorem fX4_readsEdge_191 : fetch tX4_readsEdge 191 = some (.iload_n 3, 1, 3, 0, 0, 0) := rfl
set_option maxRecDepth 20000 in
theorem fX4_readsEdge_192 : fetch tX4_readsEdge 192 = some (.iload 5, 2, 5, 0, 0, 0) := rfl
set_option maxRecDepth 20000 in
theorem fX4_readsEdge_194 : fetch tX4_readsEdge 194 = some (.iload 6, 2, 6, 0, 0, 0) := rfl
set_option maxRecDepth 20000 in
theorem fX4_readsEdge_196 : fetch tX4_readsEdge 196 = some (.invokevirtual 60, 3, 5, 4, 0, 0) := rfl
set_option maxRecDepth 20000 in
theorem fX4_readsEdge_199 : fetch tX4_readsEdge 199 = some (.aload_n 0, 1, 0, 0, 0, 0) := rfl
set_option maxRecDepth 20000 in
theorem fX4_readsEdge_200 : fetch tX4_readsEdge 200 = some (.getfield 7, 3, 4, 0, 0, 0) := rfl
set_option maxRecDepth 20000 in
theorem fX4_readsEdge_203 : fetch tX4_readsEdge 203 = some (.iconst 0, 1, 0, 0, 0, 0) := rfl
set_option maxRecDepth 20000 in
theorem fX4_readsEdge_204 : fetch tX4_readsEdge 204 = some (.dup2, 1, 0, 0, 0, 0) := rfl
set_option maxRecDepth 20000 in
theorem fX4_readsEdge_205 : fetch tX4_readsEdge 205 = some (.iaload, 1, 0, 0, 0, 0) := rfl
set_option maxRecDepth 20000 in
theorem fX4_readsEdge_206 : fetch tX4_readsEdge 206 = some (.iload 7, 2, 7, 0, 0, 0) := rfl
set_option maxRecDepth 20000 in
theorem fX4_readsEdge_208 : fetch tX4_readsEdge 208 = some (.iconst (-1), 1, 0, 0, (-1), 0) := rfl
set_option maxRecDepth 20000 in
theorem fX4_readsEdge_209 : fetch tX4_readsEdge 209 = some (.if_icmp .ne 7, 3, 216, 0, 0, 0) := rfl
set_option maxRecDepth 20000 in
theorem fX4_readsEdge_212 : fetch tX4_readsEdge 212 = some (.iconst 1, 1, 0, 0, 1, 0) := rfl
set_option maxRecDepth 20000 in
theorem fX4_readsEdge_213 : fetch tX4_readsEdge 213 = some (.goto 4, 3, 217, 0, 0, 0) := rfl
set_option maxRecDepth 20000 in
theorem fX4_readsEdge_216 : fetch tX4_readsEdge 216 = some (.iconst 0, 1, 0, 0, 0, 0) := rfl
set_option maxRecDepth 20000 in
theorem fX4_readsEdge_217 : fetch tX4_readsEdge 217 = some (.iadd, 1, 0, 0, 0, 0) := rfl
set_option maxRecDepth 20000 in
theorem fX4_readsEdge_218 : fetch tX4_readsEdge 218 = some (.iastore, 1, 0, 0, 0, 0) := rfl
set_option maxRecDepth 20000 in
theorem fX4_readsEdge_219 : fetch tX4_readsEdge 219 = some (.iconst 1, 1, 0, 0, 1, 0) := rfl
set_option maxRecDepth 20000 in
theorem fX4_readsEdge_220 : fetch tX4_readsEdge 220 = some (.ireturn, 1, 0, 0, 0, 0) := rfl
def tX4_readsItem : List (Nat × TE) := [(0, .aload_n 0, 1, 0, 0, 0, 0), (1, .invokevirtual 111, 3, 0, 4, 0, 0), (4, .bipush 48, 2, 0, 0, 48, 0), (6, .isub, 1, 0, 0, 0, 0), (7, .istore_n 2, 1, 2, 0, 0, 0), (8, .iload_n 2, 1, 2, 0, 0, 0), (9, .invokestatic 50, 3, 1, 4, 0, 0), (12, .ifCond .ne 5, 3, 17, 0, 0, 0), (15, .iconst 0, 1, 0, 0, 0, 0), (16, .ireturn, 1, 0, 0, 0, 0), (17, .aload_n 0, 1, 0, 0, 0, 0), (18, .dup, 1, 0, 0, 0, 0), (19, .getfield 108, 3, 4, 8, 0, 0), (22, .iconst 1, 1, 0, 0, 1, 0), (23, .iadd, 1, 0, 0, 0, 0), (24, .putfield 108, 3, 4, 8, 0, 0), (27, .aload_n 0, 1, 0, 0, 0, 0), (28, .bipush 62, 2, 0, 0, 62, 0), (30, .invokevirtual 118, 3, 2, 4, 0, 0), (33, .ifCond .eq 10, 3, 43, 0, 0, 0), (36, .aload_n 0, 1, 0, 0, 0, 0), (37, .iload_n 2, 1, 2, 0, 0, 0), (38, .iload_n 1, 1, 1, 0, 0, 0), (39, .invokevirtual 124, 3, 3, 4, 0, 0), (42, .ireturn, 1, 0, 0, 0, 0), (43, .aload_n 0, 1, 0, 0, 0, 0), (44, .bipush 61, 2, 0, 0, 61, 0), (46, .invokevirtual 118, 3, 2, 4, 0, 0), (49, .ifCond .ne 5, 3, 54, 0, 0, 0), (52, .iconst 0, 1, 0, 0, 0, 0), (53, .ireturn, 1, 0, 0, 0, 0), (54, .aload_n 0, 1, 0, 0, 0, 0), (55, .bipush 45, 2, 0, 0, 45, 0), (57, .invokevirtual 118, 3, 2, 4, 0, 0), (60, .istore_n 3, 1, 3, 0, 0, 0), (61, .iload_n 3, 1, 3, 0, 0, 0), (62, .ifCond .eq 7, 3, 69, 0, 0, 0), (65, .iconst (-1), 1, 0, 0, (-1), 0), (66, .goto 10, 3, 76, 0, 0, 0), (69, .aload_n 0, 1, 0, 0, 0, 0), (70, .iconst 0, 1, 0, 0, 0, 0), (71, .bipush 30, 2, 0, 0, 30, 0), (73, .invokevirtual 121, 3, 4, 4, 0, 0), (76, .istore 4, 2, 4, 0, 0, 0), (78, .iload_n 3, 1, 3, 0, 0, 0), (79, .ifCond .ne 11, 3, 90, 0, 0, 0), (82, .iload 4, 2, 4, 0, 0, 0), (84, .iconst (-1), 1, 0, 0, (-1), 0), (85, .if_icmp .ne 5, 3, 90, 0, 0, 0), (88, .iconst 0, 1, 0, 0, 0, 0), (89, .ireturn, 1, 0, 0, 0, 0), (90, .aload_n 0, 1, 0, 0, 0, 0), (91, .getfield 7, 3, 4, 0, 0, 0), (94, .bipush 51, 2, 0, 0, 51, 0), (96, .iload_n 2, 1, 2, 0, 0, 0), (97, .iadd, 1, 0, 0, 0, 0), (98, .iload_n 1, 1, 1, 0, 0, 0), (99, .ifCond .eq 8, 3, 107, 0, 0, 0), (102, .iload 4, 2, 4, 0, 0, 0), (104, .goto 12, 3, 116, 0, 0, 0), (107, .aload_n 0, 1, 0, 0, 0, 0), (108, .getfield 7, 3, 4, 0, 0, 0), (111, .bipush 51, 2, 0, 0, 51, 0), (113, .iload_n 2, 1, 2, 0, 0, 0), (114, .iadd, 1, 0, 0, 0, 0), (115, .iaload, 1, 0, 0, 0, 0), (116, .iastore, 1, 0, 0, 0, 0), (117, .iconst 1, 1, 0, 0, 1, 0), (118, .ireturn, 1, 0, 0, 0, 0)]
theorem tkX4_readsItem : tOk cX4_readsItem "RumourSourceModel" 5 tX4_readsItem = true := by decide +kernel
theorem fX4_readsItem_0 : fetch tX4_readsItem 0 = some (.aload_n 0, 1, 0, 0, 0, 0) := rfl
theorem fX4_readsItem_1 : fetch tX4_readsItem 1 = some (.invokevirtual 111, 3, 0, 4, 0, 0) := rfl
theorem fX4_readsItem_4 : fetch tX4_readsItem 4 = some (.bipush 48, 2, 0, 0, 48, 0) := rfl
theorem fX4_readsItem_6 : fetch tX4_readsItem 6 = some (.isub, 1, 0, 0, 0, 0) := rfl
theorem fX4_readsItem_7 : fetch tX4_readsItem 7 = some (.istore_n 2, 1, 2, 0, 0, 0) := rfl
theorem fX4_readsItem_8 : fetch tX4_readsItem 8 = some (.iload_n 2, 1, 2, 0, 0, 0) := rfl
theorem fX4_readsItem_9 : fetch tX4_readsItem 9 = some (.invokestatic 50, 3, 1, 4, 0, 0) := rfl
theorem fX4_readsItem_12 : fetch tX4_readsItem 12 = some (.ifCond .ne 5, 3, 17, 0, 0, 0) := rfl
theorem fX4_readsItem_15 : fetch tX4_readsItem 15 = some (.iconst 0, 1, 0, 0, 0, 0) := rfl
theorem fX4_readsItem_16 : fetch tX4_readsItem 16 = some (.ireturn, 1, 0, 0, 0, 0) := rfl
theorem fX4_readsItem_17 : fetch tX4_readsItem 17 = some (.aload_n 0, 1, 0, 0, 0, 0) := rfl
theorem fX4_readsItem_18 : fetch tX4_readsItem 18 = some (.dup, 1, 0, 0, 0, 0) := rfl
theorem fX4_readsItem_19 : fetch tX4_readsItem 19 = some (.getfield 108, 3, 4, 8, 0, 0) := rfl
theorem fX4_readsItem_22 : fetch tX4_readsItem 22 = some (.iconst 1, 1, 0, 0, 1, 0) := rfl
theorem fX4_readsItem_23 : fetch tX4_readsItem 23 = some (.iadd, 1, 0, 0, 0, 0) := rfl
theorem fX4_readsItem_24 : fetch tX4_readsItem 24 = some (.putfield 108, 3, 4, 8, 0, 0) := rfl
theorem fX4_readsItem_27 : fetch tX4_readsItem 27 = some (.aload_n 0, 1, 0, 0, 0, 0) := rfl
theorem fX4_readsItem_28 : fetch tX4_readsItem 28 = some (.bipush 62, 2, 0, 0, 62, 0) := rfl
theorem fX4_readsItem_30 : fetch tX4_readsItem 30 = some (.invokevirtual 118, 3, 2, 4, 0, 0) := rfl
theorem fX4_readsItem_33 : fetch tX4_readsItem 33 = some (.ifCond .eq 10, 3, 43, 0, 0, 0) := rfl
theorem fX4_readsItem_36 : fetch tX4_readsItem 36 = some (.aload_n 0, 1, 0, 0, 0, 0) := rfl
theorem fX4_readsItem_37 : fetch tX4_readsItem 37 = some (.iload_n 2, 1, 2, 0, 0, 0) := rfl
theorem fX4_readsItem_38 : fetch tX4_readsItem 38 = some (.iload_n 1, 1, 1, 0, 0, 0) := rfl
theorem fX4_readsItem_39 : fetch tX4_readsItem 39 = some (.invokevirtual 124, 3, 3, 4, 0, 0) := rfl
theorem fX4_readsItem_42 : fetch tX4_readsItem 42 = some (.ireturn, 1, 0, 0, 0, 0) := rfl
theorem fX4_readsItem_43 : fetch tX4_readsItem 43 = some (.aload_n 0, 1, 0, 0, 0, 0) := rfl
theorem fX4_readsItem_44 : fetch tX4_readsItem 44 = some (.bipush 61, 2, 0, 0, 61, 0) := rfl
theorem fX4_readsItem_46 : fetch tX4_readsItem 46 = some (.invokevirtual 118, 3, 2, 4, 0, 0) := rfl
theorem fX4_readsItem_49 : fetch tX4_readsItem 49 = some (.ifCond .ne 5, 3, 54, 0, 0, 0) := rfl
theorem fX4_readsItem_52 : fetch tX4_readsItem 52 = some (.iconst 0, 1, 0, 0, 0, 0) := rfl
theorem fX4_readsItem_53 : fetch tX4_readsItem 53 = some (.ireturn, 1, 0, 0, 0, 0) := rfl
theorem fX4_readsItem_54 : fetch tX4_readsItem 54 = some (.aload_n 0, 1, 0, 0, 0, 0) := rfl
theorem fX4_readsItem_55 : fetch tX4_readsItem 55 = some (.bipush 45, 2, 0, 0, 45, 0) := rfl
theorem fX4_readsItem_57 : fetch tX4_readsItem 57 = some (.invokevirtual 118, 3, 2, 4, 0, 0) := rfl
theorem fX4_readsItem_60 : fetch tX4_readsItem 60 = some (.istore_n 3, 1, 3, 0, 0, 0) := rfl
theorem fX4_readsItem_61 : fetch tX4_readsItem 61 = some (.iload_n 3, 1, 3, 0, 0, 0) := rfl
theorem fX4_readsItem_62 : fetch tX4_readsItem 62 = some (.ifCond .eq 7, 3, 69, 0, 0, 0) := rfl
theorem fX4_readsItem_65 : fetch tX4_readsItem 65 = some (.iconst (-1), 1, 0, 0, (-1), 0) := rfl
theorem fX4_readsItem_66 : fetch tX4_readsItem 66 = some (.goto 10, 3, 76, 0, 0, 0) := rfl
theorem fX4_readsItem_69 : fetch tX4_readsItem 69 = some (.aload_n 0, 1, 0, 0, 0, 0) := rfl
theorem fX4_readsItem_70 : fetch tX4_readsItem 70 = some (.iconst 0, 1, 0, 0, 0, 0) := rfl
theorem fX4_readsItem_71 : fetch tX4_readsItem 71 = some (.bipush 30, 2, 0, 0, 30, 0) := rfl
theorem fX4_readsItem_73 : fetch tX4_readsItem 73 = some (.invokevirtual 121, 3, 4, 4, 0, 0) := rfl
theorem fX4_readsItem_76 : fetch tX4_readsItem 76 = some (.istore 4, 2, 4, 0, 0, 0) := rfl
theorem fX4_readsItem_78 : fetch tX4_readsItem 78 = some (.iload_n 3, 1, 3, 0, 0, 0) := rfl
theorem fX4_readsItem_79 : fetch tX4_readsItem 79 = some (.ifCond .ne 11, 3, 90, 0, 0, 0) := rfl
theorem fX4_readsItem_82 : fetch tX4_readsItem 82 = some (.iload 4, 2, 4, 0, 0, 0) := rfl
theorem fX4_readsItem_84 : fetch tX4_readsItem 84 = some (.iconst (-1), 1, 0, 0, (-1), 0) := rfl
theorem fX4_readsItem_85 : fetch tX4_readsItem 85 = some (.if_icmp .ne 5, 3, 90, 0, 0, 0) := rfl
theorem fX4_readsItem_88 : fetch tX4_readsItem 88 = some (.iconst 0, 1, 0, 0, 0, 0) := rfl
theorem fX4_readsItem_89 : fetch tX4_readsItem 89 = some (.ireturn, 1, 0, 0, 0, 0) := rfl
theorem fX4_readsItem_90 : fetch tX4_readsItem 90 = some (.aload_n 0, 1, 0, 0, 0, 0) := rfl
theorem fX4_readsItem_91 : fetch tX4_readsItem 91 = some (.getfield 7, 3, 4, 0, 0, 0) := rfl
theorem fX4_readsItem_94 : fetch tX4_readsItem 94 = some (.bipush 51, 2, 0, 0, 51, 0) := rfl
theorem fX4_readsItem_96 : fetch tX4_readsItem 96 = some (.iload_n 2, 1, 2, 0, 0, 0) := rfl
theorem fX4_readsItem_97 : fetch tX4_readsItem 97 = some (.iadd, 1, 0, 0, 0, 0) := rfl
theorem fX4_readsItem_98 : fetch tX4_readsItem 98 = some (.iload_n 1, 1, 1, 0, 0, 0) := rfl
theorem fX4_readsItem_99 : fetch tX4_readsItem 99 = some (.ifCond .eq 8, 3, 107, 0, 0, 0) := rfl
theorem fX4_readsItem_102 : fetch tX4_readsItem 102 = some (.iload 4, 2, 4, 0, 0, 0) := rfl
theorem fX4_readsItem_104 : fetch tX4_readsItem 104 = some (.goto 12, 3, 116, 0, 0, 0) := rfl
theorem fX4_readsItem_107 : fetch tX4_readsItem 107 = some (.aload_n 0, 1, 0, 0, 0, 0) := rfl
theorem fX4_readsItem_108 : fetch tX4_readsItem 108 = some (.getfield 7, 3, 4, 0, 0, 0) := rfl
theorem fX4_readsItem_111 : fetch tX4_readsItem 111 = some (.bipush 51, 2, 0, 0, 51, 0) := rfl
theorem fX4_readsItem_113 : fetch tX4_readsItem 113 = some (.iload_n 2, 1, 2, 0, 0, 0) := rfl
theorem fX4_readsItem_114 : fetch tX4_readsItem 114 = some (.iadd, 1, 0, 0, 0, 0) := rfl
theorem fX4_readsItem_115 : fetch tX4_readsItem 115 = some (.iaload, 1, 0, 0, 0, 0) := rfl
theorem fX4_readsItem_116 : fetch tX4_readsItem 116 = some (.iastore, 1, 0, 0, 0, 0) := rfl
theorem fX4_readsItem_117 : fetch tX4_readsItem 117 = some (.iconst 1, 1, 0, 0, 1, 0) := rfl
theorem fX4_readsItem_118 : fetch tX4_readsItem 118 = some (.ireturn, 1, 0, 0, 0, 0) := rfl
def tX4_readsAll : List (Nat × TE) := [(0, .aload_n 0, 1, 0, 0, 0, 0), (1, .iconst 0, 1, 0, 0, 0, 0), (2, .putfield 108, 3, 4, 8, 0, 0), (5, .aload_n 0, 1, 0, 0, 0, 0), (6, .aload_n 0, 1, 0, 0, 0, 0), (7, .getfield 7, 3, 4, 0, 0, 0), (10, .iconst 0, 1, 0, 0, 0, 0), (11, .iaload, 1, 0, 0, 0, 0), (12, .putfield 115, 3, 4, 10, 0, 0), (15, .iconst 0, 1, 0, 0, 0, 0), (16, .istore_n 2, 1, 2, 0, 0, 0), (17, .iload_n 2, 1, 2, 0, 0, 0), (18, .bipush 64, 2, 0, 0, 64, 0), (20, .if_icmp .ge 36, 3, 56, 0, 0, 0), (23, .aload_n 0, 1, 0, 0, 0, 0), (24, .getfield 27, 3, 4, 9, 0, 0), (27, .iload_n 2, 1, 2, 0, 0, 0), (28, .aload_n 0, 1, 0, 0, 0, 0), (29, .iload_n 2, 1, 2, 0, 0, 0), (30, .bipush 8, 2, 0, 0, 8, 0), (32, .idiv, 1, 0, 0, 0, 0), (33, .iload_n 2, 1, 2, 0, 0, 0), (34, .bipush 8, 2, 0, 0, 8, 0), (36, .irem, 1, 0, 0, 0, 0), (37, .invokevirtual 54, 3, 0, 4, 0, 0), (40, .iconst (-1), 1, 0, 0, (-1), 0), (41, .if_icmp .eq 7, 3, 48, 0, 0, 0), (44, .iconst 1, 1, 0, 0, 1, 0), (45, .goto 4, 3, 49, 0, 0, 0), (48, .iconst 0, 1, 0, 0, 0, 0), (49, .bastore, 1, 0, 0, 0, 0), (50, .iinc 2 1, 3, 2, 0, 1, 0), (53, .goto (-36), 3, 17, 0, 0, 0), (56, .aload_n 0, 1, 0, 0, 0, 0), (57, .iload_n 1, 1, 1, 0, 0, 0), (58, .invokevirtual 128, 3, 1, 4, 0, 0), (61, .istore_n 2, 1, 2, 0, 0, 0), (62, .aload_n 0, 1, 0, 0, 0, 0), (63, .invokevirtual 111, 3, 2, 4, 0, 0), (66, .istore_n 3, 1, 3, 0, 0, 0), (67, .iload_n 2, 1, 2, 0, 0, 0), (68, .ifCond .eq 39, 3, 107, 0, 0, 0), (71, .iload_n 3, 1, 3, 0, 0, 0), (72, .iconst (-1), 1, 0, 0, (-1), 0), (73, .if_icmp .eq 34, 3, 107, 0, 0, 0), (76, .aload_n 0, 1, 0, 0, 0, 0), (77, .bipush 59, 2, 0, 0, 59, 0), (79, .invokevirtual 118, 3, 3, 4, 0, 0), (82, .ifCond .eq 15, 3, 97, 0, 0, 0), (85, .aload_n 0, 1, 0, 0, 0, 0), (86, .iload_n 1, 1, 1, 0, 0, 0), (87, .invokevirtual 128, 3, 1, 4, 0, 0), (90, .ifCond .eq 7, 3, 97, 0, 0, 0), (93, .iconst 1, 1, 0, 0, 1, 0), (94, .goto 4, 3, 98, 0, 0, 0), (97, .iconst 0, 1, 0, 0, 0, 0), (98, .istore_n 2, 1, 2, 0, 0, 0), (99, .aload_n 0, 1, 0, 0, 0, 0), (100, .invokevirtual 111, 3, 2, 4, 0, 0), (103, .istore_n 3, 1, 3, 0, 0, 0), (104, .goto (-37), 3, 67, 0, 0, 0), (107, .iload_n 2, 1, 2, 0, 0, 0), (108, .ireturn, 1, 0, 0, 0, 0)]
theorem tkX4_readsAll : tOk cX4_readsAll "RumourSourceModel" 4 tX4_readsAll = true := by decide +kernel
theorem fX4_readsAll_0 : fetch tX4_readsAll 0 = some (.aload_n 0, 1, 0, 0, 0, 0) := rfl
theorem fX4_readsAll_1 : fetch tX4_readsAll 1 = some (.iconst 0, 1, 0, 0, 0, 0) := rfl
theorem fX4_readsAll_2 : fetch tX4_readsAll 2 = some (.putfield 108, 3, 4, 8, 0, 0) := rfl
theorem fX4_readsAll_5 : fetch tX4_readsAll 5 = some (.aload_n 0, 1, 0, 0, 0, 0) := rfl
theorem fX4_readsAll_6 : fetch tX4_readsAll 6 = some (.aload_n 0, 1, 0, 0, 0, 0) := rfl
theorem fX4_readsAll_7 : fetch tX4_readsAll 7 = some (.getfield 7, 3, 4, 0, 0, 0) := rfl
theorem fX4_readsAll_10 : fetch tX4_readsAll 10 = some (.iconst 0, 1, 0, 0, 0, 0) := rfl
theorem fX4_readsAll_11 : fetch tX4_readsAll 11 = some (.iaload, 1, 0, 0, 0, 0) := rfl
theorem fX4_readsAll_12 : fetch tX4_readsAll 12 = some (.putfield 115, 3, 4, 10, 0, 0) := rfl
theorem fX4_readsAll_15 : fetch tX4_readsAll 15 = some (.iconst 0, 1, 0, 0, 0, 0) := rfl
theorem fX4_readsAll_16 : fetch tX4_readsAll 16 = some (.istore_n 2, 1, 2, 0, 0, 0) := rfl
theorem fX4_readsAll_17 : fetch tX4_readsAll 17 = some (.iload_n 2, 1, 2, 0, 0, 0) := rfl
theorem fX4_readsAll_18 : fetch tX4_readsAll 18 = some (.bipush 64, 2, 0, 0, 64, 0) := rfl
theorem fX4_readsAll_20 : fetch tX4_readsAll 20 = some (.if_icmp .ge 36, 3, 56, 0, 0, 0) := rfl
theorem fX4_readsAll_23 : fetch tX4_readsAll 23 = some (.aload_n 0, 1, 0, 0, 0, 0) := rfl
theorem fX4_readsAll_24 : fetch tX4_readsAll 24 = some (.getfield 27, 3, 4, 9, 0, 0) := rfl
theorem fX4_readsAll_27 : fetch tX4_readsAll 27 = some (.iload_n 2, 1, 2, 0, 0, 0) := rfl
theorem fX4_readsAll_28 : fetch tX4_readsAll 28 = some (.aload_n 0, 1, 0, 0, 0, 0) := rfl
theorem fX4_readsAll_29 : fetch tX4_readsAll 29 = some (.iload_n 2, 1, 2, 0, 0, 0) := rfl
theorem fX4_readsAll_30 : fetch tX4_readsAll 30 = some (.bipush 8, 2, 0, 0, 8, 0) := rfl
theorem fX4_readsAll_32 : fetch tX4_readsAll 32 = some (.idiv, 1, 0, 0, 0, 0) := rfl
theorem fX4_readsAll_33 : fetch tX4_readsAll 33 = some (.iload_n 2, 1, 2, 0, 0, 0) := rfl
theorem fX4_readsAll_34 : fetch tX4_readsAll 34 = some (.bipush 8, 2, 0, 0, 8, 0) := rfl
theorem fX4_readsAll_36 : fetch tX4_readsAll 36 = some (.irem, 1, 0, 0, 0, 0) := rfl
theorem fX4_readsAll_37 : fetch tX4_readsAll 37 = some (.invokevirtual 54, 3, 0, 4, 0, 0) := rfl
theorem fX4_readsAll_40 : fetch tX4_readsAll 40 = some (.iconst (-1), 1, 0, 0, (-1), 0) := rfl
theorem fX4_readsAll_41 : fetch tX4_readsAll 41 = some (.if_icmp .eq 7, 3, 48, 0, 0, 0) := rfl
theorem fX4_readsAll_44 : fetch tX4_readsAll 44 = some (.iconst 1, 1, 0, 0, 1, 0) := rfl
theorem fX4_readsAll_45 : fetch tX4_readsAll 45 = some (.goto 4, 3, 49, 0, 0, 0) := rfl
theorem fX4_readsAll_48 : fetch tX4_readsAll 48 = some (.iconst 0, 1, 0, 0, 0, 0) := rfl
theorem fX4_readsAll_49 : fetch tX4_readsAll 49 = some (.bastore, 1, 0, 0, 0, 0) := rfl
theorem fX4_readsAll_50 : fetch tX4_readsAll 50 = some (.iinc 2 1, 3, 2, 0, 1, 0) := rfl
theorem fX4_readsAll_53 : fetch tX4_readsAll 53 = some (.goto (-36), 3, 17, 0, 0, 0) := rfl
theorem fX4_readsAll_56 : fetch tX4_readsAll 56 = some (.aload_n 0, 1, 0, 0, 0, 0) := rfl
theorem fX4_readsAll_57 : fetch tX4_readsAll 57 = some (.iload_n 1, 1, 1, 0, 0, 0) := rfl
theorem fX4_readsAll_58 : fetch tX4_readsAll 58 = some (.invokevirtual 128, 3, 1, 4, 0, 0) := rfl
theorem fX4_readsAll_61 : fetch tX4_readsAll 61 = some (.istore_n 2, 1, 2, 0, 0, 0) := rfl
theorem fX4_readsAll_62 : fetch tX4_readsAll 62 = some (.aload_n 0, 1, 0, 0, 0, 0) := rfl
theorem fX4_readsAll_63 : fetch tX4_readsAll 63 = some (.invokevirtual 111, 3, 2, 4, 0, 0) := rfl
theorem fX4_readsAll_66 : fetch tX4_readsAll 66 = some (.istore_n 3, 1, 3, 0, 0, 0) := rfl
theorem fX4_readsAll_67 : fetch tX4_readsAll 67 = some (.iload_n 2, 1, 2, 0, 0, 0) := rfl
theorem fX4_readsAll_68 : fetch tX4_readsAll 68 = some (.ifCond .eq 39, 3, 107, 0, 0, 0) := rfl
theorem fX4_readsAll_71 : fetch tX4_readsAll 71 = some (.iload_n 3, 1, 3, 0, 0, 0) := rfl
theorem fX4_readsAll_72 : fetch tX4_readsAll 72 = some (.iconst (-1), 1, 0, 0, (-1), 0) := rfl
theorem fX4_readsAll_73 : fetch tX4_readsAll 73 = some (.if_icmp .eq 34, 3, 107, 0, 0, 0) := rfl
theorem fX4_readsAll_76 : fetch tX4_readsAll 76 = some (.aload_n 0, 1, 0, 0, 0, 0) := rfl
theorem fX4_readsAll_77 : fetch tX4_readsAll 77 = some (.bipush 59, 2, 0, 0, 59, 0) := rfl
theorem fX4_readsAll_79 : fetch tX4_readsAll 79 = some (.invokevirtual 118, 3, 3, 4, 0, 0) := rfl
theorem fX4_readsAll_82 : fetch tX4_readsAll 82 = some (.ifCond .eq 15, 3, 97, 0, 0, 0) := rfl
theorem fX4_readsAll_85 : fetch tX4_readsAll 85 = some (.aload_n 0, 1, 0, 0, 0, 0) := rfl
theorem fX4_readsAll_86 : fetch tX4_readsAll 86 = some (.iload_n 1, 1, 1, 0, 0, 0) := rfl
theorem fX4_readsAll_87 : fetch tX4_readsAll 87 = some (.invokevirtual 128, 3, 1, 4, 0, 0) := rfl
theorem fX4_readsAll_90 : fetch tX4_readsAll 90 = some (.ifCond .eq 7, 3, 97, 0, 0, 0) := rfl
theorem fX4_readsAll_93 : fetch tX4_readsAll 93 = some (.iconst 1, 1, 0, 0, 1, 0) := rfl
theorem fX4_readsAll_94 : fetch tX4_readsAll 94 = some (.goto 4, 3, 98, 0, 0, 0) := rfl
theorem fX4_readsAll_97 : fetch tX4_readsAll 97 = some (.iconst 0, 1, 0, 0, 0, 0) := rfl
theorem fX4_readsAll_98 : fetch tX4_readsAll 98 = some (.istore_n 2, 1, 2, 0, 0, 0) := rfl
theorem fX4_readsAll_99 : fetch tX4_readsAll 99 = some (.aload_n 0, 1, 0, 0, 0, 0) := rfl
theorem fX4_readsAll_100 : fetch tX4_readsAll 100 = some (.invokevirtual 111, 3, 2, 4, 0, 0) := rfl
theorem fX4_readsAll_103 : fetch tX4_readsAll 103 = some (.istore_n 3, 1, 3, 0, 0, 0) := rfl
theorem fX4_readsAll_104 : fetch tX4_readsAll 104 = some (.goto (-37), 3, 67, 0, 0, 0) := rfl
theorem fX4_readsAll_107 : fetch tX4_readsAll 107 = some (.iload_n 2, 1, 2, 0, 0, 0) := rfl
theorem fX4_readsAll_108 : fetch tX4_readsAll 108 = some (.ireturn, 1, 0, 0, 0, 0) := rfl
def tX4_textFault : List (Nat × TE) := [(0, .aload_n 0, 1, 0, 0, 0, 0), (1, .iconst 0, 1, 0, 0, 0, 0), (2, .invokevirtual 132, 3, 0, 4, 0, 0), (5, .ifCond .eq 7, 3, 12, 0, 0, 0), (8, .iconst (-1), 1, 0, 0, (-1), 0), (9, .goto 7, 3, 16, 0, 0, 0), (12, .aload_n 0, 1, 0, 0, 0, 0), (13, .getfield 108, 3, 4, 8, 0, 0), (16, .ireturn, 1, 0, 0, 0, 0)]
theorem tkX4_textFault : tOk cX4_textFault "RumourSourceModel" 1 tX4_textFault = true := by decide +kernel
theorem fX4_textFault_0 : fetch tX4_textFault 0 = some (.aload_n 0, 1, 0, 0, 0, 0) := rfl
theorem fX4_textFault_1 : fetch tX4_textFault 1 = some (.iconst 0, 1, 0, 0, 0, 0) := rfl
theorem fX4_textFault_2 : fetch tX4_textFault 2 = some (.invokevirtual 132, 3, 0, 4, 0, 0) := rfl
theorem fX4_textFault_5 : fetch tX4_textFault 5 = some (.ifCond .eq 7, 3, 12, 0, 0, 0) := rfl
theorem fX4_textFault_8 : fetch tX4_textFault 8 = some (.iconst (-1), 1, 0, 0, (-1), 0) := rfl
theorem fX4_textFault_9 : fetch tX4_textFault 9 = some (.goto 7, 3, 16, 0, 0, 0) := rfl
theorem fX4_textFault_12 : fetch tX4_textFault 12 = some (.aload_n 0, 1, 0, 0, 0, 0) := rfl
theorem fX4_textFault_13 : fetch tX4_textFault 13 = some (.getfield 108, 3, 4, 8, 0, 0) := rfl
theorem fX4_textFault_16 : fetch tX4_textFault 16 = some (.ireturn, 1, 0, 0, 0, 0) := rfl
def tX4_load : List (Nat × TE) := [(0, .aload_n 0, 1, 0, 0, 0, 0), (1, .iconst 0, 1, 0, 0, 0, 0), (2, .invokevirtual 132, 3, 0, 4, 0, 0), (5, .ifCond .ne 6, 3, 11, 0, 0, 0), (8, .bipush (-4), 2, 0, 0, (-4), 0), (10, .ireturn, 1, 0, 0, 0, 0), (11, .aload_n 0, 1, 0, 0, 0, 0), (12, .invokevirtual 57, 3, 1, 4, 0, 0), (15, .aload_n 0, 1, 0, 0, 0, 0), (16, .iconst 1, 1, 0, 0, 1, 0), (17, .invokevirtual 132, 3, 0, 4, 0, 0), (20, .istore_n 1, 1, 1, 0, 0, 0), (21, .aload_n 0, 1, 0, 0, 0, 0), (22, .getfield 7, 3, 4, 0, 0, 0), (25, .iconst 0, 1, 0, 0, 0, 0), (26, .iaload, 1, 0, 0, 0, 0), (27, .ireturn, 1, 0, 0, 0, 0)]
theorem tkX4_load : tOk cX4_load "RumourSourceModel" 2 tX4_load = true := by decide +kernel
theorem fX4_load_0 : fetch tX4_load 0 = some (.aload_n 0, 1, 0, 0, 0, 0) := rfl
theorem fX4_load_1 : fetch tX4_load 1 = some (.iconst 0, 1, 0, 0, 0, 0) := rfl
theorem fX4_load_2 : fetch tX4_load 2 = some (.invokevirtual 132, 3, 0, 4, 0, 0) := rfl
theorem fX4_load_5 : fetch tX4_load 5 = some (.ifCond .ne 6, 3, 11, 0, 0, 0) := rfl
theorem fX4_load_8 : fetch tX4_load 8 = some (.bipush (-4), 2, 0, 0, (-4), 0) := rfl
theorem fX4_load_10 : fetch tX4_load 10 = some (.ireturn, 1, 0, 0, 0, 0) := rfl
theorem fX4_load_11 : fetch tX4_load 11 = some (.aload_n 0, 1, 0, 0, 0, 0) := rfl
theorem fX4_load_12 : fetch tX4_load 12 = some (.invokevirtual 57, 3, 1, 4, 0, 0) := rfl
theorem fX4_load_15 : fetch tX4_load 15 = some (.aload_n 0, 1, 0, 0, 0, 0) := rfl
theorem fX4_load_16 : fetch tX4_load 16 = some (.iconst 1, 1, 0, 0, 1, 0) := rfl
theorem fX4_load_17 : fetch tX4_load 17 = some (.invokevirtual 132, 3, 0, 4, 0, 0) := rfl
theorem fX4_load_20 : fetch tX4_load 20 = some (.istore_n 1, 1, 1, 0, 0, 0) := rfl
theorem fX4_load_21 : fetch tX4_load 21 = some (.aload_n 0, 1, 0, 0, 0, 0) := rfl
theorem fX4_load_22 : fetch tX4_load 22 = some (.getfield 7, 3, 4, 0, 0, 0) := rfl
theorem fX4_load_25 : fetch tX4_load 25 = some (.iconst 0, 1, 0, 0, 0, 0) := rfl
theorem fX4_load_26 : fetch tX4_load 26 = some (.iaload, 1, 0, 0, 0, 0) := rfl
theorem fX4_load_27 : fetch tX4_load 27 = some (.ireturn, 1, 0, 0, 0, 0) := rfl
def tX4_note : List (Nat × TE) := [(0, .aload_n 0, 1, 0, 0, 0, 0), (1, .ldc2_w 135, 3, 0, 0, 0, 31), (4, .aload_n 0, 1, 0, 0, 0, 0), (5, .getfield 137, 3, 4, 11, 0, 0), (8, .lmul, 1, 0, 0, 0, 0), (9, .iload_n 1, 1, 1, 0, 0, 0), (10, .i2l, 1, 0, 0, 0, 0), (11, .ladd, 1, 0, 0, 0, 0), (12, .putfield 137, 3, 4, 11, 0, 0), (15, .return_, 1, 0, 0, 0, 0)]
theorem tkX4_note : tOk cX4_note "RumourSourceModel" 2 tX4_note = true := by decide +kernel
theorem fX4_note_0 : fetch tX4_note 0 = some (.aload_n 0, 1, 0, 0, 0, 0) := rfl
theorem fX4_note_1 : fetch tX4_note 1 = some (.ldc2_w 135, 3, 0, 0, 0, 31) := rfl
theorem fX4_note_4 : fetch tX4_note 4 = some (.aload_n 0, 1, 0, 0, 0, 0) := rfl
theorem fX4_note_5 : fetch tX4_note 5 = some (.getfield 137, 3, 4, 11, 0, 0) := rfl
theorem fX4_note_8 : fetch tX4_note 8 = some (.lmul, 1, 0, 0, 0, 0) := rfl
theorem fX4_note_9 : fetch tX4_note 9 = some (.iload_n 1, 1, 1, 0, 0, 0) := rfl
theorem fX4_note_10 : fetch tX4_note 10 = some (.i2l, 1, 0, 0, 0, 0) := rfl
theorem fX4_note_11 : fetch tX4_note 11 = some (.ladd, 1, 0, 0, 0, 0) := rfl
theorem fX4_note_12 : fetch tX4_note 12 = some (.putfield 137, 3, 4, 11, 0, 0) := rfl
theorem fX4_note_15 : fetch tX4_note 15 = some (.return_, 1, 0, 0, 0, 0) := rfl
def tX4_digest : List (Nat × TE) := [(0, .aload_n 0, 1, 0, 0, 0, 0), (1, .ldc2_w 141, 3, 0, 0, 0, 17), (4, .putfield 137, 3, 4, 11, 0, 0), (7, .aload_n 0, 1, 0, 0, 0, 0), (8, .aload_n 0, 1, 0, 0, 0, 0), (9, .getfield 7, 3, 4, 0, 0, 0), (12, .iconst 0, 1, 0, 0, 0, 0), (13, .iaload, 1, 0, 0, 0, 0), (14, .invokevirtual 143, 3, 0, 4, 0, 0), (17, .iconst 0, 1, 0, 0, 0, 0), (18, .istore_n 1, 1, 1, 0, 0, 0), (19, .iload_n 1, 1, 1, 0, 0, 0), (20, .iconst 4, 1, 0, 0, 4, 0), (21, .aload_n 0, 1, 0, 0, 0, 0), (22, .getfield 7, 3, 4, 0, 0, 0), (25, .iconst 0, 1, 0, 0, 0, 0), (26, .iaload, 1, 0, 0, 0, 0), (27, .imul, 1, 0, 0, 0, 0), (28, .if_icmp .ge 21, 3, 49, 0, 0, 0), (31, .aload_n 0, 1, 0, 0, 0, 0), (32, .aload_n 0, 1, 0, 0, 0, 0), (33, .getfield 7, 3, 4, 0, 0, 0), (36, .iconst 3, 1, 0, 0, 3, 0), (37, .iload_n 1, 1, 1, 0, 0, 0), (38, .iadd, 1, 0, 0, 0, 0), (39, .iaload, 1, 0, 0, 0, 0), (40, .invokevirtual 143, 3, 0, 4, 0, 0), (43, .iinc 1 1, 3, 1, 0, 1, 0), (46, .goto (-27), 3, 19, 0, 0, 0), (49, .aload_n 0, 1, 0, 0, 0, 0), (50, .aload_n 0, 1, 0, 0, 0, 0), (51, .getfield 7, 3, 4, 0, 0, 0), (54, .iconst 1, 1, 0, 0, 1, 0), (55, .iaload, 1, 0, 0, 0, 0), (56, .invokevirtual 143, 3, 0, 4, 0, 0), (59, .iconst 0, 1, 0, 0, 0, 0), (60, .istore_n 1, 1, 1, 0, 0, 0), (61, .iload_n 1, 1, 1, 0, 0, 0), (62, .bipush 8, 2, 0, 0, 8, 0), (64, .if_icmp .ge 22, 3, 86, 0, 0, 0), (67, .aload_n 0, 1, 0, 0, 0, 0), (68, .aload_n 0, 1, 0, 0, 0, 0), (69, .getfield 7, 3, 4, 0, 0, 0), (72, .bipush 51, 2, 0, 0, 51, 0), (74, .iload_n 1, 1, 1, 0, 0, 0), (75, .iadd, 1, 0, 0, 0, 0), (76, .iaload, 1, 0, 0, 0, 0), (77, .invokevirtual 143, 3, 0, 4, 0, 0), (80, .iinc 1 1, 3, 1, 0, 1, 0), (83, .goto (-22), 3, 61, 0, 0, 0), (86, .aload_n 0, 1, 0, 0, 0, 0), (87, .aload_n 0, 1, 0, 0, 0, 0), (88, .getfield 7, 3, 4, 0, 0, 0), (91, .iconst 2, 1, 0, 0, 2, 0), (92, .iaload, 1, 0, 0, 0, 0), (93, .invokevirtual 143, 3, 0, 4, 0, 0), (96, .aload_n 0, 1, 0, 0, 0, 0), (97, .getfield 137, 3, 4, 11, 0, 0), (100, .lreturn, 1, 0, 0, 0, 0)]
theorem tkX4_digest : tOk cX4_digest "RumourSourceModel" 2 tX4_digest = true := by decide +kernel
theorem fX4_digest_0 : fetch tX4_digest 0 = some (.aload_n 0, 1, 0, 0, 0, 0) := rfl
theorem fX4_digest_1 : fetch tX4_digest 1 = some (.ldc2_w 141, 3, 0, 0, 0, 17) := rfl
theorem fX4_digest_4 : fetch tX4_digest 4 = some (.putfield 137, 3, 4, 11, 0, 0) := rfl
theorem fX4_digest_7 : fetch tX4_digest 7 = some (.aload_n 0, 1, 0, 0, 0, 0) := rfl
theorem fX4_digest_8 : fetch tX4_digest 8 = some (.aload_n 0, 1, 0, 0, 0, 0) := rfl
theorem fX4_digest_9 : fetch tX4_digest 9 = some (.getfield 7, 3, 4, 0, 0, 0) := rfl
theorem fX4_digest_12 : fetch tX4_digest 12 = some (.iconst 0, 1, 0, 0, 0, 0) := rfl
theorem fX4_digest_13 : fetch tX4_digest 13 = some (.iaload, 1, 0, 0, 0, 0) := rfl
theorem fX4_digest_14 : fetch tX4_digest 14 = some (.invokevirtual 143, 3, 0, 4, 0, 0) := rfl
theorem fX4_digest_17 : fetch tX4_digest 17 = some (.iconst 0, 1, 0, 0, 0, 0) := rfl
theorem fX4_digest_18 : fetch tX4_digest 18 = some (.istore_n 1, 1, 1, 0, 0, 0) := rfl
theorem fX4_digest_19 : fetch tX4_digest 19 = some (.iload_n 1, 1, 1, 0, 0, 0) := rfl
theorem fX4_digest_20 : fetch tX4_digest 20 = some (.iconst 4, 1, 0, 0, 4, 0) := rfl
theorem fX4_digest_21 : fetch tX4_digest 21 = some (.aload_n 0, 1, 0, 0, 0, 0) := rfl
theorem fX4_digest_22 : fetch tX4_digest 22 = some (.getfield 7, 3, 4, 0, 0, 0) := rfl
theorem fX4_digest_25 : fetch tX4_digest 25 = some (.iconst 0, 1, 0, 0, 0, 0) := rfl
theorem fX4_digest_26 : fetch tX4_digest 26 = some (.iaload, 1, 0, 0, 0, 0) := rfl
theorem fX4_digest_27 : fetch tX4_digest 27 = some (.imul, 1, 0, 0, 0, 0) := rfl
theorem fX4_digest_28 : fetch tX4_digest 28 = some (.if_icmp .ge 21, 3, 49, 0, 0, 0) := rfl
theorem fX4_digest_31 : fetch tX4_digest 31 = some (.aload_n 0, 1, 0, 0, 0, 0) := rfl
theorem fX4_digest_32 : fetch tX4_digest 32 = some (.aload_n 0, 1, 0, 0, 0, 0) := rfl
theorem fX4_digest_33 : fetch tX4_digest 33 = some (.getfield 7, 3, 4, 0, 0, 0) := rfl
theorem fX4_digest_36 : fetch tX4_digest 36 = some (.iconst 3, 1, 0, 0, 3, 0) := rfl
theorem fX4_digest_37 : fetch tX4_digest 37 = some (.iload_n 1, 1, 1, 0, 0, 0) := rfl
theorem fX4_digest_38 : fetch tX4_digest 38 = some (.iadd, 1, 0, 0, 0, 0) := rfl
theorem fX4_digest_39 : fetch tX4_digest 39 = some (.iaload, 1, 0, 0, 0, 0) := rfl
theorem fX4_digest_40 : fetch tX4_digest 40 = some (.invokevirtual 143, 3, 0, 4, 0, 0) := rfl
theorem fX4_digest_43 : fetch tX4_digest 43 = some (.iinc 1 1, 3, 1, 0, 1, 0) := rfl
theorem fX4_digest_46 : fetch tX4_digest 46 = some (.goto (-27), 3, 19, 0, 0, 0) := rfl
theorem fX4_digest_49 : fetch tX4_digest 49 = some (.aload_n 0, 1, 0, 0, 0, 0) := rfl
theorem fX4_digest_50 : fetch tX4_digest 50 = some (.aload_n 0, 1, 0, 0, 0, 0) := rfl
theorem fX4_digest_51 : fetch tX4_digest 51 = some (.getfield 7, 3, 4, 0, 0, 0) := rfl
theorem fX4_digest_54 : fetch tX4_digest 54 = some (.iconst 1, 1, 0, 0, 1, 0) := rfl
theorem fX4_digest_55 : fetch tX4_digest 55 = some (.iaload, 1, 0, 0, 0, 0) := rfl
theorem fX4_digest_56 : fetch tX4_digest 56 = some (.invokevirtual 143, 3, 0, 4, 0, 0) := rfl
theorem fX4_digest_59 : fetch tX4_digest 59 = some (.iconst 0, 1, 0, 0, 0, 0) := rfl
theorem fX4_digest_60 : fetch tX4_digest 60 = some (.istore_n 1, 1, 1, 0, 0, 0) := rfl
theorem fX4_digest_61 : fetch tX4_digest 61 = some (.iload_n 1, 1, 1, 0, 0, 0) := rfl
theorem fX4_digest_62 : fetch tX4_digest 62 = some (.bipush 8, 2, 0, 0, 8, 0) := rfl
theorem fX4_digest_64 : fetch tX4_digest 64 = some (.if_icmp .ge 22, 3, 86, 0, 0, 0) := rfl
theorem fX4_digest_67 : fetch tX4_digest 67 = some (.aload_n 0, 1, 0, 0, 0, 0) := rfl
theorem fX4_digest_68 : fetch tX4_digest 68 = some (.aload_n 0, 1, 0, 0, 0, 0) := rfl
theorem fX4_digest_69 : fetch tX4_digest 69 = some (.getfield 7, 3, 4, 0, 0, 0) := rfl
theorem fX4_digest_72 : fetch tX4_digest 72 = some (.bipush 51, 2, 0, 0, 51, 0) := rfl
theorem fX4_digest_74 : fetch tX4_digest 74 = some (.iload_n 1, 1, 1, 0, 0, 0) := rfl
theorem fX4_digest_75 : fetch tX4_digest 75 = some (.iadd, 1, 0, 0, 0, 0) := rfl
theorem fX4_digest_76 : fetch tX4_digest 76 = some (.iaload, 1, 0, 0, 0, 0) := rfl
theorem fX4_digest_77 : fetch tX4_digest 77 = some (.invokevirtual 143, 3, 0, 4, 0, 0) := rfl
theorem fX4_digest_80 : fetch tX4_digest 80 = some (.iinc 1 1, 3, 1, 0, 1, 0) := rfl
theorem fX4_digest_83 : fetch tX4_digest 83 = some (.goto (-22), 3, 61, 0, 0, 0) := rfl
theorem fX4_digest_86 : fetch tX4_digest 86 = some (.aload_n 0, 1, 0, 0, 0, 0) := rfl
theorem fX4_digest_87 : fetch tX4_digest 87 = some (.aload_n 0, 1, 0, 0, 0, 0) := rfl
theorem fX4_digest_88 : fetch tX4_digest 88 = some (.getfield 7, 3, 4, 0, 0, 0) := rfl
theorem fX4_digest_91 : fetch tX4_digest 91 = some (.iconst 2, 1, 0, 0, 2, 0) := rfl
theorem fX4_digest_92 : fetch tX4_digest 92 = some (.iaload, 1, 0, 0, 0, 0) := rfl
theorem fX4_digest_93 : fetch tX4_digest 93 = some (.invokevirtual 143, 3, 0, 4, 0, 0) := rfl
theorem fX4_digest_96 : fetch tX4_digest 96 = some (.aload_n 0, 1, 0, 0, 0, 0) := rfl
theorem fX4_digest_97 : fetch tX4_digest 97 = some (.getfield 137, 3, 4, 11, 0, 0) := rfl
theorem fX4_digest_100 : fetch tX4_digest 100 = some (.lreturn, 1, 0, 0, 0, 0) := rfl
end TABM
