section
-- ===== PART A: goes FIRST, ahead of the names: the tables' words, and 'selects' of the private methods out of them =====
/-- a private method of a class that the tables say can be made, by its rows of tables_1 -/
def lw_okq (q : MethodName × Nat) : Prop := (q.1.cls ≠ "java/lang/invoke/MethodHandle" ∧ q.1.cls ≠ "java/lang/invoke/VarHandle") ∧ Cond.instantiable q.1.cls q.2 ∈ tables_1 ∧ Cond.privateMethod q.1 ∈ tables_1 ∧ Cond.instanceMethod q.1 ∈ tables_1
theorem lw_p0 : lw_okq (⟨"RumourSource$Scene", "find", "(II)I"⟩, 8) := ⟨⟨by decide +kernel, by decide +kernel⟩, List.mem_of_getElem? (i := 16) (by decide +kernel), List.mem_of_getElem? (i := 161) (by decide +kernel), List.mem_of_getElem? (i := 162) (by decide +kernel)⟩
theorem lw_p1 : lw_okq (⟨"RumourSource$Scene", "isFull", "()Z"⟩, 8) := ⟨⟨by decide +kernel, by decide +kernel⟩, List.mem_of_getElem? (i := 16) (by decide +kernel), List.mem_of_getElem? (i := 165) (by decide +kernel), List.mem_of_getElem? (i := 166) (by decide +kernel)⟩
theorem lw_p2 : lw_okq (⟨"RumourSource", "remember", "()V"⟩, 6) := ⟨⟨by decide +kernel, by decide +kernel⟩, List.mem_of_getElem? (i := 8) (by decide +kernel), List.mem_of_getElem? (i := 169) (by decide +kernel), List.mem_of_getElem? (i := 170) (by decide +kernel)⟩
theorem lw_p3 : lw_okq (⟨"RumourSource$Scene", "copyFrom", "(LRumourSource$Scene;)V"⟩, 8) := ⟨⟨by decide +kernel, by decide +kernel⟩, List.mem_of_getElem? (i := 16) (by decide +kernel), List.mem_of_getElem? (i := 173) (by decide +kernel), List.mem_of_getElem? (i := 174) (by decide +kernel)⟩
theorem lw_p4 : lw_okq (⟨"RumourSource$Scene", "put", "(IIII)I"⟩, 8) := ⟨⟨by decide +kernel, by decide +kernel⟩, List.mem_of_getElem? (i := 16) (by decide +kernel), List.mem_of_getElem? (i := 177) (by decide +kernel), List.mem_of_getElem? (i := 178) (by decide +kernel)⟩
theorem lw_p5 : lw_okq (⟨"RumourSource$Scene", "hasEdge", "(I)Z"⟩, 8) := ⟨⟨by decide +kernel, by decide +kernel⟩, List.mem_of_getElem? (i := 16) (by decide +kernel), List.mem_of_getElem? (i := 188) (by decide +kernel), List.mem_of_getElem? (i := 189) (by decide +kernel)⟩
theorem lw_p6 : lw_okq (⟨"RumourSource$Scene", "drop", "(I)V"⟩, 8) := ⟨⟨by decide +kernel, by decide +kernel⟩, List.mem_of_getElem? (i := 16) (by decide +kernel), List.mem_of_getElem? (i := 196) (by decide +kernel), List.mem_of_getElem? (i := 197) (by decide +kernel)⟩
theorem lw_p7 : lw_okq (⟨"RumourSource", "replaceSeen", "(II)I"⟩, 6) := ⟨⟨by decide +kernel, by decide +kernel⟩, List.mem_of_getElem? (i := 8) (by decide +kernel), List.mem_of_getElem? (i := 227) (by decide +kernel), List.mem_of_getElem? (i := 228) (by decide +kernel)⟩
theorem lw_p8 : lw_okq (⟨"RumourSource", "drawOutcome", "(I)I"⟩, 6) := ⟨⟨by decide +kernel, by decide +kernel⟩, List.mem_of_getElem? (i := 8) (by decide +kernel), List.mem_of_getElem? (i := 250) (by decide +kernel), List.mem_of_getElem? (i := 251) (by decide +kernel)⟩
theorem lw_p9 : lw_okq (⟨"RumourSource$Spread", "follow", "(LRumourSource$Scene;II)V"⟩, 8) := ⟨⟨by decide +kernel, by decide +kernel⟩, List.mem_of_getElem? (i := 65) (by decide +kernel), List.mem_of_getElem? (i := 255) (by decide +kernel), List.mem_of_getElem? (i := 256) (by decide +kernel)⟩
theorem lw_p10 : lw_okq (⟨"RumourSource$Spread", "begin", "(I)V"⟩, 8) := ⟨⟨by decide +kernel, by decide +kernel⟩, List.mem_of_getElem? (i := 65) (by decide +kernel), List.mem_of_getElem? (i := 259) (by decide +kernel), List.mem_of_getElem? (i := 260) (by decide +kernel)⟩
theorem lw_p11 : lw_okq (⟨"RumourSource$Spread", "arrivalBy", "(LRumourSource$Scene;I)I"⟩, 8) := ⟨⟨by decide +kernel, by decide +kernel⟩, List.mem_of_getElem? (i := 65) (by decide +kernel), List.mem_of_getElem? (i := 263) (by decide +kernel), List.mem_of_getElem? (i := 264) (by decide +kernel)⟩
theorem lw_p12 : lw_okq (⟨"RumourSource", "isOutcome", "(I)Z"⟩, 6) := ⟨⟨by decide +kernel, by decide +kernel⟩, List.mem_of_getElem? (i := 8) (by decide +kernel), List.mem_of_getElem? (i := 275) (by decide +kernel), List.mem_of_getElem? (i := 276) (by decide +kernel)⟩
theorem lw_p13 : lw_okq (⟨"RumourSource$Spread", "wantAsSeen", "(LRumourSource$Scene;)V"⟩, 8) := ⟨⟨by decide +kernel, by decide +kernel⟩, List.mem_of_getElem? (i := 65) (by decide +kernel), List.mem_of_getElem? (i := 288) (by decide +kernel), List.mem_of_getElem? (i := 289) (by decide +kernel)⟩
theorem lw_p14 : lw_okq (⟨"RumourSource$Spread", "isAsWanted", "()Z"⟩, 8) := ⟨⟨by decide +kernel, by decide +kernel⟩, List.mem_of_getElem? (i := 65) (by decide +kernel), List.mem_of_getElem? (i := 292) (by decide +kernel), List.mem_of_getElem? (i := 293) (by decide +kernel)⟩
theorem lw_p15 : lw_okq (⟨"RumourSource$Spread", "canBeAsWanted", "(I)Z"⟩, 8) := ⟨⟨by decide +kernel, by decide +kernel⟩, List.mem_of_getElem? (i := 65) (by decide +kernel), List.mem_of_getElem? (i := 296) (by decide +kernel), List.mem_of_getElem? (i := 297) (by decide +kernel)⟩
def lw_privs_1 : List (MethodName × Nat) := [(⟨"RumourSource$Scene", "find", "(II)I"⟩, 8), (⟨"RumourSource$Scene", "isFull", "()Z"⟩, 8), (⟨"RumourSource", "remember", "()V"⟩, 6), (⟨"RumourSource$Scene", "copyFrom", "(LRumourSource$Scene;)V"⟩, 8), (⟨"RumourSource$Scene", "put", "(IIII)I"⟩, 8), (⟨"RumourSource$Scene", "hasEdge", "(I)Z"⟩, 8), (⟨"RumourSource$Scene", "drop", "(I)V"⟩, 8), (⟨"RumourSource", "replaceSeen", "(II)I"⟩, 6), (⟨"RumourSource", "drawOutcome", "(I)I"⟩, 6), (⟨"RumourSource$Spread", "follow", "(LRumourSource$Scene;II)V"⟩, 8), (⟨"RumourSource$Spread", "begin", "(I)V"⟩, 8), (⟨"RumourSource$Spread", "arrivalBy", "(LRumourSource$Scene;I)I"⟩, 8), (⟨"RumourSource", "isOutcome", "(I)Z"⟩, 6), (⟨"RumourSource$Spread", "wantAsSeen", "(LRumourSource$Scene;)V"⟩, 8), (⟨"RumourSource$Spread", "isAsWanted", "()Z"⟩, 8), (⟨"RumourSource$Spread", "canBeAsWanted", "(I)Z"⟩, 8)]
theorem lw_r1 : ∀ q ∈ lw_privs_1, lw_okq q := List.forall_mem_cons.mpr ⟨lw_p0, List.forall_mem_cons.mpr ⟨lw_p1, List.forall_mem_cons.mpr ⟨lw_p2, List.forall_mem_cons.mpr ⟨lw_p3, List.forall_mem_cons.mpr ⟨lw_p4, List.forall_mem_cons.mpr ⟨lw_p5, List.forall_mem_cons.mpr ⟨lw_p6, List.forall_mem_cons.mpr ⟨lw_p7, List.forall_mem_cons.mpr ⟨lw_p8, List.forall_mem_cons.mpr ⟨lw_p9, List.forall_mem_cons.mpr ⟨lw_p10, List.forall_mem_cons.mpr ⟨lw_p11, List.forall_mem_cons.mpr ⟨lw_p12, List.forall_mem_cons.mpr ⟨lw_p13, List.forall_mem_cons.mpr ⟨lw_p14, List.forall_mem_cons.mpr ⟨lw_p15, fun _ h => absurd h List.not_mem_nil⟩⟩⟩⟩⟩⟩⟩⟩⟩⟩⟩⟩⟩⟩⟩⟩
theorem lw_p16 : lw_okq (⟨"RumourSource$Spread", "wantOnly", "(II)V"⟩, 8) := ⟨⟨by decide +kernel, by decide +kernel⟩, List.mem_of_getElem? (i := 65) (by decide +kernel), List.mem_of_getElem? (i := 305) (by decide +kernel), List.mem_of_getElem? (i := 306) (by decide +kernel)⟩
theorem lw_p17 : lw_okq (⟨"RumourSource$Spread", "wantNothing", "()V"⟩, 8) := ⟨⟨by decide +kernel, by decide +kernel⟩, List.mem_of_getElem? (i := 65) (by decide +kernel), List.mem_of_getElem? (i := 309) (by decide +kernel), List.mem_of_getElem? (i := 310) (by decide +kernel)⟩
theorem lw_p18 : lw_okq (⟨"RumourSource$Spread", "search", "(LRumourSource$Scene;IZ)V"⟩, 8) := ⟨⟨by decide +kernel, by decide +kernel⟩, List.mem_of_getElem? (i := 65) (by decide +kernel), List.mem_of_getElem? (i := 313) (by decide +kernel), List.mem_of_getElem? (i := 314) (by decide +kernel)⟩
theorem lw_p19 : lw_okq (⟨"RumourSource$Spread", "nextEdge", "(LRumourSource$Scene;I)I"⟩, 8) := ⟨⟨by decide +kernel, by decide +kernel⟩, List.mem_of_getElem? (i := 65) (by decide +kernel), List.mem_of_getElem? (i := 320) (by decide +kernel), List.mem_of_getElem? (i := 321) (by decide +kernel)⟩
theorem lw_p20 : lw_okq (⟨"RumourSource$Spread", "collect", "(LRumourSource$Scene;IIJ)V"⟩, 8) := ⟨⟨by decide +kernel, by decide +kernel⟩, List.mem_of_getElem? (i := 65) (by decide +kernel), List.mem_of_getElem? (i := 324) (by decide +kernel), List.mem_of_getElem? (i := 325) (by decide +kernel)⟩
theorem lw_p21 : lw_okq (⟨"RumourSource$Spread", "keepBest", "(JI)V"⟩, 8) := ⟨⟨by decide +kernel, by decide +kernel⟩, List.mem_of_getElem? (i := 65) (by decide +kernel), List.mem_of_getElem? (i := 329) (by decide +kernel), List.mem_of_getElem? (i := 330) (by decide +kernel)⟩
theorem lw_p22 : lw_okq (⟨"RumourSource", "likelihoodOf", "(I)J"⟩, 6) := ⟨⟨by decide +kernel, by decide +kernel⟩, List.mem_of_getElem? (i := 8) (by decide +kernel), List.mem_of_getElem? (i := 342) (by decide +kernel), List.mem_of_getElem? (i := 343) (by decide +kernel)⟩
theorem lw_p23 : lw_okq (⟨"RumourSource", "countIfPossible", "(I)I"⟩, 6) := ⟨⟨by decide +kernel, by decide +kernel⟩, List.mem_of_getElem? (i := 8) (by decide +kernel), List.mem_of_getElem? (i := 350) (by decide +kernel), List.mem_of_getElem? (i := 351) (by decide +kernel)⟩
theorem lw_p24 : lw_okq (⟨"RumourSource", "findLikelihoods", "()V"⟩, 6) := ⟨⟨by decide +kernel, by decide +kernel⟩, List.mem_of_getElem? (i := 8) (by decide +kernel), List.mem_of_getElem? (i := 358) (by decide +kernel), List.mem_of_getElem? (i := 359) (by decide +kernel)⟩
theorem lw_p25 : lw_okq (⟨"RumourSource", "rankOf", "(I)I"⟩, 6) := ⟨⟨by decide +kernel, by decide +kernel⟩, List.mem_of_getElem? (i := 8) (by decide +kernel), List.mem_of_getElem? (i := 362) (by decide +kernel), List.mem_of_getElem? (i := 363) (by decide +kernel)⟩
theorem lw_p26 : lw_okq (⟨"RumourSource$Text", "read", "(LRumourSource$Scene;)I"⟩, 5) := ⟨⟨by decide +kernel, by decide +kernel⟩, List.mem_of_getElem? (i := 102) (by decide +kernel), List.mem_of_getElem? (i := 410) (by decide +kernel), List.mem_of_getElem? (i := 411) (by decide +kernel)⟩
theorem lw_p27 : lw_okq (⟨"RumourSource$Text", "readItem", "()Z"⟩, 5) := ⟨⟨by decide +kernel, by decide +kernel⟩, List.mem_of_getElem? (i := 102) (by decide +kernel), List.mem_of_getElem? (i := 415) (by decide +kernel), List.mem_of_getElem? (i := 416) (by decide +kernel)⟩
theorem lw_p28 : lw_okq (⟨"RumourSource$Text", "nextNode", "()I"⟩, 5) := ⟨⟨by decide +kernel, by decide +kernel⟩, List.mem_of_getElem? (i := 102) (by decide +kernel), List.mem_of_getElem? (i := 419) (by decide +kernel), List.mem_of_getElem? (i := 420) (by decide +kernel)⟩
theorem lw_p29 : lw_okq (⟨"RumourSource$Text", "nextByte", "()I"⟩, 5) := ⟨⟨by decide +kernel, by decide +kernel⟩, List.mem_of_getElem? (i := 102) (by decide +kernel), List.mem_of_getElem? (i := 423) (by decide +kernel), List.mem_of_getElem? (i := 424) (by decide +kernel)⟩
theorem lw_p30 : lw_okq (⟨"RumourSource$Text", "refuse", "()Z"⟩, 5) := ⟨⟨by decide +kernel, by decide +kernel⟩, List.mem_of_getElem? (i := 102) (by decide +kernel), List.mem_of_getElem? (i := 428) (by decide +kernel), List.mem_of_getElem? (i := 429) (by decide +kernel)⟩
theorem lw_p31 : lw_okq (⟨"RumourSource$Text", "readEdge", "(I)Z"⟩, 5) := ⟨⟨by decide +kernel, by decide +kernel⟩, List.mem_of_getElem? (i := 102) (by decide +kernel), List.mem_of_getElem? (i := 432) (by decide +kernel), List.mem_of_getElem? (i := 433) (by decide +kernel)⟩
def lw_privs_2 : List (MethodName × Nat) := [(⟨"RumourSource$Spread", "wantOnly", "(II)V"⟩, 8), (⟨"RumourSource$Spread", "wantNothing", "()V"⟩, 8), (⟨"RumourSource$Spread", "search", "(LRumourSource$Scene;IZ)V"⟩, 8), (⟨"RumourSource$Spread", "nextEdge", "(LRumourSource$Scene;I)I"⟩, 8), (⟨"RumourSource$Spread", "collect", "(LRumourSource$Scene;IIJ)V"⟩, 8), (⟨"RumourSource$Spread", "keepBest", "(JI)V"⟩, 8), (⟨"RumourSource", "likelihoodOf", "(I)J"⟩, 6), (⟨"RumourSource", "countIfPossible", "(I)I"⟩, 6), (⟨"RumourSource", "findLikelihoods", "()V"⟩, 6), (⟨"RumourSource", "rankOf", "(I)I"⟩, 6), (⟨"RumourSource$Text", "read", "(LRumourSource$Scene;)I"⟩, 5), (⟨"RumourSource$Text", "readItem", "()Z"⟩, 5), (⟨"RumourSource$Text", "nextNode", "()I"⟩, 5), (⟨"RumourSource$Text", "nextByte", "()I"⟩, 5), (⟨"RumourSource$Text", "refuse", "()Z"⟩, 5), (⟨"RumourSource$Text", "readEdge", "(I)Z"⟩, 5)]
theorem lw_r2 : ∀ q ∈ lw_privs_2, lw_okq q := List.forall_mem_cons.mpr ⟨lw_p16, List.forall_mem_cons.mpr ⟨lw_p17, List.forall_mem_cons.mpr ⟨lw_p18, List.forall_mem_cons.mpr ⟨lw_p19, List.forall_mem_cons.mpr ⟨lw_p20, List.forall_mem_cons.mpr ⟨lw_p21, List.forall_mem_cons.mpr ⟨lw_p22, List.forall_mem_cons.mpr ⟨lw_p23, List.forall_mem_cons.mpr ⟨lw_p24, List.forall_mem_cons.mpr ⟨lw_p25, List.forall_mem_cons.mpr ⟨lw_p26, List.forall_mem_cons.mpr ⟨lw_p27, List.forall_mem_cons.mpr ⟨lw_p28, List.forall_mem_cons.mpr ⟨lw_p29, List.forall_mem_cons.mpr ⟨lw_p30, List.forall_mem_cons.mpr ⟨lw_p31, fun _ h => absurd h List.not_mem_nil⟩⟩⟩⟩⟩⟩⟩⟩⟩⟩⟩⟩⟩⟩⟩⟩
theorem lw_p32 : lw_okq (⟨"RumourSource$Text", "accept", "(I)Z"⟩, 5) := ⟨⟨by decide +kernel, by decide +kernel⟩, List.mem_of_getElem? (i := 102) (by decide +kernel), List.mem_of_getElem? (i := 438) (by decide +kernel), List.mem_of_getElem? (i := 439) (by decide +kernel)⟩
theorem lw_p33 : lw_okq (⟨"RumourSource$Text", "readNumber", "(II)I"⟩, 5) := ⟨⟨by decide +kernel, by decide +kernel⟩, List.mem_of_getElem? (i := 102) (by decide +kernel), List.mem_of_getElem? (i := 442) (by decide +kernel), List.mem_of_getElem? (i := 443) (by decide +kernel)⟩
theorem lw_p34 : lw_okq (⟨"RumourSource$Text", "readObservation", "(I)Z"⟩, 5) := ⟨⟨by decide +kernel, by decide +kernel⟩, List.mem_of_getElem? (i := 102) (by decide +kernel), List.mem_of_getElem? (i := 447) (by decide +kernel), List.mem_of_getElem? (i := 448) (by decide +kernel)⟩
theorem lw_p35 : lw_okq (⟨"RumourSource$Text", "readSemicolon", "()Z"⟩, 5) := ⟨⟨by decide +kernel, by decide +kernel⟩, List.mem_of_getElem? (i := 102) (by decide +kernel), List.mem_of_getElem? (i := 451) (by decide +kernel), List.mem_of_getElem? (i := 452) (by decide +kernel)⟩
theorem lw_p36 : lw_okq (⟨"RumourSourceModel", "between", "(II)I"⟩, 12) := ⟨⟨by decide +kernel, by decide +kernel⟩, List.mem_of_getElem? (i := 465) (by decide +kernel), List.mem_of_getElem? (i := 519) (by decide +kernel), List.mem_of_getElem? (i := 520) (by decide +kernel)⟩
theorem lw_p37 : lw_okq (⟨"RumourSourceModel", "of", "(II)I"⟩, 12) := ⟨⟨by decide +kernel, by decide +kernel⟩, List.mem_of_getElem? (i := 465) (by decide +kernel), List.mem_of_getElem? (i := 523) (by decide +kernel), List.mem_of_getElem? (i := 524) (by decide +kernel)⟩
theorem lw_p38 : lw_okq (⟨"RumourSourceModel", "saves", "()V"⟩, 12) := ⟨⟨by decide +kernel, by decide +kernel⟩, List.mem_of_getElem? (i := 465) (by decide +kernel), List.mem_of_getElem? (i := 527) (by decide +kernel), List.mem_of_getElem? (i := 528) (by decide +kernel)⟩
theorem lw_p39 : lw_okq (⟨"RumourSourceModel", "copies", "(II)V"⟩, 12) := ⟨⟨by decide +kernel, by decide +kernel⟩, List.mem_of_getElem? (i := 465) (by decide +kernel), List.mem_of_getElem? (i := 531) (by decide +kernel), List.mem_of_getElem? (i := 532) (by decide +kernel)⟩
theorem lw_p40 : lw_okq (⟨"RumourSourceModel", "lays", "(IIIII)V"⟩, 12) := ⟨⟨by decide +kernel, by decide +kernel⟩, List.mem_of_getElem? (i := 465) (by decide +kernel), List.mem_of_getElem? (i := 535) (by decide +kernel), List.mem_of_getElem? (i := 536) (by decide +kernel)⟩
theorem lw_p41 : lw_okq (⟨"RumourSourceModel", "isEdge", "(I)Z"⟩, 12) := ⟨⟨by decide +kernel, by decide +kernel⟩, List.mem_of_getElem? (i := 465) (by decide +kernel), List.mem_of_getElem? (i := 543) (by decide +kernel), List.mem_of_getElem? (i := 544) (by decide +kernel)⟩
theorem lw_p42 : lw_okq (⟨"RumourSourceModel", "becomes", "(II)I"⟩, 12) := ⟨⟨by decide +kernel, by decide +kernel⟩, List.mem_of_getElem? (i := 465) (by decide +kernel), List.mem_of_getElem? (i := 571) (by decide +kernel), List.mem_of_getElem? (i := 572) (by decide +kernel)⟩
theorem lw_p43 : lw_okq (⟨"RumourSourceModel", "hears", "(II)V"⟩, 12) := ⟨⟨by decide +kernel, by decide +kernel⟩, List.mem_of_getElem? (i := 465) (by decide +kernel), List.mem_of_getElem? (i := 595) (by decide +kernel), List.mem_of_getElem? (i := 596) (by decide +kernel)⟩
theorem lw_p44 : lw_okq (⟨"RumourSourceModel", "isOutcome", "(I)Z"⟩, 12) := ⟨⟨by decide +kernel, by decide +kernel⟩, List.mem_of_getElem? (i := 465) (by decide +kernel), List.mem_of_getElem? (i := 606) (by decide +kernel), List.mem_of_getElem? (i := 607) (by decide +kernel)⟩
theorem lw_p45 : lw_okq (⟨"RumourSourceModel", "weightOf", "(I)J"⟩, 12) := ⟨⟨by decide +kernel, by decide +kernel⟩, List.mem_of_getElem? (i := 465) (by decide +kernel), List.mem_of_getElem? (i := 614) (by decide +kernel), List.mem_of_getElem? (i := 615) (by decide +kernel)⟩
theorem lw_p46 : lw_okq (⟨"RumourSourceModel", "isFit", "()Z"⟩, 12) := ⟨⟨by decide +kernel, by decide +kernel⟩, List.mem_of_getElem? (i := 465) (by decide +kernel), List.mem_of_getElem? (i := 623) (by decide +kernel), List.mem_of_getElem? (i := 624) (by decide +kernel)⟩
theorem lw_p47 : lw_okq (⟨"RumourSourceModel", "likelihoodOf", "(IZ)J"⟩, 12) := ⟨⟨by decide +kernel, by decide +kernel⟩, List.mem_of_getElem? (i := 465) (by decide +kernel), List.mem_of_getElem? (i := 640) (by decide +kernel), List.mem_of_getElem? (i := 641) (by decide +kernel)⟩
def lw_privs_3 : List (MethodName × Nat) := [(⟨"RumourSource$Text", "accept", "(I)Z"⟩, 5), (⟨"RumourSource$Text", "readNumber", "(II)I"⟩, 5), (⟨"RumourSource$Text", "readObservation", "(I)Z"⟩, 5), (⟨"RumourSource$Text", "readSemicolon", "()Z"⟩, 5), (⟨"RumourSourceModel", "between", "(II)I"⟩, 12), (⟨"RumourSourceModel", "of", "(II)I"⟩, 12), (⟨"RumourSourceModel", "saves", "()V"⟩, 12), (⟨"RumourSourceModel", "copies", "(II)V"⟩, 12), (⟨"RumourSourceModel", "lays", "(IIIII)V"⟩, 12), (⟨"RumourSourceModel", "isEdge", "(I)Z"⟩, 12), (⟨"RumourSourceModel", "becomes", "(II)I"⟩, 12), (⟨"RumourSourceModel", "hears", "(II)V"⟩, 12), (⟨"RumourSourceModel", "isOutcome", "(I)Z"⟩, 12), (⟨"RumourSourceModel", "weightOf", "(I)J"⟩, 12), (⟨"RumourSourceModel", "isFit", "()Z"⟩, 12), (⟨"RumourSourceModel", "likelihoodOf", "(IZ)J"⟩, 12)]
theorem lw_r3 : ∀ q ∈ lw_privs_3, lw_okq q := List.forall_mem_cons.mpr ⟨lw_p32, List.forall_mem_cons.mpr ⟨lw_p33, List.forall_mem_cons.mpr ⟨lw_p34, List.forall_mem_cons.mpr ⟨lw_p35, List.forall_mem_cons.mpr ⟨lw_p36, List.forall_mem_cons.mpr ⟨lw_p37, List.forall_mem_cons.mpr ⟨lw_p38, List.forall_mem_cons.mpr ⟨lw_p39, List.forall_mem_cons.mpr ⟨lw_p40, List.forall_mem_cons.mpr ⟨lw_p41, List.forall_mem_cons.mpr ⟨lw_p42, List.forall_mem_cons.mpr ⟨lw_p43, List.forall_mem_cons.mpr ⟨lw_p44, List.forall_mem_cons.mpr ⟨lw_p45, List.forall_mem_cons.mpr ⟨lw_p46, List.forall_mem_cons.mpr ⟨lw_p47, fun _ h => absurd h List.not_mem_nil⟩⟩⟩⟩⟩⟩⟩⟩⟩⟩⟩⟩⟩⟩⟩⟩
theorem lw_p48 : lw_okq (⟨"RumourSourceModel", "findsSingle", "()V"⟩, 12) := ⟨⟨by decide +kernel, by decide +kernel⟩, List.mem_of_getElem? (i := 465) (by decide +kernel), List.mem_of_getElem? (i := 648) (by decide +kernel), List.mem_of_getElem? (i := 649) (by decide +kernel)⟩
theorem lw_p49 : lw_okq (⟨"RumourSourceModel", "readsAll", "(Z)Z"⟩, 12) := ⟨⟨by decide +kernel, by decide +kernel⟩, List.mem_of_getElem? (i := 465) (by decide +kernel), List.mem_of_getElem? (i := 693) (by decide +kernel), List.mem_of_getElem? (i := 694) (by decide +kernel)⟩
theorem lw_p50 : lw_okq (⟨"RumourSourceModel", "readsItem", "(Z)Z"⟩, 12) := ⟨⟨by decide +kernel, by decide +kernel⟩, List.mem_of_getElem? (i := 465) (by decide +kernel), List.mem_of_getElem? (i := 697) (by decide +kernel), List.mem_of_getElem? (i := 698) (by decide +kernel)⟩
theorem lw_p51 : lw_okq (⟨"RumourSourceModel", "here", "()I"⟩, 12) := ⟨⟨by decide +kernel, by decide +kernel⟩, List.mem_of_getElem? (i := 465) (by decide +kernel), List.mem_of_getElem? (i := 701) (by decide +kernel), List.mem_of_getElem? (i := 702) (by decide +kernel)⟩
theorem lw_p52 : lw_okq (⟨"RumourSourceModel", "sign", "(I)Z"⟩, 12) := ⟨⟨by decide +kernel, by decide +kernel⟩, List.mem_of_getElem? (i := 465) (by decide +kernel), List.mem_of_getElem? (i := 705) (by decide +kernel), List.mem_of_getElem? (i := 706) (by decide +kernel)⟩
theorem lw_p53 : lw_okq (⟨"RumourSourceModel", "readsEdge", "(IZ)Z"⟩, 12) := ⟨⟨by decide +kernel, by decide +kernel⟩, List.mem_of_getElem? (i := 465) (by decide +kernel), List.mem_of_getElem? (i := 709) (by decide +kernel), List.mem_of_getElem? (i := 710) (by decide +kernel)⟩
theorem lw_p54 : lw_okq (⟨"RumourSourceModel", "number", "(II)I"⟩, 12) := ⟨⟨by decide +kernel, by decide +kernel⟩, List.mem_of_getElem? (i := 465) (by decide +kernel), List.mem_of_getElem? (i := 713) (by decide +kernel), List.mem_of_getElem? (i := 714) (by decide +kernel)⟩
theorem lw_p55 : lw_okq (⟨"RumourSourceModel", "note", "(I)V"⟩, 12) := ⟨⟨by decide +kernel, by decide +kernel⟩, List.mem_of_getElem? (i := 465) (by decide +kernel), List.mem_of_getElem? (i := 726) (by decide +kernel), List.mem_of_getElem? (i := 727) (by decide +kernel)⟩
def lw_privs_4 : List (MethodName × Nat) := [(⟨"RumourSourceModel", "findsSingle", "()V"⟩, 12), (⟨"RumourSourceModel", "readsAll", "(Z)Z"⟩, 12), (⟨"RumourSourceModel", "readsItem", "(Z)Z"⟩, 12), (⟨"RumourSourceModel", "here", "()I"⟩, 12), (⟨"RumourSourceModel", "sign", "(I)Z"⟩, 12), (⟨"RumourSourceModel", "readsEdge", "(IZ)Z"⟩, 12), (⟨"RumourSourceModel", "number", "(II)I"⟩, 12), (⟨"RumourSourceModel", "note", "(I)V"⟩, 12)]
theorem lw_r4 : ∀ q ∈ lw_privs_4, lw_okq q := List.forall_mem_cons.mpr ⟨lw_p48, List.forall_mem_cons.mpr ⟨lw_p49, List.forall_mem_cons.mpr ⟨lw_p50, List.forall_mem_cons.mpr ⟨lw_p51, List.forall_mem_cons.mpr ⟨lw_p52, List.forall_mem_cons.mpr ⟨lw_p53, List.forall_mem_cons.mpr ⟨lw_p54, List.forall_mem_cons.mpr ⟨lw_p55, fun _ h => absurd h List.not_mem_nil⟩⟩⟩⟩⟩⟩⟩⟩
def lw_privs : List (MethodName × Nat) := lw_privs_1 ++ (lw_privs_2 ++ (lw_privs_3 ++ (lw_privs_4)))
def lw_tbl : List Cond := k2_sels lw_privs ++ tables_1
theorem lw_privs_ok : ∀ q ∈ lw_privs, lw_okq q := by
  show ∀ q ∈ lw_privs_1 ++ (lw_privs_2 ++ (lw_privs_3 ++ (lw_privs_4))), lw_okq q
  exact List.forall_mem_append.mpr ⟨lw_r1, List.forall_mem_append.mpr ⟨lw_r2, List.forall_mem_append.mpr ⟨lw_r3, lw_r4⟩⟩⟩
end
section
def RX0 : String := "RumourSource$Scene"
def TX0 : u_T := fun k => match k with
  | 0 => ("RumourSource$Scene", "from", "[I", true)
  | 1 => ("RumourSource$Scene", "to", "[I", true)
  | 2 => ("RumourSource$Scene", "trust", "[I", true)
  | 3 => ("RumourSource$Scene", "delay", "[I", true)
  | 4 => ("RumourSource$Scene", "count", "I", false)
  | 5 => ("RumourSource$Scene", "horizon", "I", false)
  | 6 => ("RumourSource$Scene", "seen", "[I", true)
  | _ => ("RumourSource$Scene", "sensors", "I", false)
def tyX0 : Nat → FieldType := fun k => match k with
  | 0 => .array .int
  | 1 => .array .int
  | 2 => .array .int
  | 3 => .array .int
  | 4 => .int
  | 5 => .int
  | 6 => .array .int
  | _ => .int
abbrev wsX00 : List Cond := u_ws RX0 TX0 8
theorem nmX0 : ∀ a, a < 8 → ∀ b, b < 8 → a ≠ b → (TX0 a).2.1 ≠ (TX0 b).2.1 := by decide +kernel
theorem tyX0_ok : ∀ k, k < 8 → parseFieldDescriptor (TX0 k).2.2.1 = some (tyX0 k) := by decide +kernel
abbrev cX0_init : ByteArray := prog_2_method_1_code
def yX0_init : MethodName := ⟨RX0, "<init>", "()V"⟩
abbrev cX0_copyFrom : ByteArray := prog_2_method_2_code
def yX0_copyFrom : MethodName := ⟨RX0, "copyFrom", "(LRumourSource$Scene;)V"⟩
abbrev cX0_hasEdge : ByteArray := prog_2_method_3_code
def yX0_hasEdge : MethodName := ⟨RX0, "hasEdge", "(I)Z"⟩
abbrev cX0_isFull : ByteArray := prog_2_method_4_code
def yX0_isFull : MethodName := ⟨RX0, "isFull", "()Z"⟩
abbrev cX0_find : ByteArray := prog_2_method_5_code
def yX0_find : MethodName := ⟨RX0, "find", "(II)I"⟩
abbrev cX0_put : ByteArray := prog_2_method_6_code
def yX0_put : MethodName := ⟨RX0, "put", "(IIII)I"⟩
abbrev cX0_drop : ByteArray := prog_2_method_7_code
def yX0_drop : MethodName := ⟨RX0, "drop", "(I)V"⟩
def RX1 : String := "RumourSource$Spread"
def TX1 : u_T := fun k => match k with
  | 0 => ("RumourSource$Spread", "times", "[I", true)
  | 1 => ("RumourSource$Spread", "wanted", "[I", true)
  | 2 => ("RumourSource$Spread", "total", "J", false)
  | 3 => ("RumourSource$Spread", "totalHeard", "J", false)
  | 4 => ("RumourSource$Spread", "bestWeight", "J", false)
  | 5 => ("RumourSource$Spread", "bestOutcome", "I", false)
  | 6 => ("RumourSource$Spread", "met", "[J", true)
  | _ => ("RumourSource$Spread", "anyWillDo", "Z", false)
def tyX1 : Nat → FieldType := fun k => match k with
  | 0 => .array .int
  | 1 => .array .int
  | 2 => .long
  | 3 => .long
  | 4 => .long
  | 5 => .int
  | 6 => .array .long
  | _ => .boolean
abbrev wsX10 : List Cond := u_ws RX1 TX1 8
theorem nmX1 : ∀ a, a < 8 → ∀ b, b < 8 → a ≠ b → (TX1 a).2.1 ≠ (TX1 b).2.1 := by decide +kernel
theorem tyX1_ok : ∀ k, k < 8 → parseFieldDescriptor (TX1 k).2.2.1 = some (tyX1 k) := by decide +kernel
abbrev cX1_init : ByteArray := prog_3_method_1_code
def yX1_init : MethodName := ⟨RX1, "<init>", "()V"⟩
abbrev cX1_wantNothing : ByteArray := prog_3_method_2_code
def yX1_wantNothing : MethodName := ⟨RX1, "wantNothing", "()V"⟩
abbrev cX1_wantOnly : ByteArray := prog_3_method_3_code
def yX1_wantOnly : MethodName := ⟨RX1, "wantOnly", "(II)V"⟩
abbrev cX1_wantAsSeen : ByteArray := prog_3_method_4_code
def yX1_wantAsSeen : MethodName := ⟨RX1, "wantAsSeen", "(LRumourSource$Scene;)V"⟩
abbrev cX1_begin : ByteArray := prog_3_method_5_code
def yX1_begin : MethodName := ⟨RX1, "begin", "(I)V"⟩
abbrev cX1_follow : ByteArray := prog_3_method_6_code
def yX1_follow : MethodName := ⟨RX1, "follow", "(LRumourSource$Scene;II)V"⟩
abbrev cX1_arrivalBy : ByteArray := prog_3_method_7_code
def yX1_arrivalBy : MethodName := ⟨RX1, "arrivalBy", "(LRumourSource$Scene;I)I"⟩
abbrev cX1_isAsWanted : ByteArray := prog_3_method_8_code
def yX1_isAsWanted : MethodName := ⟨RX1, "isAsWanted", "()Z"⟩
abbrev cX1_canBeAsWanted : ByteArray := prog_3_method_9_code
def yX1_canBeAsWanted : MethodName := ⟨RX1, "canBeAsWanted", "(I)Z"⟩
abbrev cX1_search : ByteArray := prog_3_method_10_code
def yX1_search : MethodName := ⟨RX1, "search", "(LRumourSource$Scene;IZ)V"⟩
abbrev cX1_decide : ByteArray := prog_3_method_11_code
def yX1_decide : MethodName := ⟨RX1, "decide", "(LRumourSource$Spread;LRumourSource$Scene;IIIJ)V"⟩
abbrev cX1_nextEdge : ByteArray := prog_3_method_12_code
def yX1_nextEdge : MethodName := ⟨RX1, "nextEdge", "(LRumourSource$Scene;I)I"⟩
abbrev cX1_collect : ByteArray := prog_3_method_13_code
def yX1_collect : MethodName := ⟨RX1, "collect", "(LRumourSource$Scene;IIJ)V"⟩
abbrev cX1_keepBest : ByteArray := prog_3_method_14_code
def yX1_keepBest : MethodName := ⟨RX1, "keepBest", "(JI)V"⟩
def RX2 : String := "RumourSource$Text"
def TX2 : u_T := fun k => match k with
  | 0 => ("RumourSource$Text", "bytes", "[I", true)
  | 1 => ("RumourSource$Text", "size", "I", false)
  | 2 => ("RumourSource$Text", "draft", "LRumourSource$Scene;", true)
  | 3 => ("RumourSource$Text", "at", "I", false)
  | _ => ("RumourSource$Text", "fault", "I", false)
def tyX2 : Nat → FieldType := fun k => match k with
  | 0 => .array .int
  | 1 => .int
  | 2 => .object "RumourSource$Scene"
  | 3 => .int
  | _ => .int
abbrev wsX20 : List Cond := u_ws RX2 TX2 5
theorem nmX2 : ∀ a, a < 5 → ∀ b, b < 5 → a ≠ b → (TX2 a).2.1 ≠ (TX2 b).2.1 := by decide +kernel
theorem tyX2_ok : ∀ k, k < 5 → parseFieldDescriptor (TX2 k).2.2.1 = some (tyX2 k) := by decide +kernel
abbrev cX2_init : ByteArray := prog_4_method_1_code
def yX2_init : MethodName := ⟨RX2, "<init>", "()V"⟩
abbrev cX2_read : ByteArray := prog_4_method_2_code
def yX2_read : MethodName := ⟨RX2, "read", "(LRumourSource$Scene;)I"⟩
abbrev cX2_readItem : ByteArray := prog_4_method_3_code
def yX2_readItem : MethodName := ⟨RX2, "readItem", "()Z"⟩
abbrev cX2_readSemicolon : ByteArray := prog_4_method_4_code
def yX2_readSemicolon : MethodName := ⟨RX2, "readSemicolon", "()Z"⟩
abbrev cX2_readEdge : ByteArray := prog_4_method_5_code
def yX2_readEdge : MethodName := ⟨RX2, "readEdge", "(I)Z"⟩
abbrev cX2_readObservation : ByteArray := prog_4_method_6_code
def yX2_readObservation : MethodName := ⟨RX2, "readObservation", "(I)Z"⟩
abbrev cX2_readNumber : ByteArray := prog_4_method_7_code
def yX2_readNumber : MethodName := ⟨RX2, "readNumber", "(II)I"⟩
abbrev cX2_nextByte : ByteArray := prog_4_method_8_code
def yX2_nextByte : MethodName := ⟨RX2, "nextByte", "()I"⟩
abbrev cX2_nextNode : ByteArray := prog_4_method_9_code
def yX2_nextNode : MethodName := ⟨RX2, "nextNode", "()I"⟩
abbrev cX2_accept : ByteArray := prog_4_method_10_code
def yX2_accept : MethodName := ⟨RX2, "accept", "(I)Z"⟩
abbrev cX2_refuse : ByteArray := prog_4_method_11_code
def yX2_refuse : MethodName := ⟨RX2, "refuse", "()Z"⟩
def RX3 : String := "RumourSource"
def TX3 : u_T := fun k => match k with
  | 0 => ("RumourSource", "now", "LRumourSource$Scene;", true)
  | 1 => ("RumourSource", "past", "[LRumourSource$Scene;", true)
  | 2 => ("RumourSource", "spread", "LRumourSource$Spread;", true)
  | 3 => ("RumourSource", "text", "LRumourSource$Text;", true)
  | 4 => ("RumourSource", "likelihoods", "[J", true)
  | _ => ("RumourSource", "kept", "I", false)
def tyX3 : Nat → FieldType := fun k => match k with
  | 0 => .object "RumourSource$Scene"
  | 1 => .array (.object "RumourSource$Scene")
  | 2 => .object "RumourSource$Spread"
  | 3 => .object "RumourSource$Text"
  | 4 => .array .long
  | _ => .int
abbrev wsX30 : List Cond := u_ws RX3 TX3 6
theorem nmX3 : ∀ a, a < 6 → ∀ b, b < 6 → a ≠ b → (TX3 a).2.1 ≠ (TX3 b).2.1 := by decide +kernel
theorem tyX3_ok : ∀ k, k < 6 → parseFieldDescriptor (TX3 k).2.2.1 = some (tyX3 k) := by decide +kernel
abbrev cX3_init : ByteArray := prog_1_method_1_code
def yX3_init : MethodName := ⟨RX3, "<init>", "()V"⟩
abbrev cX3_addEdge : ByteArray := prog_1_method_2_code
def yX3_addEdge : MethodName := ⟨RX3, "addEdge", "(IIII)I"⟩
abbrev cX3_setEdge : ByteArray := prog_1_method_3_code
def yX3_setEdge : MethodName := ⟨RX3, "setEdge", "(III)I"⟩
abbrev cX3_removeEdge : ByteArray := prog_1_method_4_code
def yX3_removeEdge : MethodName := ⟨RX3, "removeEdge", "(I)I"⟩
abbrev cX3_edges : ByteArray := prog_1_method_5_code
def yX3_edges : MethodName := ⟨RX3, "edges", "()I"⟩
abbrev cX3_edge : ByteArray := prog_1_method_6_code
def yX3_edge : MethodName := ⟨RX3, "edge", "(II)I"⟩
abbrev cX3_edgeBetween : ByteArray := prog_1_method_7_code
def yX3_edgeBetween : MethodName := ⟨RX3, "edgeBetween", "(II)I"⟩
abbrev cX3_setHorizon : ByteArray := prog_1_method_8_code
def yX3_setHorizon : MethodName := ⟨RX3, "setHorizon", "(I)I"⟩
abbrev cX3_observe : ByteArray := prog_1_method_9_code
def yX3_observe : MethodName := ⟨RX3, "observe", "(II)I"⟩
abbrev cX3_forget : ByteArray := prog_1_method_10_code
def yX3_forget : MethodName := ⟨RX3, "forget", "(I)I"⟩
abbrev cX3_observed : ByteArray := prog_1_method_11_code
def yX3_observed : MethodName := ⟨RX3, "observed", "(I)I"⟩
abbrev cX3_setSensors : ByteArray := prog_1_method_12_code
def yX3_setSensors : MethodName := ⟨RX3, "setSensors", "(I)I"⟩
abbrev cX3_simulate : ByteArray := prog_1_method_13_code
def yX3_simulate : MethodName := ⟨RX3, "simulate", "(II)I"⟩
abbrev cX3_timeBy : ByteArray := prog_1_method_14_code
def yX3_timeBy : MethodName := ⟨RX3, "timeBy", "(III)I"⟩
abbrev cX3_weight : ByteArray := prog_1_method_15_code
def yX3_weight : MethodName := ⟨RX3, "weight", "(I)J"⟩
abbrev cX3_fits : ByteArray := prog_1_method_16_code
def yX3_fits : MethodName := ⟨RX3, "fits", "(II)I"⟩
abbrev cX3_timeWeight : ByteArray := prog_1_method_17_code
def yX3_timeWeight : MethodName := ⟨RX3, "timeWeight", "(III)J"⟩
abbrev cX3_reach : ByteArray := prog_1_method_18_code
def yX3_reach : MethodName := ⟨RX3, "reach", "(I)J"⟩
abbrev cX3_likelihood : ByteArray := prog_1_method_19_code
def yX3_likelihood : MethodName := ⟨RX3, "likelihood", "(I)J"⟩
abbrev cX3_candidates : ByteArray := prog_1_method_20_code
def yX3_candidates : MethodName := ⟨RX3, "candidates", "()I"⟩
abbrev cX3_candidate : ByteArray := prog_1_method_21_code
def yX3_candidate : MethodName := ⟨RX3, "candidate", "(I)I"⟩
abbrev cX3_belief : ByteArray := prog_1_method_22_code
def yX3_belief : MethodName := ⟨RX3, "belief", "(I)I"⟩
abbrev cX3_decoy : ByteArray := prog_1_method_23_code
def yX3_decoy : MethodName := ⟨RX3, "decoy", "(I)I"⟩
abbrev cX3_possible : ByteArray := prog_1_method_24_code
def yX3_possible : MethodName := ⟨RX3, "possible", "()I"⟩
abbrev cX3_explanation : ByteArray := prog_1_method_25_code
def yX3_explanation : MethodName := ⟨RX3, "explanation", "(I)I"⟩
abbrev cX3_values : ByteArray := prog_1_method_26_code
def yX3_values : MethodName := ⟨RX3, "values", "(I)I"⟩
abbrev cX3_undo : ByteArray := prog_1_method_27_code
def yX3_undo : MethodName := ⟨RX3, "undo", "()I"⟩
abbrev cX3_type : ByteArray := prog_1_method_28_code
def yX3_type : MethodName := ⟨RX3, "type", "(I)I"⟩
abbrev cX3_clearText : ByteArray := prog_1_method_29_code
def yX3_clearText : MethodName := ⟨RX3, "clearText", "()I"⟩
abbrev cX3_textFault : ByteArray := prog_1_method_30_code
def yX3_textFault : MethodName := ⟨RX3, "textFault", "()I"⟩
abbrev cX3_load : ByteArray := prog_1_method_31_code
def yX3_load : MethodName := ⟨RX3, "load", "()I"⟩
abbrev cX3_digest : ByteArray := prog_1_method_32_code
def yX3_digest : MethodName := ⟨RX3, "digest", "()J"⟩
abbrev cX3_isNode : ByteArray := prog_1_method_33_code
def yX3_isNode : MethodName := ⟨RX3, "isNode", "(I)Z"⟩
abbrev cX3_isTrust : ByteArray := prog_1_method_34_code
def yX3_isTrust : MethodName := ⟨RX3, "isTrust", "(I)Z"⟩
abbrev cX3_isDelay : ByteArray := prog_1_method_35_code
def yX3_isDelay : MethodName := ⟨RX3, "isDelay", "(I)Z"⟩
abbrev cX3_isTime : ByteArray := prog_1_method_36_code
def yX3_isTime : MethodName := ⟨RX3, "isTime", "(I)Z"⟩
abbrev cX3_isTimeOrNone : ByteArray := prog_1_method_37_code
def yX3_isTimeOrNone : MethodName := ⟨RX3, "isTimeOrNone", "(I)Z"⟩
abbrev cX3_isStart : ByteArray := prog_1_method_38_code
def yX3_isStart : MethodName := ⟨RX3, "isStart", "(I)Z"⟩
abbrev cX3_isOutcome : ByteArray := prog_1_method_39_code
def yX3_isOutcome : MethodName := ⟨RX3, "isOutcome", "(I)Z"⟩
abbrev cX3_timeOrNone : ByteArray := prog_1_method_40_code
def yX3_timeOrNone : MethodName := ⟨RX3, "timeOrNone", "(I)I"⟩
abbrev cX3_remember : ByteArray := prog_1_method_41_code
def yX3_remember : MethodName := ⟨RX3, "remember", "()V"⟩
abbrev cX3_replaceSeen : ByteArray := prog_1_method_42_code
def yX3_replaceSeen : MethodName := ⟨RX3, "replaceSeen", "(II)I"⟩
abbrev cX3_drawOutcome : ByteArray := prog_1_method_43_code
def yX3_drawOutcome : MethodName := ⟨RX3, "drawOutcome", "(I)I"⟩
abbrev cX3_likelihoodOf : ByteArray := prog_1_method_44_code
def yX3_likelihoodOf : MethodName := ⟨RX3, "likelihoodOf", "(I)J"⟩
abbrev cX3_countIfPossible : ByteArray := prog_1_method_45_code
def yX3_countIfPossible : MethodName := ⟨RX3, "countIfPossible", "(I)I"⟩
abbrev cX3_findLikelihoods : ByteArray := prog_1_method_46_code
def yX3_findLikelihoods : MethodName := ⟨RX3, "findLikelihoods", "()V"⟩
abbrev cX3_rankOf : ByteArray := prog_1_method_47_code
def yX3_rankOf : MethodName := ⟨RX3, "rankOf", "(I)I"⟩
def RX4 : String := "RumourSourceModel"
def TX4 : u_T := fun k => match k with
  | 0 => ("RumourSourceModel", "row", "[I", true)
  | 1 => ("RumourSourceModel", "saved", "I", false)
  | 2 => ("RumourSourceModel", "known", "Z", false)
  | 3 => ("RumourSourceModel", "time", "[I", true)
  | 4 => ("RumourSourceModel", "single", "[J", true)
  | 5 => ("RumourSourceModel", "occurs", "[Z", true)
  | 6 => ("RumourSourceModel", "text", "[I", true)
  | 7 => ("RumourSourceModel", "length", "I", false)
  | 8 => ("RumourSourceModel", "at", "I", false)
  | 9 => ("RumourSourceModel", "linked", "[Z", true)
  | 10 => ("RumourSourceModel", "links", "I", false)
  | _ => ("RumourSourceModel", "h", "J", false)
def tyX4 : Nat → FieldType := fun k => match k with
  | 0 => .array .int
  | 1 => .int
  | 2 => .boolean
  | 3 => .array .int
  | 4 => .array .long
  | 5 => .array .boolean
  | 6 => .array .int
  | 7 => .int
  | 8 => .int
  | 9 => .array .boolean
  | 10 => .int
  | _ => .long
abbrev wsX40 : List Cond := u_ws RX4 TX4 12
theorem nmX4 : ∀ a, a < 12 → ∀ b, b < 12 → a ≠ b → (TX4 a).2.1 ≠ (TX4 b).2.1 := by decide +kernel
theorem tyX4_ok : ∀ k, k < 12 → parseFieldDescriptor (TX4 k).2.2.1 = some (tyX4 k) := by decide +kernel
abbrev cX4_init : ByteArray := prog_6_method_1_code
def yX4_init : MethodName := ⟨RX4, "<init>", "()V"⟩
abbrev cX4_in : ByteArray := prog_6_method_2_code
def yX4_in : MethodName := ⟨RX4, "in", "(III)Z"⟩
abbrev cX4_copies : ByteArray := prog_6_method_3_code
def yX4_copies : MethodName := ⟨RX4, "copies", "(II)V"⟩
abbrev cX4_saves : ByteArray := prog_6_method_4_code
def yX4_saves : MethodName := ⟨RX4, "saves", "()V"⟩
abbrev cX4_isNode : ByteArray := prog_6_method_5_code
def yX4_isNode : MethodName := ⟨RX4, "isNode", "(I)Z"⟩
abbrev cX4_isEdge : ByteArray := prog_6_method_6_code
def yX4_isEdge : MethodName := ⟨RX4, "isEdge", "(I)Z"⟩
abbrev cX4_of : ByteArray := prog_6_method_7_code
def yX4_of : MethodName := ⟨RX4, "of", "(II)I"⟩
abbrev cX4_between : ByteArray := prog_6_method_8_code
def yX4_between : MethodName := ⟨RX4, "between", "(II)I"⟩
abbrev cX4_lays : ByteArray := prog_6_method_9_code
def yX4_lays : MethodName := ⟨RX4, "lays", "(IIIII)V"⟩
abbrev cX4_addEdge : ByteArray := prog_6_method_10_code
def yX4_addEdge : MethodName := ⟨RX4, "addEdge", "(IIII)I"⟩
abbrev cX4_setEdge : ByteArray := prog_6_method_11_code
def yX4_setEdge : MethodName := ⟨RX4, "setEdge", "(III)I"⟩
abbrev cX4_removeEdge : ByteArray := prog_6_method_12_code
def yX4_removeEdge : MethodName := ⟨RX4, "removeEdge", "(I)I"⟩
abbrev cX4_edges : ByteArray := prog_6_method_13_code
def yX4_edges : MethodName := ⟨RX4, "edges", "()I"⟩
abbrev cX4_edge : ByteArray := prog_6_method_14_code
def yX4_edge : MethodName := ⟨RX4, "edge", "(II)I"⟩
abbrev cX4_edgeBetween : ByteArray := prog_6_method_15_code
def yX4_edgeBetween : MethodName := ⟨RX4, "edgeBetween", "(II)I"⟩
abbrev cX4_setHorizon : ByteArray := prog_6_method_16_code
def yX4_setHorizon : MethodName := ⟨RX4, "setHorizon", "(I)I"⟩
abbrev cX4_hears : ByteArray := prog_6_method_17_code
def yX4_hears : MethodName := ⟨RX4, "hears", "(II)V"⟩
abbrev cX4_told : ByteArray := prog_6_method_18_code
def yX4_told : MethodName := ⟨RX4, "told", "(I)I"⟩
abbrev cX4_isFit : ByteArray := prog_6_method_19_code
def yX4_isFit : MethodName := ⟨RX4, "isFit", "()Z"⟩
abbrev cX4_weightOf : ByteArray := prog_6_method_20_code
def yX4_weightOf : MethodName := ⟨RX4, "weightOf", "(I)J"⟩
abbrev cX4_isOutcome : ByteArray := prog_6_method_21_code
def yX4_isOutcome : MethodName := ⟨RX4, "isOutcome", "(I)Z"⟩
abbrev cX4_isStart : ByteArray := prog_6_method_22_code
def yX4_isStart : MethodName := ⟨RX4, "isStart", "(I)Z"⟩
abbrev cX4_becomes : ByteArray := prog_6_method_23_code
def yX4_becomes : MethodName := ⟨RX4, "becomes", "(II)I"⟩
abbrev cX4_observe : ByteArray := prog_6_method_24_code
def yX4_observe : MethodName := ⟨RX4, "observe", "(II)I"⟩
abbrev cX4_forget : ByteArray := prog_6_method_25_code
def yX4_forget : MethodName := ⟨RX4, "forget", "(I)I"⟩
abbrev cX4_observed : ByteArray := prog_6_method_26_code
def yX4_observed : MethodName := ⟨RX4, "observed", "(I)I"⟩
abbrev cX4_setSensors : ByteArray := prog_6_method_27_code
def yX4_setSensors : MethodName := ⟨RX4, "setSensors", "(I)I"⟩
abbrev cX4_simulate : ByteArray := prog_6_method_28_code
def yX4_simulate : MethodName := ⟨RX4, "simulate", "(II)I"⟩
abbrev cX4_timeBy : ByteArray := prog_6_method_29_code
def yX4_timeBy : MethodName := ⟨RX4, "timeBy", "(III)I"⟩
abbrev cX4_weight : ByteArray := prog_6_method_30_code
def yX4_weight : MethodName := ⟨RX4, "weight", "(I)J"⟩
abbrev cX4_fits : ByteArray := prog_6_method_31_code
def yX4_fits : MethodName := ⟨RX4, "fits", "(II)I"⟩
abbrev cX4_timeWeight : ByteArray := prog_6_method_32_code
def yX4_timeWeight : MethodName := ⟨RX4, "timeWeight", "(III)J"⟩
abbrev cX4_reach : ByteArray := prog_6_method_33_code
def yX4_reach : MethodName := ⟨RX4, "reach", "(I)J"⟩
abbrev cX4_likelihoodOf : ByteArray := prog_6_method_34_code
def yX4_likelihoodOf : MethodName := ⟨RX4, "likelihoodOf", "(IZ)J"⟩
abbrev cX4_findsSingle : ByteArray := prog_6_method_35_code
def yX4_findsSingle : MethodName := ⟨RX4, "findsSingle", "()V"⟩
abbrev cX4_likelihood : ByteArray := prog_6_method_36_code
def yX4_likelihood : MethodName := ⟨RX4, "likelihood", "(I)J"⟩
abbrev cX4_candidates : ByteArray := prog_6_method_37_code
def yX4_candidates : MethodName := ⟨RX4, "candidates", "()I"⟩
abbrev cX4_candidate : ByteArray := prog_6_method_38_code
def yX4_candidate : MethodName := ⟨RX4, "candidate", "(I)I"⟩
abbrev cX4_belief : ByteArray := prog_6_method_39_code
def yX4_belief : MethodName := ⟨RX4, "belief", "(I)I"⟩
abbrev cX4_decoy : ByteArray := prog_6_method_40_code
def yX4_decoy : MethodName := ⟨RX4, "decoy", "(I)I"⟩
abbrev cX4_possible : ByteArray := prog_6_method_41_code
def yX4_possible : MethodName := ⟨RX4, "possible", "()I"⟩
abbrev cX4_explanation : ByteArray := prog_6_method_42_code
def yX4_explanation : MethodName := ⟨RX4, "explanation", "(I)I"⟩
abbrev cX4_values : ByteArray := prog_6_method_43_code
def yX4_values : MethodName := ⟨RX4, "values", "(I)I"⟩
abbrev cX4_undo : ByteArray := prog_6_method_44_code
def yX4_undo : MethodName := ⟨RX4, "undo", "()I"⟩
abbrev cX4_type : ByteArray := prog_6_method_45_code
def yX4_type : MethodName := ⟨RX4, "type", "(I)I"⟩
abbrev cX4_clearText : ByteArray := prog_6_method_46_code
def yX4_clearText : MethodName := ⟨RX4, "clearText", "()I"⟩
abbrev cX4_here : ByteArray := prog_6_method_47_code
def yX4_here : MethodName := ⟨RX4, "here", "()I"⟩
abbrev cX4_sign : ByteArray := prog_6_method_48_code
def yX4_sign : MethodName := ⟨RX4, "sign", "(I)Z"⟩
abbrev cX4_number : ByteArray := prog_6_method_49_code
def yX4_number : MethodName := ⟨RX4, "number", "(II)I"⟩
abbrev cX4_readsEdge : ByteArray := prog_6_method_50_code
def yX4_readsEdge : MethodName := ⟨RX4, "readsEdge", "(IZ)Z"⟩
abbrev cX4_readsItem : ByteArray := prog_6_method_51_code
def yX4_readsItem : MethodName := ⟨RX4, "readsItem", "(Z)Z"⟩
abbrev cX4_readsAll : ByteArray := prog_6_method_52_code
def yX4_readsAll : MethodName := ⟨RX4, "readsAll", "(Z)Z"⟩
abbrev cX4_textFault : ByteArray := prog_6_method_53_code
def yX4_textFault : MethodName := ⟨RX4, "textFault", "()I"⟩
abbrev cX4_load : ByteArray := prog_6_method_54_code
def yX4_load : MethodName := ⟨RX4, "load", "()I"⟩
abbrev cX4_note : ByteArray := prog_6_method_55_code
def yX4_note : MethodName := ⟨RX4, "note", "(I)V"⟩
abbrev cX4_digest : ByteArray := prog_6_method_56_code
def yX4_digest : MethodName := ⟨RX4, "digest", "()J"⟩
def RJ13 : String := "java/lang/Long"
def TJ13 : u_T := fun k => match k with
  | _ => ("", "", "", false)
def tyJ13 : Nat → FieldType := fun k => match k with
  | _ => .int
abbrev wsJ130 : List Cond := u_ws RJ13 TJ13 0
theorem nmJ13 : ∀ a, a < 0 → ∀ b, b < 0 → a ≠ b → (TJ13 a).2.1 ≠ (TJ13 b).2.1 := by decide +kernel
theorem tyJ13_ok : ∀ k, k < 0 → parseFieldDescriptor (TJ13 k).2.2.1 = some (tyJ13 k) := by decide +kernel
abbrev cJ13_bitCount_95d88 : ByteArray := prog_7_method_50_code
def yJ13_bitCount_95d88 : MethodName := ⟨RJ13, "bitCount", "(J)I"⟩
def RL : String := "RumourSourceLaw"
abbrev cL_law : ByteArray := code
def yL_law : MethodName := ⟨RL, "law", "([I)Z"⟩
abbrev vwCl : List vw_C := [(RX0, TX0, 8), (RX1, TX1, 8), (RX2, TX2, 5), (RX3, TX3, 6), (RX4, TX4, 12)]
end
section
/-! The world of all cells, by numbers: 0 the RumourSource, 1.. its Scenes, Spread, Text, rows; 51 the model, 52.. its rows. A state of it: what each whole number's place holds (fields and elements alike), each long's, and which scene each place of the row of the past holds. -/
section HEAP
abbrev XT : Type := (Nat → Nat → Int32) × (Nat → Nat → Int64) × (Nat → Nat)
def sI (X : XT) (k j : Nat) (v : Int32) : XT := (fun q => if q = k then upd (X.1 k) j v else X.1 q, X.2.1, X.2.2)
def sL (X : XT) (k j : Nat) (v : Int64) : XT := (X.1, fun q => if q = k then vp_updL (X.2.1 k) j v else X.2.1 q, X.2.2)
def sR (X : XT) (j v : Nat) : XT := (X.1, X.2.1, va_up X.2.2 j v)
abbrev NC : Nat := 58
def shpL : List (Nat × Nat) := [(3,0), (0,0),(5,12),(5,12),(5,12),(5,12),(5,8), (8,5), (1,0),(5,8),(5,8),(6,8), (2,0),(5,120), (0,0),(5,12),(5,12),(5,12),(5,12),(5,8), (6,8),
  (0,0),(5,12),(5,12),(5,12),(5,12),(5,8), (0,0),(5,12),(5,12),(5,12),(5,12),(5,8), (0,0),(5,12),(5,12),(5,12),(5,12),(5,8), (0,0),(5,12),(5,12),(5,12),(5,12),(5,8), (0,0),(5,12),(5,12),(5,12),(5,12),(5,8),
  (4,0),(5,354),(5,8),(6,8),(7,32),(5,120),(7,64)]
def shp (k : Nat) : Nat × Nat := shpL.getD k (9, 0)
def fkL : List (List Nat) := [[3,4,5,6,0,0,7,0], [3,4,1,1,1,0,5,0], [3,0,4,0,0], [3,9,10,14,22,0], [3,0,0,4,5,6,7,0,0,8,0,1]]
def fk (c j : Nat) : Nat := (fkL.getD c []).getD j 0
def nf (c : Nat) : Nat := (fkL.getD c []).length
/-- a boolean's place -/
def zf (c j : Nat) : Bool := (c == 1 && j == 7) || (c == 4 && j == 2)
def fv (ρ : Nat → Nat) (X : XT) (c k j : Nat) : Value := match fk c j with
  | 0 => .int (X.1 k j)
  | 1 => .long (X.2.1 k j)
  | n + 2 => .ref (ρ (k + n))
abbrev GT : Type := va_G × (Nat → ClassId)
def cellE (γ : GT) (ρ : Nat → Nat) (X : XT) (k : Nat) : va_E := match (shp k).1 with
  | 5 => .inl (γ.2 0, (shp k).2, .inl (X.1 k))
  | 6 => .inl (γ.2 1, (shp k).2, .inr (.inl (X.2.1 k)))
  | 7 => .inl (γ.2 2, (shp k).2, .inl (X.1 k))
  | 8 => .inl (γ.2 3, (shp k).2, .inr (.inr (.inr (.inr (fun j => some (ρ (X.2.2 j)))))))
  | c => .inr (c, (List.range (nf c)).map (fv ρ X c k))
def cells (γ : GT) (ρ : Nat → Nat) (X : XT) : va_W := (List.range NC).map (fun k => (ρ k, cellE γ ρ X k))
def tysG (γ : GT) : List (ClassId × FieldType) := [(γ.2 0, .int), (γ.2 1, .long), (γ.2 2, .boolean), (γ.2 3, .object RX0)]
def cv (ρ : Nat → Nat) : Value → Value
  | .ref k => .ref (ρ k)
  | v => v
theorem cv_cat (ρ : Nat → Nat) (v : Value) : (cv ρ v).category = v.category := by cases v <;> rfl
theorem cells_at (γ : GT) (ρ : Nat → Nat) (X : XT) {k : Nat} (h : k < NC) : (cells γ ρ X)[k]? = some (ρ k, cellE γ ρ X k) := by
  simp [cells, List.getElem?_map, List.getElem?_range h]
theorem cells_out (γ : GT) (ρ : Nat → Nat) (X : XT) {k : Nat} (h : ¬ k < NC) : (cells γ ρ X)[k]? = none := by
  simp [cells, List.getElem?_map]
  omega
theorem cells_len (γ : GT) (ρ : Nat → Nat) (X : XT) : (cells γ ρ X).length = NC := by simp [cells]
theorem cells_set (γ : GT) (ρ : Nat → Nat) (X X' : XT) {k : Nat} (hk : k < NC) {e : va_E} (h1 : cellE γ ρ X' k = e) (h2 : ∀ j, j ≠ k → cellE γ ρ X' j = cellE γ ρ X j) : (cells γ ρ X).set k (ρ k, e) = cells γ ρ X' := by
  apply List.ext_getElem?
  intro i
  by_cases hi : i < NC
  · by_cases e' : i = k
    · subst e'
      rw [List.getElem?_set_self (by rw [cells_len]; exact hi), cells_at γ ρ X' hi, h1]
    · rw [List.getElem?_set_ne (fun z => e' z.symm), cells_at γ ρ X hi, cells_at γ ρ X' hi, h2 i e']
  · rw [cells_out γ ρ X' hi, List.getElem?_eq_none]
    rw [List.length_set, cells_len]; omega
def dA (A : Nat → Prop) (ρ : Nat → Nat) : Prop := (∀ i j : Nat, i < NC → j < NC → ρ i = ρ j → i = j) ∧ ∀ i : Nat, i < NC → A (ρ i)
theorem cells_D {A : Nat → Prop} {ρ : Nat → Nat} (h : dA A ρ) (γ : GT) (X : XT) : va_D A (cells γ ρ X) := by
  have key : ∀ (k : Nat) (q : Nat × va_E), (cells γ ρ X)[k]? = some q → k < NC ∧ q.1 = ρ k := by
    intro k q hq
    by_cases hk : k < NC
    · rw [cells_at γ ρ X hk] at hq
      cases hq
      exact ⟨hk, rfl⟩
    · rw [cells_out γ ρ X hk] at hq
      cases hq
  refine ⟨fun i j p q hi hj hpq => ?_, fun k q hk => ?_⟩
  · obtain ⟨a1, a2⟩ := key i p hi
    obtain ⟨b1, b2⟩ := key j q hj
    exact h.1 i j a1 b1 (a2.symm.trans (hpq.trans b2))
  · obtain ⟨a1, a2⟩ := key k q hk
    rw [a2]; exact h.2 k a1
theorem cellE_sI_ne (γ : GT) (ρ : Nat → Nat) (X : XT) (k j : Nat) (v : Int32) {q : Nat} (h : q ≠ k) : cellE γ ρ (sI X k j v) q = cellE γ ρ X q := by
  unfold cellE
  have h1 : (sI X k j v).1 q = X.1 q := by simp [sI, h]
  have h2 : fv ρ (sI X k j v) = fun c k' j' => fv ρ (sI X k j v) c k' j' := rfl
  have h3 : ∀ c, fv ρ (sI X k j v) c q = fv ρ X c q := by
    intro c; funext i
    simp only [fv, h1]
    rfl
  simp only [h1, h3]
  rfl
theorem cellE_sL_ne (γ : GT) (ρ : Nat → Nat) (X : XT) (k j : Nat) (v : Int64) {q : Nat} (h : q ≠ k) : cellE γ ρ (sL X k j v) q = cellE γ ρ X q := by
  unfold cellE
  have h1 : (sL X k j v).2.1 q = X.2.1 q := by simp [sL, h]
  have h3 : ∀ c, fv ρ (sL X k j v) c q = fv ρ X c q := by
    intro c; funext i
    simp only [fv, h1]
    rfl
  simp only [h1, h3]
  rfl
theorem cellE_arrI (γ : GT) (ρ : Nat → Nat) (X : XT) {k : Nat} (h : (shp k).1 = 5) : cellE γ ρ X k = .inl (γ.2 0, (shp k).2, .inl (X.1 k)) := by
  unfold cellE; rw [h]; rfl
theorem cellE_arrL (γ : GT) (ρ : Nat → Nat) (X : XT) {k : Nat} (h : (shp k).1 = 6) : cellE γ ρ X k = .inl (γ.2 1, (shp k).2, .inr (.inl (X.2.1 k))) := by
  unfold cellE; rw [h]; rfl
theorem cellE_arrZ (γ : GT) (ρ : Nat → Nat) (X : XT) {k : Nat} (h : (shp k).1 = 7) : cellE γ ρ X k = .inl (γ.2 2, (shp k).2, .inl (X.1 k)) := by
  unfold cellE; rw [h]; rfl
theorem cellE_arrR (γ : GT) (ρ : Nat → Nat) (X : XT) {k : Nat} (h : (shp k).1 = 8) : cellE γ ρ X k = .inl (γ.2 3, (shp k).2, .inr (.inr (.inr (.inr (fun j => some (ρ (X.2.2 j))))))) := by
  unfold cellE; rw [h]; rfl
theorem cellE_obj (γ : GT) (ρ : Nat → Nat) (X : XT) {k c : Nat} (h : (shp k).1 = c) (hc : c < 5) : cellE γ ρ X k = .inr (c, (List.range (nf c)).map (fv ρ X c k)) := by
  unfold cellE; rw [h]
  rcases (by omega : c = 0 ∨ c = 1 ∨ c = 2 ∨ c = 3 ∨ c = 4) with rfl | rfl | rfl | rfl | rfl <;> rfl
theorem sI_at (X : XT) (k j : Nat) (v : Int32) : (sI X k j v).1 k = upd (X.1 k) j v := by simp [sI]
theorem sL_at (X : XT) (k j : Nat) (v : Int64) : (sL X k j v).2.1 k = vp_updL (X.2.1 k) j v := by simp [sL]
theorem one_scenes8 : ∀ k, k < NC → (shp k).1 = 8 → k = 7 := by decide +kernel
theorem cells_setI (γ : GT) (ρ : Nat → Nat) (X : XT) {k : Nat} (hk : k < NC) (h : (shp k).1 = 5) (j : Nat) (v : Int32) : (cells γ ρ X).set k (ρ k, .inl (γ.2 0, (shp k).2, .inl (upd (X.1 k) j v))) = cells γ ρ (sI X k j v) :=
  cells_set γ ρ X _ hk (by rw [cellE_arrI γ ρ _ h, sI_at]) (fun q hq => cellE_sI_ne γ ρ X k j v hq)
theorem cells_setZ (γ : GT) (ρ : Nat → Nat) (X : XT) {k : Nat} (hk : k < NC) (h : (shp k).1 = 7) (j : Nat) (v : Int32) : (cells γ ρ X).set k (ρ k, .inl (γ.2 2, (shp k).2, .inl (upd (X.1 k) j v))) = cells γ ρ (sI X k j v) :=
  cells_set γ ρ X _ hk (by rw [cellE_arrZ γ ρ _ h, sI_at]) (fun q hq => cellE_sI_ne γ ρ X k j v hq)
theorem cells_setL (γ : GT) (ρ : Nat → Nat) (X : XT) {k : Nat} (hk : k < NC) (h : (shp k).1 = 6) (j : Nat) (v : Int64) : (cells γ ρ X).set k (ρ k, .inl (γ.2 1, (shp k).2, .inr (.inl (vp_updL (X.2.1 k) j v)))) = cells γ ρ (sL X k j v) :=
  cells_set γ ρ X _ hk (by rw [cellE_arrL γ ρ _ h, sL_at]) (fun q hq => cellE_sL_ne γ ρ X k j v hq)
theorem cells_setR (γ : GT) (ρ : Nat → Nat) (X : XT) {k : Nat} (hk : k < NC) (h : (shp k).1 = 8) (j w : Nat) : (cells γ ρ X).set k (ρ k, .inl (γ.2 3, (shp k).2, .inr (.inr (.inr (.inr (va_up (fun i => some (ρ (X.2.2 i))) j (some (ρ w)))))))) = cells γ ρ (sR X j w) := by
  refine cells_set γ ρ X _ hk ?_ (fun q hq => ?_)
  · rw [cellE_arrR γ ρ _ h]
    have : (fun i => some (ρ ((sR X j w).2.2 i))) = va_up (fun i => some (ρ (X.2.2 i))) j (some (ρ w)) := by
      funext i
      simp only [sR, va_up]
      by_cases e : i = j <;> simp [e]
    rw [this]
  · by_cases e : q < NC
    · have h8 : (shp q).1 ≠ 8 := fun z => hq ((one_scenes8 q e z).trans (one_scenes8 k hk h).symm)
      unfold cellE
      split <;> first | rfl | (exfalso; apply h8; assumption)
    · have : (shp q).1 = 9 := by
        have hl : shpL.length = 58 := rfl
        have hn : NC = 58 := rfl
        unfold shp
        rw [List.getD_eq_getElem?_getD, List.getElem?_eq_none (by omega)]; rfl
      unfold cellE
      rw [this]
      rfl
theorem fv_int (ρ : Nat → Nat) (X : XT) (c k j : Nat) (h : fk c j = 0) : fv ρ X c k j = .int (X.1 k j) := by unfold fv; rw [h]
theorem fv_long (ρ : Nat → Nat) (X : XT) (c k j : Nat) (h : fk c j = 1) : fv ρ X c k j = .long (X.2.1 k j) := by unfold fv; rw [h]
theorem fv_sI_ne (ρ : Nat → Nat) (X : XT) (c k j : Nat) (v : Int32) {i : Nat} (e : i ≠ j) : fv ρ (sI X k j v) c k i = fv ρ X c k i := by
  have h1 : (sI X k j v).1 k i = X.1 k i := by rw [sI_at]; simp [upd, e]
  unfold fv
  rw [h1]
  rfl
theorem fv_sL_ne (ρ : Nat → Nat) (X : XT) (c k j : Nat) (v : Int64) {i : Nat} (e : i ≠ j) : fv ρ (sL X k j v) c k i = fv ρ X c k i := by
  have h1 : (sL X k j v).2.1 k i = X.2.1 k i := by rw [sL_at]; simp [vp_updL, e]
  unfold fv
  rw [h1]
  rfl
theorem obj_setI (ρ : Nat → Nat) (X : XT) (c k j : Nat) (v : Int32) (h : fk c j = 0) : (List.range (nf c)).map (fv ρ (sI X k j v) c k) = ((List.range (nf c)).map (fv ρ X c k)).set j (.int v) := by
  apply List.ext_getElem?
  intro i
  by_cases hi : i < nf c
  · by_cases e : i = j
    · subst e
      rw [List.getElem?_set_self (by simpa using hi), List.getElem?_map, List.getElem?_range hi]
      simp [fv_int ρ _ c k i h, sI_at, upd]
    · rw [List.getElem?_set_ne (fun z => e z.symm), List.getElem?_map, List.getElem?_map, List.getElem?_range hi]
      simp [fv_sI_ne ρ X c k j v e]
  · rw [List.getElem?_eq_none (by simp; omega), List.getElem?_eq_none (by simp; omega)]
theorem obj_setL (ρ : Nat → Nat) (X : XT) (c k j : Nat) (v : Int64) (h : fk c j = 1) : (List.range (nf c)).map (fv ρ (sL X k j v) c k) = ((List.range (nf c)).map (fv ρ X c k)).set j (.long v) := by
  apply List.ext_getElem?
  intro i
  by_cases hi : i < nf c
  · by_cases e : i = j
    · subst e
      rw [List.getElem?_set_self (by simpa using hi), List.getElem?_map, List.getElem?_range hi]
      simp [fv_long ρ _ c k i h, sL_at, vp_updL]
    · rw [List.getElem?_set_ne (fun z => e z.symm), List.getElem?_map, List.getElem?_map, List.getElem?_range hi]
      simp [fv_sL_ne ρ X c k j v e]
  · rw [List.getElem?_eq_none (by simp; omega), List.getElem?_eq_none (by simp; omega)]
theorem cells_putI (γ : GT) (ρ : Nat → Nat) (X : XT) {k c : Nat} (hk : k < NC) (h : (shp k).1 = c) (hc : c < 5) (j : Nat) (hf : fk c j = 0) (v : Int32) : (cells γ ρ X).set k (ρ k, .inr (c, ((List.range (nf c)).map (fv ρ X c k)).set j (.int v))) = cells γ ρ (sI X k j v) :=
  cells_set γ ρ X _ hk (by rw [cellE_obj γ ρ _ h hc, obj_setI ρ X c k j v hf]) (fun q hq => cellE_sI_ne γ ρ X k j v hq)
theorem cells_putL (γ : GT) (ρ : Nat → Nat) (X : XT) {k c : Nat} (hk : k < NC) (h : (shp k).1 = c) (hc : c < 5) (j : Nat) (hf : fk c j = 1) (v : Int64) : (cells γ ρ X).set k (ρ k, .inr (c, ((List.range (nf c)).map (fv ρ X c k)).set j (.long v))) = cells γ ρ (sL X k j v) :=
  cells_set γ ρ X _ hk (by rw [cellE_obj γ ρ _ h hc, obj_setL ρ X c k j v hf]) (fun q hq => cellE_sL_ne γ ρ X k j v hq)
end HEAP
end
section
/-! The abstract machine: what a stretch of a method's code does to locals, stack and world, as a proposition (a condition to prove, then the rest). -/
section MACH
abbrev KT : Type := Nat → List (Nat × Value) → List Value → XT → Prop
abbrev CT : Type := List Value → XT → (Option Value → XT → Prop) → Prop
/-- a call of the pool: its index, whether static, how many arguments (the receiver among them), the receiver's kind, what it does -/
abbrev CE : Type := Nat × Bool × Nat × Nat × CT
abbrev TE : Type := Instr × Nat × Nat × Nat × Int32 × Int64
def fetch : List (Nat × TE) → Nat → Option TE
  | [], _ => none
  | (q, e) :: r, pc => if q = pc then some e else fetch r pc
theorem fetch_in : ∀ (t : List (Nat × TE)) (pc : Nat) (e : TE), fetch t pc = some e → (pc, e) ∈ t
  | [], _, _, h => by cases h
  | (q, e0) :: r, pc, e, h => by
    unfold fetch at h
    split at h
    next hq => cases h; rw [hq]; exact List.mem_cons_self
    next => exact List.mem_cons_of_mem _ (fetch_in r pc e h)
def lget : List (Nat × Value) → Nat → Option Value
  | [], _ => none
  | (j, u) :: r, i => if j = i then some u else lget r i
theorem lget_in : ∀ (l : List (Nat × Value)) (i : Nat) (v : Value), lget l i = some v → (i, v) ∈ l
  | [], _, _, h => by cases h
  | (j, u) :: r, i, v, h => by
    unfold lget at h
    split at h
    next hq => cases h; rw [hq]; exact List.mem_cons_self
    next => exact List.mem_cons_of_mem _ (lget_in r i v h)
/-- what stays of the locals behind a store into place i (two: of a long) -/
def lrm (i : Nat) (two : Bool) : List (Nat × Value) → List (Nat × Value)
  | [] => []
  | (j, u) :: r => if j = i then lrm i two r else if two = true ∧ j = i + 1 then lrm i two r else if j + 1 = i ∧ u.category = 2 then lrm i two r else (j, u) :: lrm i two r
theorem lrm_in (i : Nat) (two : Bool) : ∀ (l : List (Nat × Value)) (q : Nat × Value), q ∈ lrm i two l → q ∈ l ∧ q.1 ≠ i ∧ (two = true → q.1 ≠ i + 1) ∧ ¬ (q.1 + 1 = i ∧ q.2.category = 2)
  | [], q, h => by cases h
  | (j, u) :: r, q, h => by
    have up : q ∈ lrm i two r → q ∈ (j, u) :: r ∧ q.1 ≠ i ∧ (two = true → q.1 ≠ i + 1) ∧ ¬ (q.1 + 1 = i ∧ q.2.category = 2) := fun z => ⟨List.mem_cons_of_mem _ (lrm_in i two r q z).1, (lrm_in i two r q z).2⟩
    unfold lrm at h
    split at h
    next => exact up h
    next h1 =>
      split at h
      next => exact up h
      next h2 =>
        split at h
        next => exact up h
        next h3 =>
          rcases List.mem_cons.mp h with e | e
          · subst e
            exact ⟨List.mem_cons_self, h1, fun t z => h2 ⟨t, z⟩, h3⟩
          · exact up e
def popA : Nat → List Value → List Value → Option (List Value × List Value)
  | 0, acc, st => some (acc, st)
  | n + 1, acc, v :: st => popA n (v :: acc) st
  | _ + 1, _, [] => none
/-- stack st is the arguments As, the last on top, over r -/
theorem popA_st : ∀ (n : Nat) (acc st As r : List Value), popA n acc st = some (As, r) → As.reverse ++ r = acc.reverse ++ st ∧ As.length = acc.length + n
  | 0, acc, st, As, r, h => by
    unfold popA at h
    cases h
    exact ⟨rfl, rfl⟩
  | n + 1, acc, v :: st, As, r, h => by
    unfold popA at h
    obtain ⟨h1, h2⟩ := popA_st n (v :: acc) st As r h
    refine ⟨by rw [h1]; simp, by rw [h2]; simp; omega⟩
  | n + 1, acc, [], As, r, h => by
    unfold popA at h
    cases h
def catS (st : List Value) : Nat := (st.map fun v => v.category).sum
/-- a boolean -/
def bl (x : Int32) : Prop := x = 0 ∨ x = 1
def xI (o : Option Value) (κ : Int32 → Prop) : Prop := match o with
  | some (.int x) => κ x
  | _ => False
def xL (o : Option Value) (κ : Int64 → Prop) : Prop := match o with
  | some (.long x) => κ x
  | _ => False
def xR (o : Option Value) (κ : Nat → Prop) : Prop := match o with
  | some (.ref x) => κ x
  | _ => False
def s1I (st : List Value) (κ : Int32 → List Value → Prop) : Prop := match st with
  | .int x :: r => κ x r
  | _ => False
def s1L (st : List Value) (κ : Int64 → List Value → Prop) : Prop := match st with
  | .long x :: r => κ x r
  | _ => False
def s1R (st : List Value) (κ : Nat → List Value → Prop) : Prop := match st with
  | .ref x :: r => κ x r
  | _ => False
def s2I (st : List Value) (κ : Int32 → Int32 → List Value → Prop) : Prop := match st with
  | .int y :: .int x :: r => κ x y r
  | _ => False
def s2L (st : List Value) (κ : Int64 → Int64 → List Value → Prop) : Prop := match st with
  | .long y :: .long x :: r => κ x y r
  | _ => False
def sLI (st : List Value) (κ : Int64 → Int32 → List Value → Prop) : Prop := match st with
  | .int y :: .long x :: r => κ x y r
  | _ => False
def sRI (st : List Value) (κ : Nat → Int32 → List Value → Prop) : Prop := match st with
  | .int i :: .ref k :: r => κ k i r
  | _ => False
def sRII (st : List Value) (κ : Nat → Int32 → Int32 → List Value → Prop) : Prop := match st with
  | .int x :: .int i :: .ref k :: r => κ k i x r
  | _ => False
def sRIL (st : List Value) (κ : Nat → Int32 → Int64 → List Value → Prop) : Prop := match st with
  | .long x :: .int i :: .ref k :: r => κ k i x r
  | _ => False
def sRIR (st : List Value) (κ : Nat → Int32 → Nat → List Value → Prop) : Prop := match st with
  | .ref x :: .int i :: .ref k :: r => κ k i x r
  | _ => False
/-- a field's value, and a field's writing (False: not that kind) -/
def fvA (X : XT) (c k j : Nat) : Value := match fk c j with
  | 0 => .int (X.1 k j)
  | 1 => .long (X.2.1 k j)
  | n + 2 => .ref (k + n)
def pfA (X : XT) (c j : Nat) (st : List Value) (κ : List Value → XT → Prop) : Prop := match fk c j, st with
  | 0, .int x :: .ref k :: r => k < NC ∧ (shp k).1 = c ∧ (zf c j = true → bl x) ∧ κ r (sI X k j x)
  | 1, .long x :: .ref k :: r => k < NC ∧ (shp k).1 = c ∧ κ r (sL X k j x)
  | _, _ => False
def tsw (pc : Nat) (d lo hi : Int) (offs : Array Int) (x : Int32) : Nat := if x.toInt < lo ∨ hi < x.toInt then ((pc : Int) + d).toNat else ((pc : Int) + offs.getD (x.toInt - lo).toNat 0).toNat
def recvOk (As : List Value) (c : Nat) : Prop := match As with
  | .ref k :: _ => k < NC ∧ (shp k).1 = c
  | _ => False
def xcall (calls : List CE) (a : Nat) (i : Nat) (sta : Bool) (st : List Value) (X : XT) (κ : List Value → XT → Prop) : Prop := match calls[a]? with
  | some (i', sta', n, c, C) => (i' = i ∧ sta' = sta) ∧ (match popA n [] st with
    | some (As, r) => catS r ≤ 8 ∧ (sta = false → recvOk As c) ∧ C As X (fun v X' => κ (v.toList ++ r) X')
    | none => False)
  | none => False
def retx (rt : Nat) (post : Option Value → XT → Prop) (ins : Instr) (st : List Value) (X : XT) : Prop := match ins, st with
  | .ireturn, [.int x] => (rt = 0 ∨ (rt = 1 ∧ bl x)) ∧ post (some (.int x)) X
  | .lreturn, [.long x] => rt = 2 ∧ post (some (.long x)) X
  | .return_, [] => rt = 3 ∧ post none X
  | _, _ => False
def scrR (sc : Option (Nat → Int32)) (L : Nat) (k : Nat) (i : Int32) (κ : Int32 → Prop) (other : Prop) : Prop := match sc with
  | none => other
  | some xs => if k = 999 then vp_in i L ∧ κ (xs i.toNatClampNeg) else other
def scrN (sc : Option (Nat → Int32)) (L : Nat) (k : Nat) (κ : Int32 → Prop) (other : Prop) : Prop := match sc with
  | none => other
  | some _ => if k = 999 then κ (Int32.ofNat L) else other
def exec (rt : Nat) (calls : List CE) (sc : Option (Nat → Int32)) (L : Nat) (post : Option Value → XT → Prop) (e : TE) (pc : Nat) (lv : List (Nat × Value)) (st : List Value) (X : XT) (κ : KT) : Prop := match e with
  | (ins, len, a, b, k, w) => match ins with
    | .iload _ => xI (lget lv a) fun x => κ (pc + 2) lv (.int x :: st) X
    | .iload_n _ => xI (lget lv a) fun x => κ (pc + 1) lv (.int x :: st) X
    | .lload _ => xL (lget lv a) fun x => κ (pc + 2) lv (.long x :: st) X
    | .lload_n _ => xL (lget lv a) fun x => κ (pc + 1) lv (.long x :: st) X
    | .aload _ => xR (lget lv a) fun x => κ (pc + 2) lv (.ref x :: st) X
    | .aload_n _ => xR (lget lv a) fun x => κ (pc + 1) lv (.ref x :: st) X
    | .istore _ => s1I st fun x r => κ (pc + 2) ((a, .int x) :: lrm a false lv) r X
    | .istore_n _ => s1I st fun x r => κ (pc + 1) ((a, .int x) :: lrm a false lv) r X
    | .lstore _ => s1L st fun x r => κ (pc + 2) ((a, .long x) :: lrm a true lv) r X
    | .lstore_n _ => s1L st fun x r => κ (pc + 1) ((a, .long x) :: lrm a true lv) r X
    | .astore _ => s1R st fun x r => κ (pc + 2) ((a, .ref x) :: lrm a false lv) r X
    | .astore_n _ => s1R st fun x r => κ (pc + 1) ((a, .ref x) :: lrm a false lv) r X
    | .iinc _ _ => xI (lget lv a) fun x => κ (pc + 3) ((a, .int (x + k)) :: lrm a false lv) st X
    | .iconst _ => κ (pc + 1) lv (.int k :: st) X
    | .bipush _ => κ (pc + 2) lv (.int k :: st) X
    | .sipush _ => κ (pc + 3) lv (.int k :: st) X
    | .ldc _ => κ (pc + 2) lv (.int k :: st) X
    | .lconst _ => κ (pc + 1) lv (.long w :: st) X
    | .ldc2_w _ => κ (pc + 3) lv (.long w :: st) X
    | .iadd => s2I st fun x y r => κ (pc + 1) lv (.int (x + y) :: r) X
    | .isub => s2I st fun x y r => κ (pc + 1) lv (.int (x - y) :: r) X
    | .imul => s2I st fun x y r => κ (pc + 1) lv (.int (x * y) :: r) X
    | .iand => s2I st fun x y r => κ (pc + 1) lv (.int (x &&& y) :: r) X
    | .ior => s2I st fun x y r => κ (pc + 1) lv (.int (x ||| y) :: r) X
    | .ishl => s2I st fun x y r => κ (pc + 1) lv (.int (x <<< (y &&& 31)) :: r) X
    | .ishr => s2I st fun x y r => κ (pc + 1) lv (.int (x >>> (y &&& 31)) :: r) X
    | .iushr => s2I st fun x y r => κ (pc + 1) lv (.int (x.toUInt32 >>> (y.toUInt32 &&& Int32.toUInt32 31)).toInt32 :: r) X
    | .idiv => s2I st fun x y r => ¬ y = 0 ∧ κ (pc + 1) lv (.int (x / y) :: r) X
    | .irem => s2I st fun x y r => ¬ y = 0 ∧ κ (pc + 1) lv (.int (x - x / y * y) :: r) X
    | .ladd => s2L st fun x y r => κ (pc + 1) lv (.long (x + y) :: r) X
    | .lsub => s2L st fun x y r => κ (pc + 1) lv (.long (x - y) :: r) X
    | .lmul => s2L st fun x y r => κ (pc + 1) lv (.long (x * y) :: r) X
    | .land => s2L st fun x y r => κ (pc + 1) lv (.long (x &&& y) :: r) X
    | .lor => s2L st fun x y r => κ (pc + 1) lv (.long (x ||| y) :: r) X
    | .ldiv => s2L st fun x y r => ¬ y = 0 ∧ κ (pc + 1) lv (.long (x / y) :: r) X
    | .lcmp => s2L st fun x y r => κ (pc + 1) lv (.int (lg_cmp x y) :: r) X
    | .lshl => sLI st fun x y r => κ (pc + 1) lv (.long (x <<< (y.toInt64 &&& 63)) :: r) X
    | .lushr => sLI st fun x y r => κ (pc + 1) lv (.long (x.toUInt64 >>> (y.toInt64.toUInt64 &&& Int64.toUInt64 63)).toInt64 :: r) X
    | .i2l => s1I st fun x r => κ (pc + 1) lv (.long x.toInt64 :: r) X
    | .l2i => s1L st fun x r => κ (pc + 1) lv (.int x.toInt32 :: r) X
    | .dup => (match st with
      | v :: r => v.category = 1 ∧ κ (pc + 1) lv (v :: v :: r) X
      | _ => False)
    | .dup2 => (match st with
      | v :: u :: r => (v.category = 1 ∧ u.category = 1) ∧ κ (pc + 1) lv (v :: u :: v :: u :: r) X
      | _ => False)
    | .pop => (match st with
      | v :: r => v.category = 1 ∧ κ (pc + 1) lv r X
      | _ => False)
    | .ifCond .eq _ => s1I st fun x r => (x = 0 → κ a lv r X) ∧ (¬ x = 0 → κ (pc + 3) lv r X)
    | .ifCond .ne _ => s1I st fun x r => (¬ x = 0 → κ a lv r X) ∧ (x = 0 → κ (pc + 3) lv r X)
    | .ifCond .lt _ => s1I st fun x r => (x < 0 → κ a lv r X) ∧ (¬ x < 0 → κ (pc + 3) lv r X)
    | .ifCond .ge _ => s1I st fun x r => (0 ≤ x → κ a lv r X) ∧ (¬ 0 ≤ x → κ (pc + 3) lv r X)
    | .ifCond .gt _ => s1I st fun x r => (0 < x → κ a lv r X) ∧ (¬ 0 < x → κ (pc + 3) lv r X)
    | .ifCond .le _ => s1I st fun x r => (x ≤ 0 → κ a lv r X) ∧ (¬ x ≤ 0 → κ (pc + 3) lv r X)
    | .if_icmp .eq _ => s2I st fun x y r => (x = y → κ a lv r X) ∧ (¬ x = y → κ (pc + 3) lv r X)
    | .if_icmp .ne _ => s2I st fun x y r => (¬ x = y → κ a lv r X) ∧ (x = y → κ (pc + 3) lv r X)
    | .if_icmp .lt _ => s2I st fun x y r => (x < y → κ a lv r X) ∧ (¬ x < y → κ (pc + 3) lv r X)
    | .if_icmp .ge _ => s2I st fun x y r => (y ≤ x → κ a lv r X) ∧ (¬ y ≤ x → κ (pc + 3) lv r X)
    | .if_icmp .gt _ => s2I st fun x y r => (y < x → κ a lv r X) ∧ (¬ y < x → κ (pc + 3) lv r X)
    | .if_icmp .le _ => s2I st fun x y r => (x ≤ y → κ a lv r X) ∧ (¬ x ≤ y → κ (pc + 3) lv r X)
    | .goto _ => κ a lv st X
    | .tableswitch d lo hi offs => s1I st fun x r => κ (tsw pc d lo hi offs x) lv r X
    | .getfield _ => s1R st fun q r => (q < NC ∧ (shp q).1 = a) ∧ κ (pc + 3) lv (fvA X a q b :: r) X
    | .putfield _ => pfA X a b st fun r X' => κ (pc + 3) lv r X'
    | .iaload => sRI st fun q i r => scrR sc L q i (fun x => κ (pc + 1) lv (.int x :: r) X) ((q < NC ∧ (shp q).1 = 5 ∧ vp_in i (shp q).2) ∧ κ (pc + 1) lv (.int (X.1 q i.toNatClampNeg) :: r) X)
    | .baload => sRI st fun q i r => (q < NC ∧ (shp q).1 = 7 ∧ vp_in i (shp q).2) ∧ κ (pc + 1) lv (.int (X.1 q i.toNatClampNeg) :: r) X
    | .laload => sRI st fun q i r => (q < NC ∧ (shp q).1 = 6 ∧ vp_in i (shp q).2) ∧ κ (pc + 1) lv (.long (X.2.1 q i.toNatClampNeg) :: r) X
    | .aaload => sRI st fun q i r => (q < NC ∧ (shp q).1 = 8 ∧ vp_in i (shp q).2) ∧ κ (pc + 1) lv (.ref (X.2.2 i.toNatClampNeg) :: r) X
    | .iastore => sRII st fun q i x r => (q < NC ∧ (shp q).1 = 5 ∧ vp_in i (shp q).2) ∧ κ (pc + 1) lv r (sI X q i.toNatClampNeg x)
    | .bastore => sRII st fun q i x r => (q < NC ∧ (shp q).1 = 7 ∧ vp_in i (shp q).2 ∧ bl x) ∧ κ (pc + 1) lv r (sI X q i.toNatClampNeg x)
    | .lastore => sRIL st fun q i x r => (q < NC ∧ (shp q).1 = 6 ∧ vp_in i (shp q).2) ∧ κ (pc + 1) lv r (sL X q i.toNatClampNeg x)
    | .aastore => sRIR st fun q i x r => (q < NC ∧ (shp q).1 = 8 ∧ vp_in i (shp q).2 ∧ x < NC ∧ (shp x).1 = 0) ∧ κ (pc + 1) lv r (sR X i.toNatClampNeg x)
    | .arraylength => s1R st fun q r => scrN sc L q (fun x => κ (pc + 1) lv (.int x :: r) X) ((q < NC ∧ 5 ≤ (shp q).1 ∧ (shp q).1 ≤ 8) ∧ κ (pc + 1) lv (.int (nI (shp q).2) :: r) X)
    | .invokevirtual i => xcall calls a i false st X fun r X' => κ (pc + 3) lv r X'
    | .invokestatic i => xcall calls a i true st X fun r X' => κ (pc + 3) lv r X'
    | i => retx rt post i st X
/-- what a row of a method's table must be -/
def eOk (cc : ByteArray) (q : Nat × TE) : Bool := decide (decode cc q.1 = .ok (q.2.1, q.2.2.1)) && (match q with
  | (pc, ins, len, a, b, k, w) => match ins with
    | .iload i => i == a && len == 2
    | .lload i => i == a && len == 2
    | .aload i => i == a && len == 2
    | .istore i => i == a && len == 2
    | .lstore i => i == a && len == 2
    | .astore i => i == a && len == 2
    | .iload_n i => i.val == a && len == 1
    | .lload_n i => i.val == a && len == 1
    | .aload_n i => i.val == a && len == 1
    | .istore_n i => i.val == a && len == 1
    | .lstore_n i => i.val == a && len == 1
    | .astore_n i => i.val == a && len == 1
    | .iinc i n => i == a && Int32.ofInt n == k && len == 3
    | .iconst n => Int32.ofInt n == k && len == 1
    | .bipush n => (Int8.ofInt n).toInt32 == k && len == 2
    | .sipush n => (Int16.ofInt n).toInt32 == k && len == 3
    | .ldc _ => len == 2
    | .lconst n => Int64.ofNat n.val == w && len == 1
    | .ldc2_w _ => len == 3
    | .ifCond _ o => (pc : Int) + o == (a : Int) && len == 3
    | .if_icmp _ o => (pc : Int) + o == (a : Int) && len == 3
    | .goto o => (pc : Int) + o == (a : Int) && len == 3
    | .tableswitch d lo hi offs => decide (0 ≤ (pc : Int) + d) && offs.toList.all (fun o => decide (0 ≤ (pc : Int) + o)) && decide (hi - lo < offs.size)
    | .getfield _ => len == 3
    | .putfield _ => len == 3
    | .invokevirtual _ => len == 3
    | .invokestatic _ => len == 3
    | _ => len == 1)
def nwF : List (String × Nat × String × String × String × String) := [("RumourSource", 102, "RumourSource$Scene", "seen", "[I", "RumourSource"), ("RumourSource", 105, "RumourSource$Scene", "sensors", "I", "RumourSource"), ("RumourSource", 119, "RumourSource$Spread", "times", "[I", "RumourSource"), ("RumourSource", 147, "RumourSource$Spread", "total", "J", "RumourSource"), ("RumourSource", 154, "RumourSource$Spread", "totalHeard", "J", "RumourSource"), ("RumourSource", 172, "RumourSource$Spread", "bestOutcome", "I", "RumourSource"), ("RumourSource", 179, "RumourSource$Spread", "met", "[J", "RumourSource"), ("RumourSource", 191, "RumourSource$Text", "size", "I", "RumourSource"), ("RumourSource", 194, "RumourSource$Text", "bytes", "[I", "RumourSource"), ("RumourSource", 201, "RumourSource$Text", "draft", "LRumourSource$Scene;", "RumourSource"), ("RumourSource", 70, "RumourSource$Scene", "trust", "[I", "RumourSource"), ("RumourSource", 74, "RumourSource$Scene", "delay", "[I", "RumourSource"), ("RumourSource", 81, "RumourSource$Scene", "count", "I", "RumourSource"), ("RumourSource", 84, "RumourSource$Scene", "from", "[I", "RumourSource"), ("RumourSource", 87, "RumourSource$Scene", "to", "[I", "RumourSource"), ("RumourSource", 93, "RumourSource$Scene", "horizon", "I", "RumourSource"), ("RumourSource$Spread", 47, "RumourSource$Scene", "seen", "[I", "RumourSource"), ("RumourSource$Spread", 56, "RumourSource$Scene", "count", "I", "RumourSource"), ("RumourSource$Spread", 59, "RumourSource$Scene", "to", "[I", "RumourSource"), ("RumourSource$Spread", 66, "RumourSource$Scene", "from", "[I", "RumourSource"), ("RumourSource$Spread", 69, "RumourSource$Scene", "delay", "[I", "RumourSource"), ("RumourSource$Spread", 72, "RumourSource$Scene", "horizon", "I", "RumourSource"), ("RumourSource$Spread", 89, "RumourSource$Scene", "trust", "[I", "RumourSource"), ("RumourSource$Text", 77, "RumourSource$Scene", "seen", "[I", "RumourSource")]
def nwM : List (String × Nat × MethodName × String) := [("RumourSource", 11, ⟨"RumourSource$Scene", "<init>", "()V"⟩, "RumourSource"), ("RumourSource", 115, ⟨"RumourSource$Spread", "follow", "(LRumourSource$Scene;II)V"⟩, "RumourSource"), ("RumourSource", 130, ⟨"RumourSource$Spread", "wantAsSeen", "(LRumourSource$Scene;)V"⟩, "RumourSource"), ("RumourSource", 134, ⟨"RumourSource$Spread", "isAsWanted", "()Z"⟩, "RumourSource"), ("RumourSource", 139, ⟨"RumourSource$Spread", "wantOnly", "(II)V"⟩, "RumourSource"), ("RumourSource", 143, ⟨"RumourSource$Spread", "search", "(LRumourSource$Scene;IZ)V"⟩, "RumourSource"), ("RumourSource", 151, ⟨"RumourSource$Spread", "wantNothing", "()V"⟩, "RumourSource"), ("RumourSource", 188, ⟨"RumourSource$Scene", "copyFrom", "(LRumourSource$Scene;)V"⟩, "RumourSource"), ("RumourSource", 197, ⟨"RumourSource$Text", "read", "(LRumourSource$Scene;)I"⟩, "RumourSource"), ("RumourSource", 22, ⟨"RumourSource$Spread", "<init>", "()V"⟩, "RumourSource"), ("RumourSource", 29, ⟨"RumourSource$Text", "<init>", "()V"⟩, "RumourSource"), ("RumourSource", 52, ⟨"RumourSource$Scene", "find", "(II)I"⟩, "RumourSource"), ("RumourSource", 56, ⟨"RumourSource$Scene", "isFull", "()Z"⟩, "RumourSource"), ("RumourSource", 63, ⟨"RumourSource$Scene", "put", "(IIII)I"⟩, "RumourSource"), ("RumourSource", 67, ⟨"RumourSource$Scene", "hasEdge", "(I)Z"⟩, "RumourSource"), ("RumourSource", 77, ⟨"RumourSource$Scene", "drop", "(I)V"⟩, "RumourSource"), ("RumourSource$Scene", 45, ⟨"RumourSource", "isNode", "(I)Z"⟩, "RumourSource"), ("RumourSource$Spread", 43, ⟨"RumourSource", "isNode", "(I)Z"⟩, "RumourSource"), ("RumourSource$Text", 21, ⟨"RumourSource$Scene", "<init>", "()V"⟩, "RumourSource"), ("RumourSource$Text", 32, ⟨"RumourSource$Scene", "copyFrom", "(LRumourSource$Scene;)V"⟩, "RumourSource"), ("RumourSource$Text", 63, ⟨"RumourSource$Scene", "isFull", "()Z"⟩, "RumourSource"), ("RumourSource$Text", 66, ⟨"RumourSource$Scene", "find", "(II)I"⟩, "RumourSource"), ("RumourSource$Text", 73, ⟨"RumourSource$Scene", "put", "(IIII)I"⟩, "RumourSource"), ("RumourSource$Text", 80, ⟨"RumourSource", "isNode", "(I)Z"⟩, "RumourSource")]
/-- the words that any of our methods may hold -/
def inB (w : Cond) : Bool := decide (w ∈ lw_tbl) && goodWord w
def BW : List Cond := lw_tbl.filter goodWord
theorem inB_BW {w : Cond} (h : inB w = true) : w ∈ BW := by
  unfold inB at h
  simp only [Bool.and_eq_true, decide_eq_true_eq] at h
  exact List.mem_filter.mpr h
def fldB (own : String) (i c j : Nat) : Bool := match vwCl[c]? with
  | some (_, T, N) => decide (j < N) && (inB (.fieldLink own i (T j).1 (T j).2.1 (T j).2.2.1) || nwF.contains (own, i, (T j).1, (T j).2.1, (T j).2.2.1, "RumourSource"))
  | none => false
def lOk (own : String) (q : Nat × TE) : Bool := match q with
  | (_, ins, _, a, b, k, w) => match ins with
    | .getfield i => fldB own i a b
    | .putfield i => fldB own i a b
    | .ldc i => inB (.constant own i k)
    | .ldc2_w i => inB (.constantLong own i w)
    | _ => true
def nOk (nL : Nat) (q : Nat × TE) : Bool := match q with
  | (_, ins, _, a, _) => match ins with
    | .istore _ => decide (a < nL)
    | .istore_n _ => decide (a < nL)
    | .astore _ => decide (a < nL)
    | .astore_n _ => decide (a < nL)
    | .lstore _ => decide (a + 1 < nL)
    | .lstore_n _ => decide (a + 1 < nL)
    | .iinc _ _ => decide (a < nL)
    | _ => true
def tOk (cc : ByteArray) (own : String) (nL : Nat) (t : List (Nat × TE)) : Bool := t.all (fun q => (eOk cc q && lOk own q) && nOk nL q)
theorem u_inB0 : wsX00.all inB = true := by decide +kernel
theorem u_inB1 : wsX10.all inB = true := by decide +kernel
theorem u_inB2 : wsX20.all inB = true := by decide +kernel
theorem u_inB3 : wsX30.all inB = true := by decide +kernel
theorem u_inB4 : wsX40.all inB = true := by decide +kernel
/-- the field table of the classes -/
def tyG (c : Nat) : Nat → FieldType := [tyX0, tyX1, tyX2, tyX3, tyX4].getD c tyX0
theorem cl_facts : ∀ (c : Nat) (q : vw_C), vwCl[c]? = some q → (∀ w ∈ u_ws q.1 q.2.1 q.2.2, w ∈ BW) ∧ (∀ k, k < q.2.2 → parseFieldDescriptor (q.2.1 k).2.2.1 = some (tyG c k)) ∧ (∀ a, a < q.2.2 → ∀ b, b < q.2.2 → a ≠ b → (q.2.1 a).2.1 ≠ (q.2.1 b).2.1) ∧ q.2.2 = nf c ∧ c < 5 := by
  intro c q h
  match c, h with
  | 0, h => cases h; exact ⟨fun w hw => inB_BW (List.all_eq_true.mp u_inB0 w hw), tyX0_ok, nmX0, rfl, by decide⟩
  | 1, h => cases h; exact ⟨fun w hw => inB_BW (List.all_eq_true.mp u_inB1 w hw), tyX1_ok, nmX1, rfl, by decide⟩
  | 2, h => cases h; exact ⟨fun w hw => inB_BW (List.all_eq_true.mp u_inB2 w hw), tyX2_ok, nmX2, rfl, by decide⟩
  | 3, h => cases h; exact ⟨fun w hw => inB_BW (List.all_eq_true.mp u_inB3 w hw), tyX3_ok, nmX3, rfl, by decide⟩
  | 4, h => cases h; exact ⟨fun w hw => inB_BW (List.all_eq_true.mp u_inB4 w hw), tyX4_ok, nmX4, rfl, by decide⟩
  | c + 5, h => simp [vwCl] at h
/-- which kind of number a field holds, by the class file's own word -/
def fkd (c j : Nat) : Bool := match vwCl[c]? with
  | some (_, T, N) => if j < N then (if fk c j = 0 then !(T j).2.2.2 && (T j).2.2.1 == (if zf c j then "Z" else "I") else if fk c j = 1 then !(T j).2.2.2 && (T j).2.2.1 == "J" else true) else true
  | none => true
theorem fkd_ok : (List.range 5).all (fun c => (List.range 12).all (fun j => fkd c j)) = true := by decide +kernel
def NL (U : State) : Prop := (∀ q ∈ nwF, va_Nw (.fieldLinkNest q.1 q.2.1 q.2.2.1 q.2.2.2.1 q.2.2.2.2.1 q.2.2.2.2.2) U) ∧ ∀ q ∈ nwM, va_Nw (.methodLinkNest q.1 q.2.1 q.2.2.1 q.2.2.2) U
theorem NL.warm {s U : State} (hW : s.WarmedH U.vm) (h : NL s) : NL U := ⟨fun q hq => va_Nw.warmF hW (h.1 q hq), fun q hq => va_Nw.warmM hW (h.2 q hq)⟩
theorem NL.same {u U : State} (hv : u.vm = U.vm) (h : NL u) : NL U := ⟨fun q hq => va_Nw.same rfl hv (h.1 q hq), fun q hq => va_Nw.same rfl hv (h.2 q hq)⟩
/-- a method's words, its start and its end -/
def wY (y : MethodName) (cc : ByteArray) (maxL : Nat) (ret : Option FieldType) : List Cond := Cond.code y cc maxL ret :: BW
def Hd (γ : GT) (ρ : Nat → Nat) (X : XT) (U : State) : Prop := va_P γ.1 vwCl (cells γ ρ X) U.heap ∧ va_K γ.1 vwCl (tysG γ) U ∧ NL U
def Ar (ρ : Nat → Nat) : Nat → Prop := fun q => ∃ k, k < NC ∧ q = ρ k
def QX (γ : GT) (ρ : Nat → Nat) (post : Option Value → XT → Prop) : Array Value → State → Outcome → State → Prop := fun _ st oc t => (∃ (v : Option Value) (X' : XT), oc = .returned (v.map (cv ρ)) ∧ post v X' ∧ va_P γ.1 vwCl (cells γ ρ X') t.heap) ∧ va_F (Ar ρ) st t
def MX (l : Launch) (γ : GT) (ρ : Nat → Nat) (y : MethodName) (ws : List Cond) (rm : Room) (As : List Value) (X : XT) (post : Option Value → XT → Prop) : Prop :=
  Met l y ws rm (va_Pc (As.map (cv ρ)) (Hd γ ρ X)) (QX γ ρ post) 0 0 (Ar ρ)
/-- method y does C -/
def Does (l : Launch) (y : MethodName) (ws : List Cond) (rm : Room) (C : CT) : Prop := ∀ (γ : GT) (ρ : Nat → Nat) (As : List Value) (X : XT) (post : Option Value → XT → Prop), dA (Ar ρ) ρ → C As X post → MX l γ ρ y ws rm As X post
theorem Hd.blind (γ : GT) (ρ : Nat → Nat) (X : XT) (vs : List Value) : FrameBlind (va_Pc vs (Hd γ ρ X)) := by
  intro a U g mk q
  obtain ⟨q0, qP, qK, qN⟩ := q
  exact ⟨q0, qP, va_K.moved (u := U) (U := U.calling g mk a) (Vm.Alike.refl U.vm) qK, NL.same (u := U) (U := U.calling g mk a) rfl qN⟩
theorem Hd.of {γ : GT} {ρ : Nat → Nat} {X : XT} {s U : State} {H : Heap} (hP : va_P γ.1 vwCl (cells γ ρ X) H) (hK : va_K γ.1 vwCl (tysG γ) s) (hN : NL s) (hU : U.heap = H) (hW : s.WarmedH U.vm) : Hd γ ρ X U := ⟨by rw [hU]; exact hP, va_K.moved hW.alike hK, hN.warm hW⟩
end MACH
end
section
/-! The abstract machine is right about the machine. -/
section SOUND
def RX (p : Program) (l : Launch) (e : Env) (R : Room) (s : State) (m : MethodId) (args : Array Value) (below : List Frame) (meth : Method) (c : Code) (γ : GT) (ρ : Nat → Nat) (A : Nat → Prop) (nL kc ks : Nat) (Q : State → Prop) : KT := fun pc lv st X =>
  ∀ (H : Heap) (locs : List Loc) (ls : Array Slot), va_P γ.1 vwCl (cells γ ρ X) H → va_S A s.heap H locs → lv_has ls nL (lv.map fun q => (q.1, cv ρ q.2)) → W p l e R s m args below meth c H locs kc ks Q (F0 m pc ls (st.map (cv ρ)))
def CallRule (l : Launch) (own : String) (cc : ByteArray) (ws : List Cond) (nL : Nat) (R : Room) (q : CE) : Prop :=
  ∀ (p : Program) (e : Env) (s : State) (m : MethodId) (args : Array Value) (below : List Frame) (meth : Method) (c : Code) (γ : GT) (ρ : Nat → Nat) (A : Nat → Prop) (kc ks : Nat) (Q : State → Prop), CallFix p m c cc nL s args ws own → va_K γ.1 vwCl (tysG γ) s → NL s → dA A ρ → kc ≤ R.cells ∧ ks ≤ R.slots →
  ∀ (pc : Nat) (As rest : List Value) (X : XT) (K : Option Value → XT → Prop), As.length = q.2.2.1 → (q.2.1 = false → recvOk As q.2.2.2.1) → q.2.2.2.2 As X K → catS rest ≤ 8 → decode cc pc = .ok (if q.2.1 then Instr.invokestatic q.1 else Instr.invokevirtual q.1, 3) →
  ∀ (H : Heap) (locs : List Loc) (ls : Array Slot), va_P γ.1 vwCl (cells γ ρ X) H → va_S A s.heap H locs → ls.size = nL →
  (∀ (v : Option Value) (X' : XT) (H1 : Heap) (locs1 : List Loc), K v X' → va_P γ.1 vwCl (cells γ ρ X') H1 → va_S A s.heap H1 locs1 → W p l e R s m args below meth c H1 locs1 kc ks Q (F0 m (pc + 3) ls ((v.toList ++ rest).map (cv ρ)))) →
  W p l e R s m args below meth c H locs kc ks Q (F0 m pc ls ((As.reverse ++ rest).map (cv ρ)))
section CALLS
variable {p : Program} {l : Launch} {e : Env} {R : Room} {s : State} {m : MethodId} {args : Array Value} {below : List Frame} {meth : Method} {c : Code} {H : Heap} {locs : List Loc} {cells0 slots0 : Nat} {Q : State → Prop} {γ : GT} {ρ : Nat → Nat} {A : Nat → Prop} {ls : Array Slot} {pc : Nat} {st0 rest : List Value} {K : Option Value → XT → Prop} {a : Array Value}
theorem xrun (hr : va_Run p l e R s m args below meth c H locs cells0 slots0 0 0 (F0 m pc ls st0) rest (QX γ ρ K a) (Ar ρ)) (hS : va_S A s.heap H locs) (hA : ∀ q, Ar ρ q → A q)
    (kk : ∀ (v : Option Value) (X' : XT) (H1 : Heap) (locs1 : List Loc), K v X' → va_P γ.1 vwCl (cells γ ρ X') H1 → va_S A s.heap H1 locs1 → W p l e R s m args below meth c H1 locs1 cells0 slots0 Q (F0 m (pc + 3) ls ((v.map (cv ρ)).toList ++ rest))) : W p l e R s m args below meth c H locs cells0 slots0 Q (F0 m pc ls st0) := by
  intro T hT X
  obtain ⟨v, st₀, t, T', L, h0, X', hL, e1, e2, ⟨⟨r, u, hv, hp, hb⟩, hz, hk⟩, st⟩ := hr T hT X
  cases hv
  rw [h0] at hz hk
  obtain ⟨t2, a1, b1⟩ := kk r u T'.heap (locs ++ L) hp (by rw [e1]; exact hb)
    ⟨Nat.le_trans hS.1 (by rw [e1]; exact hz), fun q h1 h2 => by rw [e1, hk q (Nat.lt_of_lt_of_le h1 hS.1) (fun z => h2 (hA q z))]; exact hS.2.1 q h1 h2, fun q hq => by
      rcases List.mem_append.mp hq with h | h
      · exact hS.2.2 q h
      · exact hA _ (hL q h)⟩ T' rfl X'
  exact ⟨t2, st t2 a1, b1⟩
end CALLS
theorem Ar_A {A : Nat → Prop} {ρ : Nat → Nat} (h : dA A ρ) : ∀ q, Ar ρ q → A q := by
  rintro q ⟨k, hk, rfl⟩
  exact h.2 k hk
theorem dA_Ar {A : Nat → Prop} {ρ : Nat → Nat} (h : dA A ρ) : dA (Ar ρ) ρ := ⟨h.1, fun i hi => ⟨i, hi, rfl⟩⟩
theorem BW_good {w : Cond} (h : w ∈ BW) : goodWord w = true := (List.mem_filter.mp h).2
theorem goodBW {y0 : MethodName} {cc0 : ByteArray} {m0 : Nat} {r0 : Option FieldType} {ws : List Cond} (h : ∀ w ∈ ws, w ∈ BW) : GoodIn (wY y0 cc0 m0 r0) ws := fun w hw => ⟨List.mem_cons_of_mem _ (h w hw), good_of_word (BW_good (h w hw))⟩
theorem wY_BW {y : MethodName} {cc : ByteArray} {maxL : Nat} {ret : Option FieldType} (h : inB (.code y cc maxL ret) = true) : ∀ w ∈ wY y cc maxL ret, w ∈ BW := by
  intro w hw
  rcases List.mem_cons.mp hw with e | e
  · rw [e]; exact inB_BW h
  · exact e
theorem toL_map (ρ : Nat → Nat) (v : Option Value) (rest : List Value) : (v.map (cv ρ)).toList ++ rest.map (cv ρ) = (v.toList ++ rest).map (cv ρ) := by cases v <;> rfl
theorem catS_cv (ρ : Nat → Nat) (st : List Value) : ((st.map (cv ρ)).map fun v => v.category).sum = catS st := by
  unfold catS
  rw [List.map_map]
  congr 1
  exact List.map_congr_left (fun v _ => cv_cat ρ v)
/-- the checks of a call that are the same for all kinds -/
def cB (y : MethodName) (cc : ByteArray) (maxL : Nat) (ret : Option FieldType) (n : Nat) : Bool := inB (.code y cc maxL ret) && inB (.initialized y.cls) && y.cls != "java/lang/invoke/MethodHandle" && y.cls != "java/lang/invoke/VarHandle" && (parseMethodDescriptor y.desc).map (fun d => d.parameters.length) == some n
theorem cB_spec {y : MethodName} {cc : ByteArray} {maxL : Nat} {ret : Option FieldType} {n : Nat} (h : cB y cc maxL ret n = true) : inB (.code y cc maxL ret) = true ∧ inB (.initialized y.cls) = true ∧ (y.cls ≠ "java/lang/invoke/MethodHandle" ∧ y.cls ≠ "java/lang/invoke/VarHandle" ∧ (parseMethodDescriptor y.desc).map (fun d => d.parameters.length) = some n) := by
  unfold cB at h
  simp only [Bool.and_eq_true, bne_iff_ne, ne_eq, beq_iff_eq] at h
  exact ⟨h.1.1.1.1, h.1.1.1.2, h.1.1.2, h.1.2, h.2⟩
section CR
variable {l : Launch} {own : String} {cc bytes : ByteArray} {nL maxL maxL0 n idx ci : Nat} {R rm : Room} {y y0 : MethodName} {ret ret0 : Option FieldType} {C : CT} {T : u_T} {N : Nat}
theorem cr_S (hD : Does l y (wY y bytes maxL ret) rm C) (hb : cB y bytes maxL ret n = true) (hw : (inB (.methodLink own idx y) && inB (.static y)) = true) (hr : rm.cells = 0 ∧ rm.slots = 0) (hR : rm.frames + 1 ≤ R.frames ∧ 8 + (maxL + 11) + rm.locals ≤ R.locals) : CallRule l own cc (wY y0 cc maxL0 ret0) nL R (idx, true, n, ci, C) := by
  intro p e s m args below meth c γ ρ A kc ks Q hfix hK hN hρ hcap pc As rest X K hn hrec hC hcat hdg H locs ls hP hS hsz kk
  obtain ⟨b1, b2, b3⟩ := cB_spec hb
  simp only [Bool.and_eq_true] at hw
  have hT : GoodIn (wY y0 cc maxL0 ret0) (va_wsS own idx y (wY y bytes maxL ret)) := goodBW (fun w h => by
    rcases List.mem_append.mp h with h | h
    · rcases List.mem_cons.mp h with h | h
      · rw [h]; exact inB_BW hw.1
      · rcases List.mem_cons.mp h with h | h
        · rw [h]; exact inB_BW hw.2
        · rw [List.mem_singleton.mp h]; exact inB_BW b2
    · exact wY_BW b1 w h)
  have hrun := va_runS (As := As.map (cv ρ)) (rest := rest.map (cv ρ)) (H := H) (locs := locs) (cells := kc) (slots := ks) (g := F0 m pc ls ((As.reverse ++ rest).map (cv ρ))) (below := below) (meth := meth) (e := e) hfix (hD γ ρ As X K (dA_Ar hρ) hC) (va_cwS n hfix.2.2.2.2 hT rfl hr.1 hr.2 b3 hR) ⟨Hd.blind γ ρ X _, fun U hU hW => ⟨rfl, Hd.of hP hK hN hU hW⟩⟩ rfl (by rw [List.length_map]; exact hn) hsz (by rw [List.map_append, List.map_reverse]) (lv_room (rest := []) (m := m) (pc := pc) (ls := ls) (by rw [catS_cv]; exact hcat)) hdg ⟨hcap.1, hcap.2⟩
  refine xrun hrun hS (Ar_A hρ) (fun v X' H1 locs1 h1 h2 h3 => ?_)
  rw [toL_map]
  exact kk v X' H1 locs1 h1 h2 h3
theorem zRecv {As : List Value} {c : Nat} (h : recvOk As c) : ∃ b As', As = .ref b :: As' ∧ b < NC ∧ (shp b).1 = c := by
  unfold recvOk at h
  split at h
  next k r => exact ⟨k, r, rfl, h.1, h.2⟩
  next => exact h.elim
theorem cr_V (hD : Does l y (wY y bytes maxL ret) rm C) (hcl : vwCl[ci]? = some (y.cls, T, N)) (hb : cB y bytes maxL ret n = true) (hw : (inB (.methodLink own idx y) && inB (.instanceMethod y) && inB (.selects y.cls y y)) = true) (hr : rm.cells = 0 ∧ rm.slots = 0) (hR : rm.frames + 1 ≤ R.frames ∧ 8 + (maxL + 11) + rm.locals ≤ R.locals) : CallRule l own cc (wY y0 cc maxL0 ret0) nL R (idx, false, n + 1, ci, C) := by
  intro p e s m args below meth c γ ρ A kc ks Q hfix hK hN hρ hcap pc As rest X K hn hrec hC hcat hdg H locs ls hP hS hsz kk
  obtain ⟨b, As', rfl, hb1, hb2⟩ := zRecv (hrec rfl)
  obtain ⟨b1, b2, b3⟩ := cB_spec hb
  simp only [Bool.and_eq_true] at hw
  have hT : GoodIn (wY y0 cc maxL0 ret0) (wsV own idx y.cls y (wY y bytes maxL ret)) := goodBW (fun w h => by
    rcases List.mem_append.mp h with h | h
    · rcases List.mem_cons.mp h with h | h
      · rw [h]; exact inB_BW hw.1.1
      · rcases List.mem_cons.mp h with h | h
        · rw [h]; exact inB_BW hw.1.2
        · rcases List.mem_cons.mp h with h | h
          · rw [h]; exact inB_BW hw.2
          · rw [List.mem_singleton.mp h]; exact inB_BW b2
    · exact wY_BW b1 w h)
  have hc5 : ci < 5 := (cl_facts ci _ hcl).2.2.2.2
  have hrun := va_runV (As := As'.map (cv ρ)) (b := ρ b) (rest := rest.map (cv ρ)) (H := H) (locs := locs) (cells := kc) (slots := ks) (g := F0 m pc ls ((List.reverse (.ref b :: As') ++ rest).map (cv ρ))) (below := below) (meth := meth) (e := e) hfix (hD γ ρ _ X K (dA_Ar hρ) hC) (cwV n hfix.2.2.2.2 hT rfl hr.1 hr.2 ⟨rfl, b3⟩ hR) ⟨Hd.blind γ ρ X _, va_recv hK hP (ci := ci) (q0 := b) hcl ((cells_at γ ρ X hb1).trans (by rw [cellE_obj γ ρ X hb2 hc5])), fun U hU hW => ⟨rfl, Hd.of hP hK hN hU hW⟩⟩ rfl (by rw [List.length_map]; exact Nat.succ.inj hn) hsz (by simp [cv]) (lv_room (rest := []) (m := m) (pc := pc) (ls := ls) (by rw [catS_cv]; exact hcat)) hdg ⟨hcap.1, hcap.2⟩
  refine xrun hrun hS (Ar_A hρ) (fun v X' H1 locs1 h1 h2 h3 => ?_)
  rw [toL_map]
  exact kk v X' H1 locs1 h1 h2 h3
theorem cr_NS (hD : Does l y (wY y bytes maxL ret) rm C) (hb : cB y bytes maxL ret n = true) (hw : inB (.static y) = true) (hnl : (own, idx, y, "RumourSource") ∈ nwM) (hr : rm.cells = 0 ∧ rm.slots = 0) (hR : rm.frames + 1 ≤ R.frames ∧ 8 + (maxL + 11) + rm.locals ≤ R.locals) : CallRule l own cc (wY y0 cc maxL0 ret0) nL R (idx, true, n, ci, C) := by
  intro p e s m args below meth c γ ρ A kc ks Q hfix hK hN hρ hcap pc As rest X K hn hrec hC hcat hdg H locs ls hP hS hsz kk
  obtain ⟨b1, b2, b3⟩ := cB_spec hb
  have hG : GoodIn (wY y0 cc maxL0 ret0) (wY y bytes maxL ret) := goodBW (wY_BW b1)
  have ht : ∀ w, inB w = true → w.before args s = true := fun w h => hfix.2.2.2.2 w (List.mem_cons_of_mem _ (inB_BW h))
  have hrun := va_runSN (As := As.map (cv ρ)) (rest := rest.map (cv ρ)) (H := H) (locs := locs) (cells := kc) (slots := ks) (g := F0 m pc ls ((As.reverse ++ rest).map (cv ρ))) (below := below) (meth := meth) (e := e) (host := "RumourSource") hfix (hD γ ρ As X K (dA_Ar hρ) hC) ⟨va_cnB n hfix.2.2.2.2 hG rfl hr.1 hr.2 (hN.2 _ hnl) (ht _ b2) b3 hR, ht _ hw, trivial⟩ ⟨Hd.blind γ ρ X _, fun U hU hW => ⟨rfl, Hd.of hP hK hN hU hW⟩⟩ rfl (by rw [List.length_map]; exact hn) hsz (by rw [List.map_append, List.map_reverse]) (lv_room (rest := []) (m := m) (pc := pc) (ls := ls) (by rw [catS_cv]; exact hcat)) hdg ⟨hcap.1, hcap.2⟩
  refine xrun hrun hS (Ar_A hρ) (fun v X' H1 locs1 h1 h2 h3 => ?_)
  rw [toL_map]
  exact kk v X' H1 locs1 h1 h2 h3
theorem cr_NV (hD : Does l y (wY y bytes maxL ret) rm C) (hcl : vwCl[ci]? = some (y.cls, T, N)) (hb : cB y bytes maxL ret n = true) (hw : (inB (.instanceMethod y) && inB (.selects y.cls y y)) = true) (hnl : (own, idx, y, "RumourSource") ∈ nwM) (hr : rm.cells = 0 ∧ rm.slots = 0) (hR : rm.frames + 1 ≤ R.frames ∧ 8 + (maxL + 11) + rm.locals ≤ R.locals) : CallRule l own cc (wY y0 cc maxL0 ret0) nL R (idx, false, n + 1, ci, C) := by
  intro p e s m args below meth c γ ρ A kc ks Q hfix hK hN hρ hcap pc As rest X K hn hrec hC hcat hdg H locs ls hP hS hsz kk
  obtain ⟨b, As', rfl, hb1, hb2⟩ := zRecv (hrec rfl)
  obtain ⟨b1, b2, b3⟩ := cB_spec hb
  simp only [Bool.and_eq_true] at hw
  have hG : GoodIn (wY y0 cc maxL0 ret0) (wY y bytes maxL ret) := goodBW (wY_BW b1)
  have ht : ∀ w, inB w = true → w.before args s = true := fun w h => hfix.2.2.2.2 w (List.mem_cons_of_mem _ (inB_BW h))
  have hc5 : ci < 5 := (cl_facts ci _ hcl).2.2.2.2
  have hrun := va_runVN (As := As'.map (cv ρ)) (b := ρ b) (rest := rest.map (cv ρ)) (H := H) (locs := locs) (cells := kc) (slots := ks) (g := F0 m pc ls ((List.reverse (.ref b :: As') ++ rest).map (cv ρ))) (below := below) (meth := meth) (e := e) (host := "RumourSource") (C := y.cls) hfix (hD γ ρ _ X K (dA_Ar hρ) hC) ⟨va_cnB n hfix.2.2.2.2 hG rfl hr.1 hr.2 (hN.2 _ hnl) (ht _ b2) b3 hR, ht _ hw.1, ht _ hw.2⟩ ⟨Hd.blind γ ρ X _, va_recv hK hP (ci := ci) (q0 := b) hcl ((cells_at γ ρ X hb1).trans (by rw [cellE_obj γ ρ X hb2 hc5])), fun U hU hW => ⟨rfl, Hd.of hP hK hN hU hW⟩⟩ rfl (by rw [List.length_map]; exact Nat.succ.inj hn) hsz (by simp [cv]) (lv_room (rest := []) (m := m) (pc := pc) (ls := ls) (by rw [catS_cv]; exact hcat)) hdg ⟨hcap.1, hcap.2⟩
  refine xrun hrun hS (Ar_A hρ) (fun v X' H1 locs1 h1 h2 h3 => ?_)
  rw [toL_map]
  exact kk v X' H1 locs1 h1 h2 h3
end CR
end SOUND
end
section
section SND
theorem xI_e {o : Option Value} {κ : Int32 → Prop} (h : xI o κ) : ∃ x, o = some (.int x) ∧ κ x := by
  unfold xI at h; split at h
  next x => exact ⟨x, rfl, h⟩
  next => exact h.elim
theorem xL_e {o : Option Value} {κ : Int64 → Prop} (h : xL o κ) : ∃ x, o = some (.long x) ∧ κ x := by
  unfold xL at h; split at h
  next x => exact ⟨x, rfl, h⟩
  next => exact h.elim
theorem xR_e {o : Option Value} {κ : Nat → Prop} (h : xR o κ) : ∃ x, o = some (.ref x) ∧ κ x := by
  unfold xR at h; split at h
  next x => exact ⟨x, rfl, h⟩
  next => exact h.elim
theorem s1I_e {st : List Value} {κ : Int32 → List Value → Prop} (h : s1I st κ) : ∃ x r, st = .int x :: r ∧ κ x r := by
  unfold s1I at h; split at h
  next x r => exact ⟨x, r, rfl, h⟩
  next => exact h.elim
theorem s1L_e {st : List Value} {κ : Int64 → List Value → Prop} (h : s1L st κ) : ∃ x r, st = .long x :: r ∧ κ x r := by
  unfold s1L at h; split at h
  next x r => exact ⟨x, r, rfl, h⟩
  next => exact h.elim
theorem s1R_e {st : List Value} {κ : Nat → List Value → Prop} (h : s1R st κ) : ∃ x r, st = .ref x :: r ∧ κ x r := by
  unfold s1R at h; split at h
  next x r => exact ⟨x, r, rfl, h⟩
  next => exact h.elim
theorem s2I_e {st : List Value} {κ : Int32 → Int32 → List Value → Prop} (h : s2I st κ) : ∃ x y r, st = .int y :: .int x :: r ∧ κ x y r := by
  unfold s2I at h; split at h
  next y x r => exact ⟨x, y, r, rfl, h⟩
  next => exact h.elim
theorem s2L_e {st : List Value} {κ : Int64 → Int64 → List Value → Prop} (h : s2L st κ) : ∃ x y r, st = .long y :: .long x :: r ∧ κ x y r := by
  unfold s2L at h; split at h
  next y x r => exact ⟨x, y, r, rfl, h⟩
  next => exact h.elim
theorem sLI_e {st : List Value} {κ : Int64 → Int32 → List Value → Prop} (h : sLI st κ) : ∃ x y r, st = .int y :: .long x :: r ∧ κ x y r := by
  unfold sLI at h; split at h
  next y x r => exact ⟨x, y, r, rfl, h⟩
  next => exact h.elim
theorem sRI_e {st : List Value} {κ : Nat → Int32 → List Value → Prop} (h : sRI st κ) : ∃ q i r, st = .int i :: .ref q :: r ∧ κ q i r := by
  unfold sRI at h; split at h
  next i q r => exact ⟨q, i, r, rfl, h⟩
  next => exact h.elim
theorem sRII_e {st : List Value} {κ : Nat → Int32 → Int32 → List Value → Prop} (h : sRII st κ) : ∃ q i x r, st = .int x :: .int i :: .ref q :: r ∧ κ q i x r := by
  unfold sRII at h; split at h
  next x i q r => exact ⟨q, i, x, r, rfl, h⟩
  next => exact h.elim
theorem sRIL_e {st : List Value} {κ : Nat → Int32 → Int64 → List Value → Prop} (h : sRIL st κ) : ∃ q i x r, st = .long x :: .int i :: .ref q :: r ∧ κ q i x r := by
  unfold sRIL at h; split at h
  next x i q r => exact ⟨q, i, x, r, rfl, h⟩
  next => exact h.elim
theorem sRIR_e {st : List Value} {κ : Nat → Int32 → Nat → List Value → Prop} (h : sRIR st κ) : ∃ q i x r, st = .ref x :: .int i :: .ref q :: r ∧ κ q i x r := by
  unfold sRIR at h; split at h
  next x i q r => exact ⟨q, i, x, r, rfl, h⟩
  next => exact h.elim
theorem pfA_e {X : XT} {c j : Nat} {st : List Value} {κ : List Value → XT → Prop} (h : pfA X c j st κ) : (∃ x q r, st = .int x :: .ref q :: r ∧ fk c j = 0 ∧ q < NC ∧ (shp q).1 = c ∧ (zf c j = true → bl x) ∧ κ r (sI X q j x)) ∨ (∃ x q r, st = .long x :: .ref q :: r ∧ fk c j = 1 ∧ q < NC ∧ (shp q).1 = c ∧ κ r (sL X q j x)) := by
  unfold pfA at h; split at h
  next x q r h0 => exact Or.inl ⟨x, q, r, rfl, h0, h⟩
  next x q r h0 => exact Or.inr ⟨x, q, r, rfl, h0, h⟩
  next => exact h.elim
theorem xcall_e {calls : List CE} {a i : Nat} {sta : Bool} {st : List Value} {X : XT} {κ : List Value → XT → Prop} (h : xcall calls a i sta st X κ) : ∃ n c C As r, (i, sta, n, c, C) ∈ calls ∧ st = As.reverse ++ r ∧ As.length = n ∧ catS r ≤ 8 ∧ (sta = false → recvOk As c) ∧ C As X (fun v X' => κ (v.toList ++ r) X') := by
  unfold xcall at h; split at h
  next i' sta' n c C hc =>
    obtain ⟨⟨e1, e2⟩, h⟩ := h
    subst e1; subst e2
    split at h
    next As r hp =>
      obtain ⟨h1, h2⟩ := popA_st n [] st As r hp
      exact ⟨n, c, C, As, r, List.mem_of_getElem? hc, by rw [h1]; rfl, by rw [h2]; simp, h⟩
    next => exact h.elim
  next => exact h.elim
theorem lv_mono {ls : Array Slot} {n : Nat} {l l' : List (Nat × Value)} (h : lv_has ls n l) (hs : ∀ q ∈ l', q ∈ l) : lv_has ls n l' := ⟨h.1, h.2.1, fun q hq => h.2.2 q (hs q hq)⟩
theorem lv_g {ρ : Nat → Nat} {ls : Array Slot} {n i : Nat} {lv : List (Nat × Value)} {v : Value} (hl : lv_has ls n (lv.map fun q => (q.1, cv ρ q.2))) (h : lget lv i = some v) : ls[i]? = some (.val (cv ρ v)) :=
  hl.2.2 (i, cv ρ v) (List.mem_map.mpr ⟨(i, v), lget_in lv i v h, rfl⟩)
theorem lrm_s1 (ρ : Nat → Nat) (i : Nat) (v : Value) (lv : List (Nat × Value)) : ∀ q ∈ (((i, v) :: lrm i false lv).map fun q => (q.1, cv ρ q.2)), q ∈ (i, cv ρ v) :: (lv.map fun q => (q.1, cv ρ q.2)).filter (fun q => !(q.1 == i) && !(q.1 + 1 == i && q.2.category == 2)) := by
  intro q hq
  rw [List.map_cons] at hq
  rcases List.mem_cons.mp hq with e | e
  · rw [e]; exact List.mem_cons_self
  · obtain ⟨q0, h0, rfl⟩ := List.mem_map.mp e
    obtain ⟨h1, h2, -, h4⟩ := lrm_in i false lv q0 h0
    refine List.mem_cons_of_mem _ (List.mem_filter.mpr ⟨List.mem_map.mpr ⟨q0, h1, rfl⟩, ?_⟩)
    simp only [cv_cat]
    simp only [Bool.and_eq_true, Bool.not_eq_true', beq_eq_false_iff_ne, Bool.and_eq_false_iff, ne_eq]
    exact ⟨h2, (Decidable.not_and_iff_or_not).mp h4⟩
theorem lrm_s2 (ρ : Nat → Nat) (i : Nat) (v : Value) (lv : List (Nat × Value)) : ∀ q ∈ (((i, v) :: lrm i true lv).map fun q => (q.1, cv ρ q.2)), q ∈ (i, cv ρ v) :: (lv.map fun q => (q.1, cv ρ q.2)).filter (fun q => !(q.1 == i) && (!(q.1 == i + 1) && !(q.1 + 1 == i && q.2.category == 2))) := by
  intro q hq
  rw [List.map_cons] at hq
  rcases List.mem_cons.mp hq with e | e
  · rw [e]; exact List.mem_cons_self
  · obtain ⟨q0, h0, rfl⟩ := List.mem_map.mp e
    obtain ⟨h1, h2, h3, h4⟩ := lrm_in i true lv q0 h0
    refine List.mem_cons_of_mem _ (List.mem_filter.mpr ⟨List.mem_map.mpr ⟨q0, h1, rfl⟩, ?_⟩)
    simp only [cv_cat]
    simp only [Bool.and_eq_true, Bool.not_eq_true', beq_eq_false_iff_ne, Bool.and_eq_false_iff, ne_eq]
    exact ⟨h2, h3 rfl, (Decidable.not_and_iff_or_not).mp h4⟩
theorem cv_fvA (ρ : Nat → Nat) (X : XT) (c k j : Nat) : cv ρ (fvA X c k j) = fv ρ X c k j := by
  unfold fvA fv
  match fk c j with
  | 0 => rfl
  | 1 => rfl
  | n + 2 => rfl
theorem fldB_e {own : String} {i c j : Nat} (h : fldB own i c j = true) : ∃ C T N, vwCl[c]? = some (C, T, N) ∧ j < N ∧ (inB (.fieldLink own i (T j).1 (T j).2.1 (T j).2.2.1) = true ∨ (own, i, (T j).1, (T j).2.1, (T j).2.2.1, "RumourSource") ∈ nwF) := by
  unfold fldB at h; split at h
  next C T N hc =>
    simp only [Bool.and_eq_true, decide_eq_true_eq, Bool.or_eq_true] at h
    exact ⟨C, T, N, hc, h.1, h.2.imp id (fun z => by simpa using z)⟩
  next => cases h
theorem obj_at {γ : GT} {ρ : Nat → Nat} {X : XT} {q c : Nat} (hq : q < NC) (hs : (shp q).1 = c) (hc : c < 5) : (cells γ ρ X)[q]? = some (ρ q, .inr (c, (List.range (nf c)).map (fv ρ X c q))) := by
  rw [cells_at γ ρ X hq, cellE_obj γ ρ X hs hc]
theorem fs_at {ρ : Nat → Nat} {X : XT} {q c j : Nat} (hj : j < nf c) : ((List.range (nf c)).map (fv ρ X c q))[j]? = some (fv ρ X c q j) := by
  rw [List.getElem?_map, List.getElem?_range hj]; rfl
theorem fk_desc {c j : Nat} {C : String} {T : u_T} {N : Nat} (hc : vwCl[c]? = some (C, T, N)) (hj : j < N) : (fk c j = 0 → (T j).2.2.2 = false ∧ (T j).2.2.1 = (if zf c j then "Z" else "I")) ∧ (fk c j = 1 → (T j).2.2.2 = false ∧ (T j).2.2.1 = "J") := by
  obtain ⟨-, -, -, hN, h5⟩ := cl_facts c _ hc
  have hN' : N = nf c := hN
  have h12 : j < 12 := by
    have : nf c ≤ 12 := by rcases (by omega : c = 0 ∨ c = 1 ∨ c = 2 ∨ c = 3 ∨ c = 4) with rfl | rfl | rfl | rfl | rfl <;> decide
    omega
  have h := List.all_eq_true.mp (List.all_eq_true.mp fkd_ok c (List.mem_range.mpr h5)) j (List.mem_range.mpr h12)
  unfold fkd at h
  rw [hc] at h
  simp only [if_pos hj] at h
  refine ⟨fun z => ?_, fun z => ?_⟩
  · rw [if_pos z] at h
    simpa using h
  · rw [z] at h
    simpa using h
theorem nar_bl {x : Int32} (h : bl x) : narrow .boolean (.int x) = .int x ∧ fits .boolean (.int x) = true ∧ vp_nar .boolean x = x := by
  rcases h with rfl | rfl <;> exact ⟨rfl, rfl, rfl⟩
theorem desc_I : parseFieldDescriptor "I" = some .int := by decide +kernel
theorem desc_Z : parseFieldDescriptor "Z" = some .boolean := by decide +kernel
theorem desc_J : parseFieldDescriptor "J" = some .long := by decide +kernel
end SND
section SOUND2
variable {p : Program} {l : Launch} {e : Env} {R : Room} {s : State} {m : MethodId} {args : Array Value} {below : List Frame} {meth : Method} {c : Code} {Q : State → Prop} {γ : GT} {ρ : Nat → Nat} {A : Nat → Prop} {kc ks nL : Nat} {cc : ByteArray} {ws : List Cond} {own : String}
variable {t : List (Nat × TE)} {calls : List CE} {rt L : Nat} {sc : Option (Nat → Int32)} {post : Option Value → XT → Prop}
def RetOk (p : Program) (l : Launch) (e : Env) (R : Room) (s : State) (m : MethodId) (args : Array Value) (below : List Frame) (meth : Method) (c : Code) (γ : GT) (ρ : Nat → Nat) (A : Nat → Prop) (kc ks : Nat) (Q : State → Prop) (cc : ByteArray) (rt : Nat) (post : Option Value → XT → Prop) : Prop :=
  ∀ (ins : Instr) (pc : Nat) (st : List Value) (X : XT) (H : Heap) (locs : List Loc) (ls : Array Slot), decode cc pc = .ok (ins, 1) → retx rt post ins st X → va_P γ.1 vwCl (cells γ ρ X) H → va_S A s.heap H locs → W p l e R s m args below meth c H locs kc ks Q (F0 m pc ls (st.map (cv ρ)))
set_option maxHeartbeats 4000000 in
theorem exec_sound (hfix : CallFix p m c cc nL s args ws own) (hBW : ∀ w ∈ BW, w ∈ ws) (hK : va_K γ.1 vwCl (tysG γ) s) (hN : NL s) (hρ : dA A ρ) (hcap : kc ≤ R.cells ∧ ks ≤ R.slots) (hcalls : ∀ q ∈ calls, CallRule l own cc ws nL R q)
    (hret : RetOk p l e R s m args below meth c γ ρ A kc ks Q cc rt post)
    (hscr : ∀ xs, sc = some xs → va_X (ρ 999) L xs s s.heap ∧ ρ 999 < s.heap.size ∧ ¬ A (ρ 999)) (htk : tOk cc own nL t = true) :
    ∀ (κ : KT), (∀ pc lv st X, κ pc lv st X → RX p l e R s m args below meth c γ ρ A nL kc ks Q pc lv st X) → ∀ pc lv st X te, fetch t pc = some te → exec rt calls sc L post te pc lv st X κ → RX p l e R s m args below meth c γ ρ A nL kc ks Q pc lv st X := by
  intro κ hκ pc lv st X te hf h H locs ls hP hS hl
  obtain ⟨hx, hb, hml, hown, hts⟩ := id hfix
  have hD := cells_D hρ γ X
  have htB : ∀ w, inB w = true → w.before args s = true := fun w hw => hts w (hBW w (inB_BW hw))
  have hin := List.all_eq_true.mp htk _ (fetch_in t pc te hf)
  obtain ⟨ins, len, a, b, k, w⟩ := te
  simp only [Bool.and_eq_true] at hin
  obtain ⟨⟨he, hlo⟩, hn⟩ := hin
  unfold eOk at he
  simp only [Bool.and_eq_true, decide_eq_true_eq] at he
  obtain ⟨hd, he⟩ := he
  cases ins
  case iload i =>
    simp only [Bool.and_eq_true, beq_iff_eq] at he
    obtain ⟨rfl, rfl⟩ := he
    obtain ⟨x, e1, h⟩ := xI_e h
    exact lv_iload hx hb hd (lv_g hl e1) (hκ _ _ _ _ h H locs ls hP hS hl)
  case iload_n i =>
    simp only [Bool.and_eq_true, beq_iff_eq] at he
    obtain ⟨rfl, rfl⟩ := he
    obtain ⟨x, e1, h⟩ := xI_e h
    exact lv_iload_n hx hb hd rfl (lv_g hl e1) (hκ _ _ _ _ h H locs ls hP hS hl)
  case lload i =>
    simp only [Bool.and_eq_true, beq_iff_eq] at he
    obtain ⟨rfl, rfl⟩ := he
    obtain ⟨x, e1, h⟩ := xL_e h
    exact lv_lload hx hb hd (lv_g hl e1) (hκ _ _ _ _ h H locs ls hP hS hl)
  case lload_n i =>
    simp only [Bool.and_eq_true, beq_iff_eq] at he
    obtain ⟨rfl, rfl⟩ := he
    obtain ⟨x, e1, h⟩ := xL_e h
    exact lv_lload_n hx hb hd rfl (lv_g hl e1) (hκ _ _ _ _ h H locs ls hP hS hl)
  case aload i =>
    simp only [Bool.and_eq_true, beq_iff_eq] at he
    obtain ⟨rfl, rfl⟩ := he
    obtain ⟨x, e1, h⟩ := xR_e h
    exact lv_aload hx hb hd (lv_g hl e1) (hκ _ _ _ _ h H locs ls hP hS hl)
  case aload_n i =>
    simp only [Bool.and_eq_true, beq_iff_eq] at he
    obtain ⟨rfl, rfl⟩ := he
    obtain ⟨x, e1, h⟩ := xR_e h
    exact lv_aload_n hx hb hd rfl (lv_g hl e1) (hκ _ _ _ _ h H locs ls hP hS hl)
  case istore i =>
    simp only [Bool.and_eq_true, beq_iff_eq] at he
    obtain ⟨rfl, rfl⟩ := he
    obtain ⟨x, r, rfl, h⟩ := s1I_e h
    exact lv_istore hx hb hd hl (of_decide_eq_true hn) rfl (fun ls1 hl1 => hκ _ _ _ _ h H locs ls1 hP hS (lv_mono hl1 (lrm_s1 ρ _ (.int x) lv)))
  case istore_n i =>
    simp only [Bool.and_eq_true, beq_iff_eq] at he
    obtain ⟨rfl, rfl⟩ := he
    obtain ⟨x, r, rfl, h⟩ := s1I_e h
    exact lv_istore_n hx hb hd rfl hl (of_decide_eq_true hn) rfl (fun ls1 hl1 => hκ _ _ _ _ h H locs ls1 hP hS (lv_mono hl1 (lrm_s1 ρ _ (.int x) lv)))
  case lstore i =>
    simp only [Bool.and_eq_true, beq_iff_eq] at he
    obtain ⟨rfl, rfl⟩ := he
    obtain ⟨x, r, rfl, h⟩ := s1L_e h
    exact lv_lstore hx hb hd hl (of_decide_eq_true hn) rfl (fun ls1 hl1 => hκ _ _ _ _ h H locs ls1 hP hS (lv_mono hl1 (lrm_s2 ρ _ (.long x) lv)))
  case lstore_n i =>
    simp only [Bool.and_eq_true, beq_iff_eq] at he
    obtain ⟨rfl, rfl⟩ := he
    obtain ⟨x, r, rfl, h⟩ := s1L_e h
    exact lv_lstore_n hx hb hd rfl hl (of_decide_eq_true hn) rfl (fun ls1 hl1 => hκ _ _ _ _ h H locs ls1 hP hS (lv_mono hl1 (lrm_s2 ρ _ (.long x) lv)))
  case astore i =>
    simp only [Bool.and_eq_true, beq_iff_eq] at he
    obtain ⟨rfl, rfl⟩ := he
    obtain ⟨x, r, rfl, h⟩ := s1R_e h
    exact lv_astore hx hb hd hl (of_decide_eq_true hn) rfl (fun ls1 hl1 => hκ _ _ _ _ h H locs ls1 hP hS (lv_mono hl1 (lrm_s1 ρ _ (.ref x) lv)))
  case astore_n i =>
    simp only [Bool.and_eq_true, beq_iff_eq] at he
    obtain ⟨rfl, rfl⟩ := he
    obtain ⟨x, r, rfl, h⟩ := s1R_e h
    exact lv_astore_n hx hb hd rfl hl (of_decide_eq_true hn) rfl (fun ls1 hl1 => hκ _ _ _ _ h H locs ls1 hP hS (lv_mono hl1 (lrm_s1 ρ _ (.ref x) lv)))
  case iinc i n =>
    simp only [Bool.and_eq_true, beq_iff_eq] at he
    obtain ⟨⟨rfl, rfl⟩, rfl⟩ := he
    obtain ⟨x, e1, h⟩ := xI_e h
    obtain ⟨j, hj⟩ := List.getElem?_of_mem (List.mem_map.mpr ⟨(i, .int x), lget_in lv i _ e1, rfl⟩ : (i, Value.int x) ∈ lv.map fun q => (q.1, cv ρ q.2))
    exact lv_iinc hx hb hd hl hj rfl (of_decide_eq_true hn) rfl (fun ls1 hl1 => hκ _ _ _ _ h H locs ls1 hP hS (lv_mono hl1 (lrm_s1 ρ _ (.int _) lv)))
  case iconst n =>
    simp only [Bool.and_eq_true, beq_iff_eq] at he
    obtain ⟨e1, rfl⟩ := he
    exact lv_iconst hx hb hd e1 (hκ _ _ _ _ h H locs ls hP hS hl)
  case bipush n =>
    simp only [Bool.and_eq_true, beq_iff_eq] at he
    obtain ⟨e1, rfl⟩ := he
    exact lv_bipush hx hb hd e1 (hκ _ _ _ _ h H locs ls hP hS hl)
  case sipush n =>
    simp only [Bool.and_eq_true, beq_iff_eq] at he
    obtain ⟨e1, rfl⟩ := he
    exact lv_sipush hx hb hd e1 (hκ _ _ _ _ h H locs ls hP hS hl)
  case lconst n =>
    simp only [Bool.and_eq_true, beq_iff_eq] at he
    obtain ⟨e1, rfl⟩ := he
    exact lv_lconst hx hb hd e1 (hκ _ _ _ _ h H locs ls hP hS hl)
  case ldc i =>
    obtain rfl : len = 2 := by simpa using he
    exact lv_ldc hx hb hown (htB _ hlo) hd (hκ _ _ _ _ h H locs ls hP hS hl)
  case ldc2_w i =>
    obtain rfl : len = 3 := by simpa using he
    exact lv_ldc2 hx hb hown (htB _ hlo) hd (hκ _ _ _ _ h H locs ls hP hS hl)
  case iadd =>
    obtain rfl : len = 1 := by simpa using he
    obtain ⟨x, y, r, rfl, h⟩ := s2I_e h
    exact lv_iadd hx hb hd (hκ _ _ _ _ h H locs ls hP hS hl)
  case isub =>
    obtain rfl : len = 1 := by simpa using he
    obtain ⟨x, y, r, rfl, h⟩ := s2I_e h
    exact lv_isub hx hb hd (hκ _ _ _ _ h H locs ls hP hS hl)
  case imul =>
    obtain rfl : len = 1 := by simpa using he
    obtain ⟨x, y, r, rfl, h⟩ := s2I_e h
    exact lv_imul hx hb hd (hκ _ _ _ _ h H locs ls hP hS hl)
  case iand =>
    obtain rfl : len = 1 := by simpa using he
    obtain ⟨x, y, r, rfl, h⟩ := s2I_e h
    exact lv_iand hx hb hd (hκ _ _ _ _ h H locs ls hP hS hl)
  case ior =>
    obtain rfl : len = 1 := by simpa using he
    obtain ⟨x, y, r, rfl, h⟩ := s2I_e h
    exact lv_ior hx hb hd (hκ _ _ _ _ h H locs ls hP hS hl)
  case ishl =>
    obtain rfl : len = 1 := by simpa using he
    obtain ⟨x, y, r, rfl, h⟩ := s2I_e h
    exact lv_ishl hx hb hd (hκ _ _ _ _ h H locs ls hP hS hl)
  case ishr =>
    obtain rfl : len = 1 := by simpa using he
    obtain ⟨x, y, r, rfl, h⟩ := s2I_e h
    exact lv_ishr hx hb hd (hκ _ _ _ _ h H locs ls hP hS hl)
  case iushr =>
    obtain rfl : len = 1 := by simpa using he
    obtain ⟨x, y, r, rfl, h⟩ := s2I_e h
    exact lv_iushr hx hb hd rfl (hκ _ _ _ _ h H locs ls hP hS hl)
  case idiv =>
    obtain rfl : len = 1 := by simpa using he
    obtain ⟨x, y, r, rfl, h0, h⟩ := s2I_e h
    exact lv_idiv hx hb hd h0 (hκ _ _ _ _ h H locs ls hP hS hl)
  case irem =>
    obtain rfl : len = 1 := by simpa using he
    obtain ⟨x, y, r, rfl, h0, h⟩ := s2I_e h
    exact lv_irem hx hb hd h0 (hκ _ _ _ _ h H locs ls hP hS hl)
  case ladd =>
    obtain rfl : len = 1 := by simpa using he
    obtain ⟨x, y, r, rfl, h⟩ := s2L_e h
    exact lv_ladd hx hb hd (hκ _ _ _ _ h H locs ls hP hS hl)
  case lsub =>
    obtain rfl : len = 1 := by simpa using he
    obtain ⟨x, y, r, rfl, h⟩ := s2L_e h
    exact lv_lsub hx hb hd (hκ _ _ _ _ h H locs ls hP hS hl)
  case lmul =>
    obtain rfl : len = 1 := by simpa using he
    obtain ⟨x, y, r, rfl, h⟩ := s2L_e h
    exact lv_lmul hx hb hd (hκ _ _ _ _ h H locs ls hP hS hl)
  case land =>
    obtain rfl : len = 1 := by simpa using he
    obtain ⟨x, y, r, rfl, h⟩ := s2L_e h
    exact lv_land hx hb hd (hκ _ _ _ _ h H locs ls hP hS hl)
  case lor =>
    obtain rfl : len = 1 := by simpa using he
    obtain ⟨x, y, r, rfl, h⟩ := s2L_e h
    exact lv_lor hx hb hd (hκ _ _ _ _ h H locs ls hP hS hl)
  case ldiv =>
    obtain rfl : len = 1 := by simpa using he
    obtain ⟨x, y, r, rfl, h0, h⟩ := s2L_e h
    exact lv_ldiv hx hb hd h0 (hκ _ _ _ _ h H locs ls hP hS hl)
  case lcmp =>
    obtain rfl : len = 1 := by simpa using he
    obtain ⟨x, y, r, rfl, h⟩ := s2L_e h
    exact W.lcmp hx hb hd (hκ _ _ _ _ h H locs ls hP hS hl)
  case lshl =>
    obtain rfl : len = 1 := by simpa using he
    obtain ⟨x, y, r, rfl, h⟩ := sLI_e h
    exact lv_lshl hx hb hd rfl (hκ _ _ _ _ h H locs ls hP hS hl)
  case lushr =>
    obtain rfl : len = 1 := by simpa using he
    obtain ⟨x, y, r, rfl, h⟩ := sLI_e h
    exact lv_lushr hx hb hd rfl (hκ _ _ _ _ h H locs ls hP hS hl)
  case i2l =>
    obtain rfl : len = 1 := by simpa using he
    obtain ⟨x, r, rfl, h⟩ := s1I_e h
    exact lv_i2l hx hb hd rfl (hκ _ _ _ _ h H locs ls hP hS hl)
  case l2i =>
    obtain rfl : len = 1 := by simpa using he
    obtain ⟨x, r, rfl, h⟩ := s1L_e h
    exact lv_l2i hx hb hd rfl (hκ _ _ _ _ h H locs ls hP hS hl)
  case dup =>
    obtain rfl : len = 1 := by simpa using he
    match st, h with
    | v :: r, h =>
      obtain ⟨h0, h⟩ := h
      exact lv_dup hx hb hd ((cv_cat ρ v).trans h0) (hκ _ _ _ _ h H locs ls hP hS hl)
  case pop =>
    obtain rfl : len = 1 := by simpa using he
    match st, h with
    | v :: r, h =>
      obtain ⟨h0, h⟩ := h
      exact lv_pop hx hb hd ((cv_cat ρ v).trans h0) (hκ _ _ _ _ h H locs ls hP hS hl)
  case dup2 =>
    obtain rfl : len = 1 := by simpa using he
    match st, h with
    | v :: u :: r, h =>
      obtain ⟨⟨h0, h1⟩, h⟩ := h
      exact lv_dup2_11 hx hb hd ((cv_cat ρ v).trans h0) ((cv_cat ρ u).trans h1) (hκ _ _ _ _ h H locs ls hP hS hl)
  case ifCond q o =>
    simp only [Bool.and_eq_true, beq_iff_eq] at he
    obtain ⟨e1, rfl⟩ := he
    cases q
    case eq => (obtain ⟨x, r, rfl, h⟩ := s1I_e h; exact lv_if_eq hx hb hd e1 (fun z => hκ _ _ _ _ (h.1 z) H locs ls hP hS hl) (fun z => hκ _ _ _ _ (h.2 z) H locs ls hP hS hl))
    case ne => (obtain ⟨x, r, rfl, h⟩ := s1I_e h; exact lv_if_ne hx hb hd e1 (fun z => hκ _ _ _ _ (h.1 z) H locs ls hP hS hl) (fun z => hκ _ _ _ _ (h.2 z) H locs ls hP hS hl))
    case lt => (obtain ⟨x, r, rfl, h⟩ := s1I_e h; exact lv_if_lt hx hb hd e1 (fun z => hκ _ _ _ _ (h.1 z) H locs ls hP hS hl) (fun z => hκ _ _ _ _ (h.2 z) H locs ls hP hS hl))
    case ge => (obtain ⟨x, r, rfl, h⟩ := s1I_e h; exact lv_if_ge hx hb hd e1 (fun z => hκ _ _ _ _ (h.1 z) H locs ls hP hS hl) (fun z => hκ _ _ _ _ (h.2 z) H locs ls hP hS hl))
    case gt => (obtain ⟨x, r, rfl, h⟩ := s1I_e h; exact lv_if_gt hx hb hd e1 (fun z => hκ _ _ _ _ (h.1 z) H locs ls hP hS hl) (fun z => hκ _ _ _ _ (h.2 z) H locs ls hP hS hl))
    case le => (obtain ⟨x, r, rfl, h⟩ := s1I_e h; exact lv_if_le hx hb hd e1 (fun z => hκ _ _ _ _ (h.1 z) H locs ls hP hS hl) (fun z => hκ _ _ _ _ (h.2 z) H locs ls hP hS hl))
  case if_icmp q o =>
    simp only [Bool.and_eq_true, beq_iff_eq] at he
    obtain ⟨e1, rfl⟩ := he
    cases q
    case eq => (obtain ⟨x, y, r, rfl, h⟩ := s2I_e h; exact lv_icmp_eq hx hb hd e1 (fun z => hκ _ _ _ _ (h.1 z) H locs ls hP hS hl) (fun z => hκ _ _ _ _ (h.2 z) H locs ls hP hS hl))
    case ne => (obtain ⟨x, y, r, rfl, h⟩ := s2I_e h; exact lv_icmp_ne hx hb hd e1 (fun z => hκ _ _ _ _ (h.1 z) H locs ls hP hS hl) (fun z => hκ _ _ _ _ (h.2 z) H locs ls hP hS hl))
    case lt => (obtain ⟨x, y, r, rfl, h⟩ := s2I_e h; exact lv_icmp_lt hx hb hd e1 (fun z => hκ _ _ _ _ (h.1 z) H locs ls hP hS hl) (fun z => hκ _ _ _ _ (h.2 z) H locs ls hP hS hl))
    case ge => (obtain ⟨x, y, r, rfl, h⟩ := s2I_e h; exact lv_icmp_ge hx hb hd e1 (fun z => hκ _ _ _ _ (h.1 z) H locs ls hP hS hl) (fun z => hκ _ _ _ _ (h.2 z) H locs ls hP hS hl))
    case gt => (obtain ⟨x, y, r, rfl, h⟩ := s2I_e h; exact lv_icmp_gt hx hb hd e1 (fun z => hκ _ _ _ _ (h.1 z) H locs ls hP hS hl) (fun z => hκ _ _ _ _ (h.2 z) H locs ls hP hS hl))
    case le => (obtain ⟨x, y, r, rfl, h⟩ := s2I_e h; exact lv_icmp_le hx hb hd e1 (fun z => hκ _ _ _ _ (h.1 z) H locs ls hP hS hl) (fun z => hκ _ _ _ _ (h.2 z) H locs ls hP hS hl))
  case goto o =>
    simp only [Bool.and_eq_true, beq_iff_eq] at he
    obtain ⟨e1, rfl⟩ := he
    exact lv_goto hx hb hd e1 (hκ _ _ _ _ h H locs ls hP hS hl)
  case tableswitch d lo hi offs =>
    simp only [Bool.and_eq_true, decide_eq_true_eq] at he
    obtain ⟨⟨e1, e2⟩, e3⟩ := he
    obtain ⟨x, r, rfl, hg⟩ := s1I_e h
    unfold tsw at hg
    by_cases z : x.toInt < lo ∨ hi < x.toInt
    · rw [if_pos z] at hg
      exact lv_tableOut hx hb hd z (Int.toNat_of_nonneg e1).symm (hκ _ _ _ _ hg H locs ls hP hS hl)
    · rw [if_neg z] at hg
      have z1 : ¬ x.toInt < lo := fun q => z (Or.inl q)
      have z2 : ¬ hi < x.toInt := fun q => z (Or.inr q)
      have z3 : (x.toInt - lo).toNat < offs.size := by omega
      have z4 : offs[(x.toInt - lo).toNat]? = some (offs.getD (x.toInt - lo).toNat 0) := by simp [Array.getD, z3]
      have z5 : 0 ≤ (pc : Int) + offs.getD (x.toInt - lo).toNat 0 := of_decide_eq_true (List.all_eq_true.mp e2 _ (Array.mem_toList_iff.mpr (Array.mem_of_getElem? z4)))
      exact lv_tableIn hx hb hd z1 z2 z4 (Int.toNat_of_nonneg z5).symm (hκ _ _ _ _ hg H locs ls hP hS hl)
  case getfield i =>
    obtain rfl : len = 3 := by simpa using he
    obtain ⟨q, r, rfl, ⟨g1, g2⟩, h⟩ := s1R_e h
    obtain ⟨C, T, N, f1, f2, f3⟩ := fldB_e hlo
    obtain ⟨u1, u2, u3, u4, u5⟩ := cl_facts a _ f1
    have hr := hκ _ _ _ _ h H locs ls hP hS hl
    rw [List.map_cons, cv_fvA] at hr
    have f4 : b < nf a := (show N = nf a from u4) ▸ f2
    rcases f3 with f3 | f3
    · exact va_get (v := fv ρ X a q b) hx hb hts (fun w hw => hBW w (u1 w hw)) hown hK hP q (obj_at g1 g2 u5) f1 b f2 (htB _ f3) (fun _ z => z) (fs_at f4) hd hr
    · exact va_getN (v := fv ρ X a q b) hx hb hts (fun w hw => hBW w (u1 w hw)) hown hK hP q (obj_at g1 g2 u5) f1 b f2 (va_Nw.use rfl (hN.1 _ f3)) (fun _ z => z) (fs_at f4) hd hr
  case putfield i =>
    obtain rfl : len = 3 := by simpa using he
    obtain ⟨C, T, N, f1, f2, f3⟩ := fldB_e hlo
    obtain ⟨u1, u2, u3, u4, u5⟩ := cl_facts a _ f1
    have f4 : b < nf a := (show N = nf a from u4) ▸ f2
    obtain ⟨dI, dJ⟩ := fk_desc f1 f2
    rcases pfA_e h with ⟨x, q, r, rfl, g0, g1, g2, g3, h⟩ | ⟨x, q, r, rfl, g0, g1, g2, h⟩
    · obtain ⟨d1, d2⟩ := dI g0
      by_cases z : zf a b = true
      · rw [if_pos z] at d2
        have f5 : b < ((List.range (nf a)).map (fv ρ X a q)).length := by simpa using f4
        rcases f3 with f3 | f3
        · exact va_put (v := .int x) (ty := .boolean) hx hb hts (fun w hw => hBW w (u1 w hw)) (tyG a) u2 u3 hown hK hP hD hS q (obj_at g1 g2 u5) f1 b f2 (htB _ f3) (fun _ z => z) d1 (by rw [d2]; exact desc_Z) (nar_bl (g3 z)).1 (nar_bl (g3 z)).2.1 f5 hd (fun H1 locs1 hP1 hD1 hS1 => hκ _ _ _ _ h H1 locs1 ls (by rw [← cells_putI γ ρ X g1 g2 u5 b g0 x]; exact hP1) hS1 hl)
        · exact va_putN (v := .int x) (ty := .boolean) hx hb hts (fun w hw => hBW w (u1 w hw)) (tyG a) u2 u3 hown hK hP hD hS q (obj_at g1 g2 u5) f1 b f2 (va_Nw.use rfl (hN.1 _ f3)) (fun _ z => z) d1 (by rw [d2]; exact desc_Z) (nar_bl (g3 z)).1 (nar_bl (g3 z)).2.1 f5 hd (fun H1 locs1 hP1 hD1 hS1 => hκ _ _ _ _ h H1 locs1 ls (by rw [← cells_putI γ ρ X g1 g2 u5 b g0 x]; exact hP1) hS1 hl)
      · rw [if_neg z] at d2
        have f5 : b < ((List.range (nf a)).map (fv ρ X a q)).length := by simpa using f4
        rcases f3 with f3 | f3
        · exact va_put (v := .int x) (ty := .int) hx hb hts (fun w hw => hBW w (u1 w hw)) (tyG a) u2 u3 hown hK hP hD hS q (obj_at g1 g2 u5) f1 b f2 (htB _ f3) (fun _ z => z) d1 (by rw [d2]; exact desc_I) rfl rfl f5 hd (fun H1 locs1 hP1 hD1 hS1 => hκ _ _ _ _ h H1 locs1 ls (by rw [← cells_putI γ ρ X g1 g2 u5 b g0 x]; exact hP1) hS1 hl)
        · exact va_putN (v := .int x) (ty := .int) hx hb hts (fun w hw => hBW w (u1 w hw)) (tyG a) u2 u3 hown hK hP hD hS q (obj_at g1 g2 u5) f1 b f2 (va_Nw.use rfl (hN.1 _ f3)) (fun _ z => z) d1 (by rw [d2]; exact desc_I) rfl rfl f5 hd (fun H1 locs1 hP1 hD1 hS1 => hκ _ _ _ _ h H1 locs1 ls (by rw [← cells_putI γ ρ X g1 g2 u5 b g0 x]; exact hP1) hS1 hl)
    · obtain ⟨d1, d2⟩ := dJ g0
      have f5 : b < ((List.range (nf a)).map (fv ρ X a q)).length := by simpa using f4
      rcases f3 with f3 | f3
      · exact va_put (v := .long x) (ty := .long) hx hb hts (fun w hw => hBW w (u1 w hw)) (tyG a) u2 u3 hown hK hP hD hS q (obj_at g1 g2 u5) f1 b f2 (htB _ f3) (fun _ z => z) d1 (by rw [d2]; exact desc_J) rfl rfl f5 hd (fun H1 locs1 hP1 hD1 hS1 => hκ _ _ _ _ h H1 locs1 ls (by rw [← cells_putL γ ρ X g1 g2 u5 b g0 x]; exact hP1) hS1 hl)
      · exact va_putN (v := .long x) (ty := .long) hx hb hts (fun w hw => hBW w (u1 w hw)) (tyG a) u2 u3 hown hK hP hD hS q (obj_at g1 g2 u5) f1 b f2 (va_Nw.use rfl (hN.1 _ f3)) (fun _ z => z) d1 (by rw [d2]; exact desc_J) rfl rfl f5 hd (fun H1 locs1 hP1 hD1 hS1 => hκ _ _ _ _ h H1 locs1 ls (by rw [← cells_putL γ ρ X g1 g2 u5 b g0 x]; exact hP1) hS1 hl)
  case iaload =>
    obtain rfl : len = 1 := by simpa using he
    obtain ⟨q, i, r, rfl, hg⟩ := sRI_e h
    unfold scrR at hg
    have nor : ((q < NC ∧ (shp q).1 = 5 ∧ vp_in i (shp q).2) ∧ κ (pc + 1) lv (.int (X.1 q i.toNatClampNeg) :: r) X) → W p l e R s m args below meth c H locs kc ks Q (F0 m pc ls ((.int i :: .ref q :: r : List Value).map (cv ρ))) := by
      rintro ⟨⟨g1, g2, g3⟩, hg⟩
      exact va_iald hx hb hK hP q 0 ((cells_at γ ρ X g1).trans (by rw [cellE_arrI γ ρ X g2])) rfl g3 hd (hκ _ _ _ _ hg H locs ls hP hS hl)
    split at hg
    next => exact nor hg
    next xs =>
      split at hg
      next hq =>
        obtain ⟨a1, a2, a3⟩ := hscr xs rfl
        subst hq
        exact va_sld hx hb a1 a2 a3 hS hg.1 hd (hκ _ _ _ _ hg.2 H locs ls hP hS hl)
      next => exact nor hg
  case baload =>
    obtain rfl : len = 1 := by simpa using he
    obtain ⟨q, i, r, rfl, ⟨g1, g2, g3⟩, h⟩ := sRI_e h
    exact va_zald hx hb hK hP q 2 ((cells_at γ ρ X g1).trans (by rw [cellE_arrZ γ ρ X g2])) rfl g3 hd (hκ _ _ _ _ h H locs ls hP hS hl)
  case laload =>
    obtain rfl : len = 1 := by simpa using he
    obtain ⟨q, i, r, rfl, ⟨g1, g2, g3⟩, h⟩ := sRI_e h
    exact va_lald hx hb hK hP q 1 ((cells_at γ ρ X g1).trans (by rw [cellE_arrL γ ρ X g2])) rfl g3 hd (hκ _ _ _ _ h H locs ls hP hS hl)
  case aaload =>
    obtain rfl : len = 1 := by simpa using he
    obtain ⟨q, i, r, rfl, ⟨g1, g2, g3⟩, h⟩ := sRI_e h
    exact va_aldq (f := fun j => some (ρ (X.2.2 j))) hx hb hK hP q 3 ((cells_at γ ρ X g1).trans (by rw [cellE_arrR γ ρ X g2])) rfl g3 hd (hκ _ _ _ _ h H locs ls hP hS hl)
  case iastore =>
    obtain rfl : len = 1 := by simpa using he
    obtain ⟨q, i, x, r, rfl, ⟨g1, g2, g3⟩, h⟩ := sRII_e h
    exact va_iast hx hb hK hP hD hS q 0 ((cells_at γ ρ X g1).trans (by rw [cellE_arrI γ ρ X g2])) rfl g3 hd (fun H1 locs1 hP1 hD1 hS1 => hκ _ _ _ _ h H1 locs1 ls (by rw [← cells_setI γ ρ X g1 g2]; exact hP1) hS1 hl)
  case bastore =>
    obtain rfl : len = 1 := by simpa using he
    obtain ⟨q, i, x, r, rfl, ⟨g1, g2, g3, g4⟩, h⟩ := sRII_e h
    exact va_zast hx hb hK hP hD hS q 2 ((cells_at γ ρ X g1).trans (by rw [cellE_arrZ γ ρ X g2])) rfl g3 hd (fun H1 locs1 hP1 hD1 hS1 => hκ _ _ _ _ h H1 locs1 ls (by rw [← cells_setZ γ ρ X g1 g2]; rw [(nar_bl g4).2.2] at hP1; exact hP1) hS1 hl)
  case lastore =>
    obtain rfl : len = 1 := by simpa using he
    obtain ⟨q, i, x, r, rfl, ⟨g1, g2, g3⟩, h⟩ := sRIL_e h
    exact va_last hx hb hK hP hD hS q 1 ((cells_at γ ρ X g1).trans (by rw [cellE_arrL γ ρ X g2])) rfl g3 hd (fun H1 locs1 hP1 hD1 hS1 => hκ _ _ _ _ h H1 locs1 ls (by rw [← cells_setL γ ρ X g1 g2]; exact hP1) hS1 hl)
  case aastore =>
    obtain rfl : len = 1 := by simpa using he
    obtain ⟨q, i, x, r, rfl, ⟨g1, g2, g3, g4, g5⟩, h⟩ := sRIR_e h
    exact va_astq hx hb hK hP hD hS q 3 x 0 (r := (RX0, TX0, 8)) ((cells_at γ ρ X g1).trans (by rw [cellE_arrR γ ρ X g2])) rfl (obj_at g4 g5 (by decide)) rfl g3 hd (fun H1 locs1 hP1 hD1 hS1 => hκ _ _ _ _ h H1 locs1 ls (by rw [← cells_setR γ ρ X g1 g2]; exact hP1) hS1 hl)
  case arraylength =>
    obtain rfl : len = 1 := by simpa using he
    obtain ⟨q, r, rfl, hg⟩ := s1R_e h
    unfold scrN at hg
    have nor : ((q < NC ∧ 5 ≤ (shp q).1 ∧ (shp q).1 ≤ 8) ∧ κ (pc + 1) lv (.int (nI (shp q).2) :: r) X) → W p l e R s m args below meth c H locs kc ks Q (F0 m pc ls ((.ref q :: r : List Value).map (cv ρ))) := by
      rintro ⟨⟨g1, g2, g3⟩, hg⟩
      rcases (by omega : (shp q).1 = 5 ∨ (shp q).1 = 6 ∨ (shp q).1 = 7 ∨ (shp q).1 = 8) with g2 | g2 | g2 | g2
      · exact va_alen (x := ((shp q).2, .inl (X.1 q))) hx hb hK hP q 0 ((cells_at γ ρ X g1).trans (by rw [cellE_arrI γ ρ X g2])) rfl rfl hd (hκ _ _ _ _ hg H locs ls hP hS hl)
      · exact va_alen (x := ((shp q).2, .inr (.inl (X.2.1 q)))) hx hb hK hP q 1 ((cells_at γ ρ X g1).trans (by rw [cellE_arrL γ ρ X g2])) rfl rfl hd (hκ _ _ _ _ hg H locs ls hP hS hl)
      · exact va_alen (x := ((shp q).2, .inl (X.1 q))) hx hb hK hP q 2 ((cells_at γ ρ X g1).trans (by rw [cellE_arrZ γ ρ X g2])) rfl rfl hd (hκ _ _ _ _ hg H locs ls hP hS hl)
      · exact va_alen (x := ((shp q).2, .inr (.inr (.inr (.inr (fun j => some (ρ (X.2.2 j)))))))) hx hb hK hP q 3 ((cells_at γ ρ X g1).trans (by rw [cellE_arrR γ ρ X g2])) rfl rfl hd (hκ _ _ _ _ hg H locs ls hP hS hl)
    split at hg
    next => exact nor hg
    next xs =>
      split at hg
      next hq =>
        obtain ⟨a1, a2, a3⟩ := hscr xs rfl
        subst hq
        exact va_slen hx hb a1 a2 a3 hS hd (hκ _ _ _ _ hg H locs ls hP hS hl)
      next => exact nor hg
  case invokevirtual i =>
    obtain rfl : len = 3 := by simpa using he
    obtain ⟨n, ci, C, As, r, hm, rfl, h1, h2, h3, h4⟩ := xcall_e h
    exact hcalls _ hm p e s m args below meth c γ ρ A kc ks Q hfix hK hN hρ hcap pc As r X _ h1 h3 h4 h2 hd H locs ls hP hS hl.1 (fun v X1 H1 locs1 k1 k2 k3 => hκ _ _ _ _ k1 H1 locs1 ls k2 k3 hl)
  case invokestatic i =>
    obtain rfl : len = 3 := by simpa using he
    obtain ⟨n, ci, C, As, r, hm, rfl, h1, h2, h3, h4⟩ := xcall_e h
    exact hcalls _ hm p e s m args below meth c γ ρ A kc ks Q hfix hK hN hρ hcap pc As r X _ h1 h3 h4 h2 hd H locs ls hP hS hl.1 (fun v X1 H1 locs1 k1 k2 k3 => hκ _ _ _ _ k1 H1 locs1 ls k2 k3 hl)
  all_goals (obtain rfl : len = 1 := by simpa using he)
  all_goals exact hret _ _ _ _ _ _ _ hd h hP hS
end SOUND2
end
section
/-! Rows of the abstract machine, and its runs. -/
section RUN
theorem ex_iload (rt : Nat) (calls : List CE) (sc : Option (Nat → Int32)) (L : Nat) (post : Option Value → XT → Prop) (len a b : Nat) (k : Int32) (w : Int64) (pc : Nat) (lv : List (Nat × Value)) (st : List Value) (X : XT) (κ : KT) (i : Nat) : exec rt calls sc L post (.iload i, len, a, b, k, w) pc lv st X κ = (xI (lget lv a) fun x => κ (pc + 2) lv (.int x :: st) X) := rfl
theorem ex_iload_n (rt : Nat) (calls : List CE) (sc : Option (Nat → Int32)) (L : Nat) (post : Option Value → XT → Prop) (len a b : Nat) (k : Int32) (w : Int64) (pc : Nat) (lv : List (Nat × Value)) (st : List Value) (X : XT) (κ : KT) (i : Fin 4) : exec rt calls sc L post (.iload_n i, len, a, b, k, w) pc lv st X κ = (xI (lget lv a) fun x => κ (pc + 1) lv (.int x :: st) X) := rfl
theorem ex_lload (rt : Nat) (calls : List CE) (sc : Option (Nat → Int32)) (L : Nat) (post : Option Value → XT → Prop) (len a b : Nat) (k : Int32) (w : Int64) (pc : Nat) (lv : List (Nat × Value)) (st : List Value) (X : XT) (κ : KT) (i : Nat) : exec rt calls sc L post (.lload i, len, a, b, k, w) pc lv st X κ = (xL (lget lv a) fun x => κ (pc + 2) lv (.long x :: st) X) := rfl
theorem ex_lload_n (rt : Nat) (calls : List CE) (sc : Option (Nat → Int32)) (L : Nat) (post : Option Value → XT → Prop) (len a b : Nat) (k : Int32) (w : Int64) (pc : Nat) (lv : List (Nat × Value)) (st : List Value) (X : XT) (κ : KT) (i : Fin 4) : exec rt calls sc L post (.lload_n i, len, a, b, k, w) pc lv st X κ = (xL (lget lv a) fun x => κ (pc + 1) lv (.long x :: st) X) := rfl
theorem ex_aload (rt : Nat) (calls : List CE) (sc : Option (Nat → Int32)) (L : Nat) (post : Option Value → XT → Prop) (len a b : Nat) (k : Int32) (w : Int64) (pc : Nat) (lv : List (Nat × Value)) (st : List Value) (X : XT) (κ : KT) (i : Nat) : exec rt calls sc L post (.aload i, len, a, b, k, w) pc lv st X κ = (xR (lget lv a) fun x => κ (pc + 2) lv (.ref x :: st) X) := rfl
theorem ex_aload_n (rt : Nat) (calls : List CE) (sc : Option (Nat → Int32)) (L : Nat) (post : Option Value → XT → Prop) (len a b : Nat) (k : Int32) (w : Int64) (pc : Nat) (lv : List (Nat × Value)) (st : List Value) (X : XT) (κ : KT) (i : Fin 4) : exec rt calls sc L post (.aload_n i, len, a, b, k, w) pc lv st X κ = (xR (lget lv a) fun x => κ (pc + 1) lv (.ref x :: st) X) := rfl
theorem ex_istore (rt : Nat) (calls : List CE) (sc : Option (Nat → Int32)) (L : Nat) (post : Option Value → XT → Prop) (len a b : Nat) (k : Int32) (w : Int64) (pc : Nat) (lv : List (Nat × Value)) (st : List Value) (X : XT) (κ : KT) (i : Nat) : exec rt calls sc L post (.istore i, len, a, b, k, w) pc lv st X κ = (s1I st fun x r => κ (pc + 2) ((a, .int x) :: lrm a false lv) r X) := rfl
theorem ex_istore_n (rt : Nat) (calls : List CE) (sc : Option (Nat → Int32)) (L : Nat) (post : Option Value → XT → Prop) (len a b : Nat) (k : Int32) (w : Int64) (pc : Nat) (lv : List (Nat × Value)) (st : List Value) (X : XT) (κ : KT) (i : Fin 4) : exec rt calls sc L post (.istore_n i, len, a, b, k, w) pc lv st X κ = (s1I st fun x r => κ (pc + 1) ((a, .int x) :: lrm a false lv) r X) := rfl
theorem ex_lstore (rt : Nat) (calls : List CE) (sc : Option (Nat → Int32)) (L : Nat) (post : Option Value → XT → Prop) (len a b : Nat) (k : Int32) (w : Int64) (pc : Nat) (lv : List (Nat × Value)) (st : List Value) (X : XT) (κ : KT) (i : Nat) : exec rt calls sc L post (.lstore i, len, a, b, k, w) pc lv st X κ = (s1L st fun x r => κ (pc + 2) ((a, .long x) :: lrm a true lv) r X) := rfl
theorem ex_lstore_n (rt : Nat) (calls : List CE) (sc : Option (Nat → Int32)) (L : Nat) (post : Option Value → XT → Prop) (len a b : Nat) (k : Int32) (w : Int64) (pc : Nat) (lv : List (Nat × Value)) (st : List Value) (X : XT) (κ : KT) (i : Fin 4) : exec rt calls sc L post (.lstore_n i, len, a, b, k, w) pc lv st X κ = (s1L st fun x r => κ (pc + 1) ((a, .long x) :: lrm a true lv) r X) := rfl
theorem ex_astore (rt : Nat) (calls : List CE) (sc : Option (Nat → Int32)) (L : Nat) (post : Option Value → XT → Prop) (len a b : Nat) (k : Int32) (w : Int64) (pc : Nat) (lv : List (Nat × Value)) (st : List Value) (X : XT) (κ : KT) (i : Nat) : exec rt calls sc L post (.astore i, len, a, b, k, w) pc lv st X κ = (s1R st fun x r => κ (pc + 2) ((a, .ref x) :: lrm a false lv) r X) := rfl
theorem ex_astore_n (rt : Nat) (calls : List CE) (sc : Option (Nat → Int32)) (L : Nat) (post : Option Value → XT → Prop) (len a b : Nat) (k : Int32) (w : Int64) (pc : Nat) (lv : List (Nat × Value)) (st : List Value) (X : XT) (κ : KT) (i : Fin 4) : exec rt calls sc L post (.astore_n i, len, a, b, k, w) pc lv st X κ = (s1R st fun x r => κ (pc + 1) ((a, .ref x) :: lrm a false lv) r X) := rfl
theorem ex_iinc (rt : Nat) (calls : List CE) (sc : Option (Nat → Int32)) (L : Nat) (post : Option Value → XT → Prop) (len a b : Nat) (k : Int32) (w : Int64) (pc : Nat) (lv : List (Nat × Value)) (st : List Value) (X : XT) (κ : KT) (i : Nat) (n : Int) : exec rt calls sc L post (.iinc i n, len, a, b, k, w) pc lv st X κ = (xI (lget lv a) fun x => κ (pc + 3) ((a, .int (x + k)) :: lrm a false lv) st X) := rfl
theorem ex_iconst (rt : Nat) (calls : List CE) (sc : Option (Nat → Int32)) (L : Nat) (post : Option Value → XT → Prop) (len a b : Nat) (k : Int32) (w : Int64) (pc : Nat) (lv : List (Nat × Value)) (st : List Value) (X : XT) (κ : KT) (n : Int) : exec rt calls sc L post (.iconst n, len, a, b, k, w) pc lv st X κ = (κ (pc + 1) lv (.int k :: st) X) := rfl
theorem ex_bipush (rt : Nat) (calls : List CE) (sc : Option (Nat → Int32)) (L : Nat) (post : Option Value → XT → Prop) (len a b : Nat) (k : Int32) (w : Int64) (pc : Nat) (lv : List (Nat × Value)) (st : List Value) (X : XT) (κ : KT) (n : Int) : exec rt calls sc L post (.bipush n, len, a, b, k, w) pc lv st X κ = (κ (pc + 2) lv (.int k :: st) X) := rfl
theorem ex_sipush (rt : Nat) (calls : List CE) (sc : Option (Nat → Int32)) (L : Nat) (post : Option Value → XT → Prop) (len a b : Nat) (k : Int32) (w : Int64) (pc : Nat) (lv : List (Nat × Value)) (st : List Value) (X : XT) (κ : KT) (n : Int) : exec rt calls sc L post (.sipush n, len, a, b, k, w) pc lv st X κ = (κ (pc + 3) lv (.int k :: st) X) := rfl
theorem ex_ldc (rt : Nat) (calls : List CE) (sc : Option (Nat → Int32)) (L : Nat) (post : Option Value → XT → Prop) (len a b : Nat) (k : Int32) (w : Int64) (pc : Nat) (lv : List (Nat × Value)) (st : List Value) (X : XT) (κ : KT) (i : Nat) : exec rt calls sc L post (.ldc i, len, a, b, k, w) pc lv st X κ = (κ (pc + 2) lv (.int k :: st) X) := rfl
theorem ex_lconst (rt : Nat) (calls : List CE) (sc : Option (Nat → Int32)) (L : Nat) (post : Option Value → XT → Prop) (len a b : Nat) (k : Int32) (w : Int64) (pc : Nat) (lv : List (Nat × Value)) (st : List Value) (X : XT) (κ : KT) (n : Fin 2) : exec rt calls sc L post (.lconst n, len, a, b, k, w) pc lv st X κ = (κ (pc + 1) lv (.long w :: st) X) := rfl
theorem ex_ldc2_w (rt : Nat) (calls : List CE) (sc : Option (Nat → Int32)) (L : Nat) (post : Option Value → XT → Prop) (len a b : Nat) (k : Int32) (w : Int64) (pc : Nat) (lv : List (Nat × Value)) (st : List Value) (X : XT) (κ : KT) (i : Nat) : exec rt calls sc L post (.ldc2_w i, len, a, b, k, w) pc lv st X κ = (κ (pc + 3) lv (.long w :: st) X) := rfl
theorem ex_iadd (rt : Nat) (calls : List CE) (sc : Option (Nat → Int32)) (L : Nat) (post : Option Value → XT → Prop) (len a b : Nat) (k : Int32) (w : Int64) (pc : Nat) (lv : List (Nat × Value)) (st : List Value) (X : XT) (κ : KT)  : exec rt calls sc L post (.iadd, len, a, b, k, w) pc lv st X κ = (s2I st fun x y r => κ (pc + 1) lv (.int (x + y) :: r) X) := rfl
theorem ex_isub (rt : Nat) (calls : List CE) (sc : Option (Nat → Int32)) (L : Nat) (post : Option Value → XT → Prop) (len a b : Nat) (k : Int32) (w : Int64) (pc : Nat) (lv : List (Nat × Value)) (st : List Value) (X : XT) (κ : KT)  : exec rt calls sc L post (.isub, len, a, b, k, w) pc lv st X κ = (s2I st fun x y r => κ (pc + 1) lv (.int (x - y) :: r) X) := rfl
theorem ex_imul (rt : Nat) (calls : List CE) (sc : Option (Nat → Int32)) (L : Nat) (post : Option Value → XT → Prop) (len a b : Nat) (k : Int32) (w : Int64) (pc : Nat) (lv : List (Nat × Value)) (st : List Value) (X : XT) (κ : KT)  : exec rt calls sc L post (.imul, len, a, b, k, w) pc lv st X κ = (s2I st fun x y r => κ (pc + 1) lv (.int (x * y) :: r) X) := rfl
theorem ex_iand (rt : Nat) (calls : List CE) (sc : Option (Nat → Int32)) (L : Nat) (post : Option Value → XT → Prop) (len a b : Nat) (k : Int32) (w : Int64) (pc : Nat) (lv : List (Nat × Value)) (st : List Value) (X : XT) (κ : KT)  : exec rt calls sc L post (.iand, len, a, b, k, w) pc lv st X κ = (s2I st fun x y r => κ (pc + 1) lv (.int (x &&& y) :: r) X) := rfl
theorem ex_ior (rt : Nat) (calls : List CE) (sc : Option (Nat → Int32)) (L : Nat) (post : Option Value → XT → Prop) (len a b : Nat) (k : Int32) (w : Int64) (pc : Nat) (lv : List (Nat × Value)) (st : List Value) (X : XT) (κ : KT)  : exec rt calls sc L post (.ior, len, a, b, k, w) pc lv st X κ = (s2I st fun x y r => κ (pc + 1) lv (.int (x ||| y) :: r) X) := rfl
theorem ex_ishl (rt : Nat) (calls : List CE) (sc : Option (Nat → Int32)) (L : Nat) (post : Option Value → XT → Prop) (len a b : Nat) (k : Int32) (w : Int64) (pc : Nat) (lv : List (Nat × Value)) (st : List Value) (X : XT) (κ : KT)  : exec rt calls sc L post (.ishl, len, a, b, k, w) pc lv st X κ = (s2I st fun x y r => κ (pc + 1) lv (.int (x <<< (y &&& 31)) :: r) X) := rfl
theorem ex_ishr (rt : Nat) (calls : List CE) (sc : Option (Nat → Int32)) (L : Nat) (post : Option Value → XT → Prop) (len a b : Nat) (k : Int32) (w : Int64) (pc : Nat) (lv : List (Nat × Value)) (st : List Value) (X : XT) (κ : KT)  : exec rt calls sc L post (.ishr, len, a, b, k, w) pc lv st X κ = (s2I st fun x y r => κ (pc + 1) lv (.int (x >>> (y &&& 31)) :: r) X) := rfl
theorem ex_iushr (rt : Nat) (calls : List CE) (sc : Option (Nat → Int32)) (L : Nat) (post : Option Value → XT → Prop) (len a b : Nat) (k : Int32) (w : Int64) (pc : Nat) (lv : List (Nat × Value)) (st : List Value) (X : XT) (κ : KT)  : exec rt calls sc L post (.iushr, len, a, b, k, w) pc lv st X κ = (s2I st fun x y r => κ (pc + 1) lv (.int (x.toUInt32 >>> (y.toUInt32 &&& Int32.toUInt32 31)).toInt32 :: r) X) := rfl
theorem ex_idiv (rt : Nat) (calls : List CE) (sc : Option (Nat → Int32)) (L : Nat) (post : Option Value → XT → Prop) (len a b : Nat) (k : Int32) (w : Int64) (pc : Nat) (lv : List (Nat × Value)) (st : List Value) (X : XT) (κ : KT)  : exec rt calls sc L post (.idiv, len, a, b, k, w) pc lv st X κ = (s2I st fun x y r => ¬ y = 0 ∧ κ (pc + 1) lv (.int (x / y) :: r) X) := rfl
theorem ex_irem (rt : Nat) (calls : List CE) (sc : Option (Nat → Int32)) (L : Nat) (post : Option Value → XT → Prop) (len a b : Nat) (k : Int32) (w : Int64) (pc : Nat) (lv : List (Nat × Value)) (st : List Value) (X : XT) (κ : KT)  : exec rt calls sc L post (.irem, len, a, b, k, w) pc lv st X κ = (s2I st fun x y r => ¬ y = 0 ∧ κ (pc + 1) lv (.int (x - x / y * y) :: r) X) := rfl
theorem ex_ladd (rt : Nat) (calls : List CE) (sc : Option (Nat → Int32)) (L : Nat) (post : Option Value → XT → Prop) (len a b : Nat) (k : Int32) (w : Int64) (pc : Nat) (lv : List (Nat × Value)) (st : List Value) (X : XT) (κ : KT)  : exec rt calls sc L post (.ladd, len, a, b, k, w) pc lv st X κ = (s2L st fun x y r => κ (pc + 1) lv (.long (x + y) :: r) X) := rfl
theorem ex_lsub (rt : Nat) (calls : List CE) (sc : Option (Nat → Int32)) (L : Nat) (post : Option Value → XT → Prop) (len a b : Nat) (k : Int32) (w : Int64) (pc : Nat) (lv : List (Nat × Value)) (st : List Value) (X : XT) (κ : KT)  : exec rt calls sc L post (.lsub, len, a, b, k, w) pc lv st X κ = (s2L st fun x y r => κ (pc + 1) lv (.long (x - y) :: r) X) := rfl
theorem ex_lmul (rt : Nat) (calls : List CE) (sc : Option (Nat → Int32)) (L : Nat) (post : Option Value → XT → Prop) (len a b : Nat) (k : Int32) (w : Int64) (pc : Nat) (lv : List (Nat × Value)) (st : List Value) (X : XT) (κ : KT)  : exec rt calls sc L post (.lmul, len, a, b, k, w) pc lv st X κ = (s2L st fun x y r => κ (pc + 1) lv (.long (x * y) :: r) X) := rfl
theorem ex_land (rt : Nat) (calls : List CE) (sc : Option (Nat → Int32)) (L : Nat) (post : Option Value → XT → Prop) (len a b : Nat) (k : Int32) (w : Int64) (pc : Nat) (lv : List (Nat × Value)) (st : List Value) (X : XT) (κ : KT)  : exec rt calls sc L post (.land, len, a, b, k, w) pc lv st X κ = (s2L st fun x y r => κ (pc + 1) lv (.long (x &&& y) :: r) X) := rfl
theorem ex_lor (rt : Nat) (calls : List CE) (sc : Option (Nat → Int32)) (L : Nat) (post : Option Value → XT → Prop) (len a b : Nat) (k : Int32) (w : Int64) (pc : Nat) (lv : List (Nat × Value)) (st : List Value) (X : XT) (κ : KT)  : exec rt calls sc L post (.lor, len, a, b, k, w) pc lv st X κ = (s2L st fun x y r => κ (pc + 1) lv (.long (x ||| y) :: r) X) := rfl
theorem ex_ldiv (rt : Nat) (calls : List CE) (sc : Option (Nat → Int32)) (L : Nat) (post : Option Value → XT → Prop) (len a b : Nat) (k : Int32) (w : Int64) (pc : Nat) (lv : List (Nat × Value)) (st : List Value) (X : XT) (κ : KT)  : exec rt calls sc L post (.ldiv, len, a, b, k, w) pc lv st X κ = (s2L st fun x y r => ¬ y = 0 ∧ κ (pc + 1) lv (.long (x / y) :: r) X) := rfl
theorem ex_lcmp (rt : Nat) (calls : List CE) (sc : Option (Nat → Int32)) (L : Nat) (post : Option Value → XT → Prop) (len a b : Nat) (k : Int32) (w : Int64) (pc : Nat) (lv : List (Nat × Value)) (st : List Value) (X : XT) (κ : KT)  : exec rt calls sc L post (.lcmp, len, a, b, k, w) pc lv st X κ = (s2L st fun x y r => κ (pc + 1) lv (.int (lg_cmp x y) :: r) X) := rfl
theorem ex_lshl (rt : Nat) (calls : List CE) (sc : Option (Nat → Int32)) (L : Nat) (post : Option Value → XT → Prop) (len a b : Nat) (k : Int32) (w : Int64) (pc : Nat) (lv : List (Nat × Value)) (st : List Value) (X : XT) (κ : KT)  : exec rt calls sc L post (.lshl, len, a, b, k, w) pc lv st X κ = (sLI st fun x y r => κ (pc + 1) lv (.long (x <<< (y.toInt64 &&& 63)) :: r) X) := rfl
theorem ex_lushr (rt : Nat) (calls : List CE) (sc : Option (Nat → Int32)) (L : Nat) (post : Option Value → XT → Prop) (len a b : Nat) (k : Int32) (w : Int64) (pc : Nat) (lv : List (Nat × Value)) (st : List Value) (X : XT) (κ : KT)  : exec rt calls sc L post (.lushr, len, a, b, k, w) pc lv st X κ = (sLI st fun x y r => κ (pc + 1) lv (.long (x.toUInt64 >>> (y.toInt64.toUInt64 &&& Int64.toUInt64 63)).toInt64 :: r) X) := rfl
theorem ex_i2l (rt : Nat) (calls : List CE) (sc : Option (Nat → Int32)) (L : Nat) (post : Option Value → XT → Prop) (len a b : Nat) (k : Int32) (w : Int64) (pc : Nat) (lv : List (Nat × Value)) (st : List Value) (X : XT) (κ : KT)  : exec rt calls sc L post (.i2l, len, a, b, k, w) pc lv st X κ = (s1I st fun x r => κ (pc + 1) lv (.long x.toInt64 :: r) X) := rfl
theorem ex_l2i (rt : Nat) (calls : List CE) (sc : Option (Nat → Int32)) (L : Nat) (post : Option Value → XT → Prop) (len a b : Nat) (k : Int32) (w : Int64) (pc : Nat) (lv : List (Nat × Value)) (st : List Value) (X : XT) (κ : KT)  : exec rt calls sc L post (.l2i, len, a, b, k, w) pc lv st X κ = (s1L st fun x r => κ (pc + 1) lv (.int x.toInt32 :: r) X) := rfl
theorem ex_ifCond_eq (rt : Nat) (calls : List CE) (sc : Option (Nat → Int32)) (L : Nat) (post : Option Value → XT → Prop) (len a b : Nat) (k : Int32) (w : Int64) (pc : Nat) (lv : List (Nat × Value)) (st : List Value) (X : XT) (κ : KT) (o : Int) : exec rt calls sc L post (.ifCond .eq o, len, a, b, k, w) pc lv st X κ = (s1I st fun x r => (x = 0 → κ a lv r X) ∧ (¬ x = 0 → κ (pc + 3) lv r X)) := rfl
theorem ex_ifCond_ne (rt : Nat) (calls : List CE) (sc : Option (Nat → Int32)) (L : Nat) (post : Option Value → XT → Prop) (len a b : Nat) (k : Int32) (w : Int64) (pc : Nat) (lv : List (Nat × Value)) (st : List Value) (X : XT) (κ : KT) (o : Int) : exec rt calls sc L post (.ifCond .ne o, len, a, b, k, w) pc lv st X κ = (s1I st fun x r => (¬ x = 0 → κ a lv r X) ∧ (x = 0 → κ (pc + 3) lv r X)) := rfl
theorem ex_ifCond_lt (rt : Nat) (calls : List CE) (sc : Option (Nat → Int32)) (L : Nat) (post : Option Value → XT → Prop) (len a b : Nat) (k : Int32) (w : Int64) (pc : Nat) (lv : List (Nat × Value)) (st : List Value) (X : XT) (κ : KT) (o : Int) : exec rt calls sc L post (.ifCond .lt o, len, a, b, k, w) pc lv st X κ = (s1I st fun x r => (x < 0 → κ a lv r X) ∧ (¬ x < 0 → κ (pc + 3) lv r X)) := rfl
theorem ex_ifCond_ge (rt : Nat) (calls : List CE) (sc : Option (Nat → Int32)) (L : Nat) (post : Option Value → XT → Prop) (len a b : Nat) (k : Int32) (w : Int64) (pc : Nat) (lv : List (Nat × Value)) (st : List Value) (X : XT) (κ : KT) (o : Int) : exec rt calls sc L post (.ifCond .ge o, len, a, b, k, w) pc lv st X κ = (s1I st fun x r => (0 ≤ x → κ a lv r X) ∧ (¬ 0 ≤ x → κ (pc + 3) lv r X)) := rfl
theorem ex_ifCond_gt (rt : Nat) (calls : List CE) (sc : Option (Nat → Int32)) (L : Nat) (post : Option Value → XT → Prop) (len a b : Nat) (k : Int32) (w : Int64) (pc : Nat) (lv : List (Nat × Value)) (st : List Value) (X : XT) (κ : KT) (o : Int) : exec rt calls sc L post (.ifCond .gt o, len, a, b, k, w) pc lv st X κ = (s1I st fun x r => (0 < x → κ a lv r X) ∧ (¬ 0 < x → κ (pc + 3) lv r X)) := rfl
theorem ex_ifCond_le (rt : Nat) (calls : List CE) (sc : Option (Nat → Int32)) (L : Nat) (post : Option Value → XT → Prop) (len a b : Nat) (k : Int32) (w : Int64) (pc : Nat) (lv : List (Nat × Value)) (st : List Value) (X : XT) (κ : KT) (o : Int) : exec rt calls sc L post (.ifCond .le o, len, a, b, k, w) pc lv st X κ = (s1I st fun x r => (x ≤ 0 → κ a lv r X) ∧ (¬ x ≤ 0 → κ (pc + 3) lv r X)) := rfl
theorem ex_if_icmp_eq (rt : Nat) (calls : List CE) (sc : Option (Nat → Int32)) (L : Nat) (post : Option Value → XT → Prop) (len a b : Nat) (k : Int32) (w : Int64) (pc : Nat) (lv : List (Nat × Value)) (st : List Value) (X : XT) (κ : KT) (o : Int) : exec rt calls sc L post (.if_icmp .eq o, len, a, b, k, w) pc lv st X κ = (s2I st fun x y r => (x = y → κ a lv r X) ∧ (¬ x = y → κ (pc + 3) lv r X)) := rfl
theorem ex_if_icmp_ne (rt : Nat) (calls : List CE) (sc : Option (Nat → Int32)) (L : Nat) (post : Option Value → XT → Prop) (len a b : Nat) (k : Int32) (w : Int64) (pc : Nat) (lv : List (Nat × Value)) (st : List Value) (X : XT) (κ : KT) (o : Int) : exec rt calls sc L post (.if_icmp .ne o, len, a, b, k, w) pc lv st X κ = (s2I st fun x y r => (¬ x = y → κ a lv r X) ∧ (x = y → κ (pc + 3) lv r X)) := rfl
theorem ex_if_icmp_lt (rt : Nat) (calls : List CE) (sc : Option (Nat → Int32)) (L : Nat) (post : Option Value → XT → Prop) (len a b : Nat) (k : Int32) (w : Int64) (pc : Nat) (lv : List (Nat × Value)) (st : List Value) (X : XT) (κ : KT) (o : Int) : exec rt calls sc L post (.if_icmp .lt o, len, a, b, k, w) pc lv st X κ = (s2I st fun x y r => (x < y → κ a lv r X) ∧ (¬ x < y → κ (pc + 3) lv r X)) := rfl
theorem ex_if_icmp_ge (rt : Nat) (calls : List CE) (sc : Option (Nat → Int32)) (L : Nat) (post : Option Value → XT → Prop) (len a b : Nat) (k : Int32) (w : Int64) (pc : Nat) (lv : List (Nat × Value)) (st : List Value) (X : XT) (κ : KT) (o : Int) : exec rt calls sc L post (.if_icmp .ge o, len, a, b, k, w) pc lv st X κ = (s2I st fun x y r => (y ≤ x → κ a lv r X) ∧ (¬ y ≤ x → κ (pc + 3) lv r X)) := rfl
theorem ex_if_icmp_gt (rt : Nat) (calls : List CE) (sc : Option (Nat → Int32)) (L : Nat) (post : Option Value → XT → Prop) (len a b : Nat) (k : Int32) (w : Int64) (pc : Nat) (lv : List (Nat × Value)) (st : List Value) (X : XT) (κ : KT) (o : Int) : exec rt calls sc L post (.if_icmp .gt o, len, a, b, k, w) pc lv st X κ = (s2I st fun x y r => (y < x → κ a lv r X) ∧ (¬ y < x → κ (pc + 3) lv r X)) := rfl
theorem ex_if_icmp_le (rt : Nat) (calls : List CE) (sc : Option (Nat → Int32)) (L : Nat) (post : Option Value → XT → Prop) (len a b : Nat) (k : Int32) (w : Int64) (pc : Nat) (lv : List (Nat × Value)) (st : List Value) (X : XT) (κ : KT) (o : Int) : exec rt calls sc L post (.if_icmp .le o, len, a, b, k, w) pc lv st X κ = (s2I st fun x y r => (x ≤ y → κ a lv r X) ∧ (¬ x ≤ y → κ (pc + 3) lv r X)) := rfl
theorem ex_goto (rt : Nat) (calls : List CE) (sc : Option (Nat → Int32)) (L : Nat) (post : Option Value → XT → Prop) (len a b : Nat) (k : Int32) (w : Int64) (pc : Nat) (lv : List (Nat × Value)) (st : List Value) (X : XT) (κ : KT) (o : Int) : exec rt calls sc L post (.goto o, len, a, b, k, w) pc lv st X κ = (κ a lv st X) := rfl
theorem ex_tableswitch (rt : Nat) (calls : List CE) (sc : Option (Nat → Int32)) (L : Nat) (post : Option Value → XT → Prop) (len a b : Nat) (k : Int32) (w : Int64) (pc : Nat) (lv : List (Nat × Value)) (st : List Value) (X : XT) (κ : KT) (d lo hi : Int) (offs : Array Int) : exec rt calls sc L post (.tableswitch d lo hi offs, len, a, b, k, w) pc lv st X κ = (s1I st fun x r => κ (tsw pc d lo hi offs x) lv r X) := rfl
theorem ex_getfield (rt : Nat) (calls : List CE) (sc : Option (Nat → Int32)) (L : Nat) (post : Option Value → XT → Prop) (len a b : Nat) (k : Int32) (w : Int64) (pc : Nat) (lv : List (Nat × Value)) (st : List Value) (X : XT) (κ : KT) (i : Nat) : exec rt calls sc L post (.getfield i, len, a, b, k, w) pc lv st X κ = (s1R st fun q r => (q < NC ∧ (shp q).1 = a) ∧ κ (pc + 3) lv (fvA X a q b :: r) X) := rfl
theorem ex_putfield (rt : Nat) (calls : List CE) (sc : Option (Nat → Int32)) (L : Nat) (post : Option Value → XT → Prop) (len a b : Nat) (k : Int32) (w : Int64) (pc : Nat) (lv : List (Nat × Value)) (st : List Value) (X : XT) (κ : KT) (i : Nat) : exec rt calls sc L post (.putfield i, len, a, b, k, w) pc lv st X κ = (pfA X a b st fun r X' => κ (pc + 3) lv r X') := rfl
theorem ex_iaload (rt : Nat) (calls : List CE) (sc : Option (Nat → Int32)) (L : Nat) (post : Option Value → XT → Prop) (len a b : Nat) (k : Int32) (w : Int64) (pc : Nat) (lv : List (Nat × Value)) (st : List Value) (X : XT) (κ : KT)  : exec rt calls sc L post (.iaload, len, a, b, k, w) pc lv st X κ = (sRI st fun q i r => scrR sc L q i (fun x => κ (pc + 1) lv (.int x :: r) X) ((q < NC ∧ (shp q).1 = 5 ∧ vp_in i (shp q).2) ∧ κ (pc + 1) lv (.int (X.1 q i.toNatClampNeg) :: r) X)) := rfl
theorem ex_baload (rt : Nat) (calls : List CE) (sc : Option (Nat → Int32)) (L : Nat) (post : Option Value → XT → Prop) (len a b : Nat) (k : Int32) (w : Int64) (pc : Nat) (lv : List (Nat × Value)) (st : List Value) (X : XT) (κ : KT)  : exec rt calls sc L post (.baload, len, a, b, k, w) pc lv st X κ = (sRI st fun q i r => (q < NC ∧ (shp q).1 = 7 ∧ vp_in i (shp q).2) ∧ κ (pc + 1) lv (.int (X.1 q i.toNatClampNeg) :: r) X) := rfl
theorem ex_laload (rt : Nat) (calls : List CE) (sc : Option (Nat → Int32)) (L : Nat) (post : Option Value → XT → Prop) (len a b : Nat) (k : Int32) (w : Int64) (pc : Nat) (lv : List (Nat × Value)) (st : List Value) (X : XT) (κ : KT)  : exec rt calls sc L post (.laload, len, a, b, k, w) pc lv st X κ = (sRI st fun q i r => (q < NC ∧ (shp q).1 = 6 ∧ vp_in i (shp q).2) ∧ κ (pc + 1) lv (.long (X.2.1 q i.toNatClampNeg) :: r) X) := rfl
theorem ex_aaload (rt : Nat) (calls : List CE) (sc : Option (Nat → Int32)) (L : Nat) (post : Option Value → XT → Prop) (len a b : Nat) (k : Int32) (w : Int64) (pc : Nat) (lv : List (Nat × Value)) (st : List Value) (X : XT) (κ : KT)  : exec rt calls sc L post (.aaload, len, a, b, k, w) pc lv st X κ = (sRI st fun q i r => (q < NC ∧ (shp q).1 = 8 ∧ vp_in i (shp q).2) ∧ κ (pc + 1) lv (.ref (X.2.2 i.toNatClampNeg) :: r) X) := rfl
theorem ex_iastore (rt : Nat) (calls : List CE) (sc : Option (Nat → Int32)) (L : Nat) (post : Option Value → XT → Prop) (len a b : Nat) (k : Int32) (w : Int64) (pc : Nat) (lv : List (Nat × Value)) (st : List Value) (X : XT) (κ : KT)  : exec rt calls sc L post (.iastore, len, a, b, k, w) pc lv st X κ = (sRII st fun q i x r => (q < NC ∧ (shp q).1 = 5 ∧ vp_in i (shp q).2) ∧ κ (pc + 1) lv r (sI X q i.toNatClampNeg x)) := rfl
theorem ex_bastore (rt : Nat) (calls : List CE) (sc : Option (Nat → Int32)) (L : Nat) (post : Option Value → XT → Prop) (len a b : Nat) (k : Int32) (w : Int64) (pc : Nat) (lv : List (Nat × Value)) (st : List Value) (X : XT) (κ : KT)  : exec rt calls sc L post (.bastore, len, a, b, k, w) pc lv st X κ = (sRII st fun q i x r => (q < NC ∧ (shp q).1 = 7 ∧ vp_in i (shp q).2 ∧ bl x) ∧ κ (pc + 1) lv r (sI X q i.toNatClampNeg x)) := rfl
theorem ex_lastore (rt : Nat) (calls : List CE) (sc : Option (Nat → Int32)) (L : Nat) (post : Option Value → XT → Prop) (len a b : Nat) (k : Int32) (w : Int64) (pc : Nat) (lv : List (Nat × Value)) (st : List Value) (X : XT) (κ : KT)  : exec rt calls sc L post (.lastore, len, a, b, k, w) pc lv st X κ = (sRIL st fun q i x r => (q < NC ∧ (shp q).1 = 6 ∧ vp_in i (shp q).2) ∧ κ (pc + 1) lv r (sL X q i.toNatClampNeg x)) := rfl
theorem ex_aastore (rt : Nat) (calls : List CE) (sc : Option (Nat → Int32)) (L : Nat) (post : Option Value → XT → Prop) (len a b : Nat) (k : Int32) (w : Int64) (pc : Nat) (lv : List (Nat × Value)) (st : List Value) (X : XT) (κ : KT)  : exec rt calls sc L post (.aastore, len, a, b, k, w) pc lv st X κ = (sRIR st fun q i x r => (q < NC ∧ (shp q).1 = 8 ∧ vp_in i (shp q).2 ∧ x < NC ∧ (shp x).1 = 0) ∧ κ (pc + 1) lv r (sR X i.toNatClampNeg x)) := rfl
theorem ex_arraylength (rt : Nat) (calls : List CE) (sc : Option (Nat → Int32)) (L : Nat) (post : Option Value → XT → Prop) (len a b : Nat) (k : Int32) (w : Int64) (pc : Nat) (lv : List (Nat × Value)) (st : List Value) (X : XT) (κ : KT)  : exec rt calls sc L post (.arraylength, len, a, b, k, w) pc lv st X κ = (s1R st fun q r => scrN sc L q (fun x => κ (pc + 1) lv (.int x :: r) X) ((q < NC ∧ 5 ≤ (shp q).1 ∧ (shp q).1 ≤ 8) ∧ κ (pc + 1) lv (.int (nI (shp q).2) :: r) X)) := rfl
theorem ex_invokevirtual (rt : Nat) (calls : List CE) (sc : Option (Nat → Int32)) (L : Nat) (post : Option Value → XT → Prop) (len a b : Nat) (k : Int32) (w : Int64) (pc : Nat) (lv : List (Nat × Value)) (st : List Value) (X : XT) (κ : KT) (i : Nat) : exec rt calls sc L post (.invokevirtual i, len, a, b, k, w) pc lv st X κ = (xcall calls a i false st X fun r X' => κ (pc + 3) lv r X') := rfl
theorem ex_invokestatic (rt : Nat) (calls : List CE) (sc : Option (Nat → Int32)) (L : Nat) (post : Option Value → XT → Prop) (len a b : Nat) (k : Int32) (w : Int64) (pc : Nat) (lv : List (Nat × Value)) (st : List Value) (X : XT) (κ : KT) (i : Nat) : exec rt calls sc L post (.invokestatic i, len, a, b, k, w) pc lv st X κ = (xcall calls a i true st X fun r X' => κ (pc + 3) lv r X') := rfl
theorem ex_dup (rt : Nat) (calls : List CE) (sc : Option (Nat → Int32)) (L : Nat) (post : Option Value → XT → Prop) (len a b : Nat) (k : Int32) (w : Int64) (pc : Nat) (lv : List (Nat × Value)) (X : XT) (κ : KT) (v : Value) (r : List Value) : exec rt calls sc L post (.dup, len, a, b, k, w) pc lv (v :: r) X κ = (v.category = 1 ∧ κ (pc + 1) lv (v :: v :: r) X) := rfl
theorem ex_pop (rt : Nat) (calls : List CE) (sc : Option (Nat → Int32)) (L : Nat) (post : Option Value → XT → Prop) (len a b : Nat) (k : Int32) (w : Int64) (pc : Nat) (lv : List (Nat × Value)) (X : XT) (κ : KT) (v : Value) (r : List Value) : exec rt calls sc L post (.pop, len, a, b, k, w) pc lv (v :: r) X κ = (v.category = 1 ∧ κ (pc + 1) lv r X) := rfl
theorem ex_dup2 (rt : Nat) (calls : List CE) (sc : Option (Nat → Int32)) (L : Nat) (post : Option Value → XT → Prop) (len a b : Nat) (k : Int32) (w : Int64) (pc : Nat) (lv : List (Nat × Value)) (X : XT) (κ : KT) (v u : Value) (r : List Value) : exec rt calls sc L post (.dup2, len, a, b, k, w) pc lv (v :: u :: r) X κ = ((v.category = 1 ∧ u.category = 1) ∧ κ (pc + 1) lv (v :: u :: v :: u :: r) X) := rfl
theorem ex_ireturn (rt : Nat) (calls : List CE) (sc : Option (Nat → Int32)) (L : Nat) (post : Option Value → XT → Prop) (len a b : Nat) (k : Int32) (w : Int64) (pc : Nat) (lv : List (Nat × Value)) (st : List Value) (X : XT) (κ : KT) : exec rt calls sc L post (.ireturn, len, a, b, k, w) pc lv st X κ = retx rt post .ireturn st X := rfl
theorem ex_lreturn (rt : Nat) (calls : List CE) (sc : Option (Nat → Int32)) (L : Nat) (post : Option Value → XT → Prop) (len a b : Nat) (k : Int32) (w : Int64) (pc : Nat) (lv : List (Nat × Value)) (st : List Value) (X : XT) (κ : KT) : exec rt calls sc L post (.lreturn, len, a, b, k, w) pc lv st X κ = retx rt post .lreturn st X := rfl
theorem ex_return_ (rt : Nat) (calls : List CE) (sc : Option (Nat → Int32)) (L : Nat) (post : Option Value → XT → Prop) (len a b : Nat) (k : Int32) (w : Int64) (pc : Nat) (lv : List (Nat × Value)) (st : List Value) (X : XT) (κ : KT) : exec rt calls sc L post (.return_, len, a, b, k, w) pc lv st X κ = retx rt post .return_ st X := rfl
theorem xI_i (x : Int32) (κ : Int32 → Prop) : xI (some (.int x)) κ = κ x := rfl
theorem xL_l (x : Int64) (κ : Int64 → Prop) : xL (some (.long x)) κ = κ x := rfl
theorem xR_r (x : Nat) (κ : Nat → Prop) : xR (some (.ref x)) κ = κ x := rfl
theorem s1I_c (x : Int32) (r : List Value) (κ : Int32 → List Value → Prop) : s1I (.int x :: r) κ = κ x r := rfl
theorem s1L_c (x : Int64) (r : List Value) (κ : Int64 → List Value → Prop) : s1L (.long x :: r) κ = κ x r := rfl
theorem s1R_c (x : Nat) (r : List Value) (κ : Nat → List Value → Prop) : s1R (.ref x :: r) κ = κ x r := rfl
theorem s2I_c (x y : Int32) (r : List Value) (κ : Int32 → Int32 → List Value → Prop) : s2I (.int y :: .int x :: r) κ = κ x y r := rfl
theorem s2L_c (x y : Int64) (r : List Value) (κ : Int64 → Int64 → List Value → Prop) : s2L (.long y :: .long x :: r) κ = κ x y r := rfl
theorem sLI_c (x : Int64) (y : Int32) (r : List Value) (κ : Int64 → Int32 → List Value → Prop) : sLI (.int y :: .long x :: r) κ = κ x y r := rfl
theorem sRI_c (q : Nat) (i : Int32) (r : List Value) (κ : Nat → Int32 → List Value → Prop) : sRI (.int i :: .ref q :: r) κ = κ q i r := rfl
theorem sRII_c (q : Nat) (i x : Int32) (r : List Value) (κ : Nat → Int32 → Int32 → List Value → Prop) : sRII (.int x :: .int i :: .ref q :: r) κ = κ q i x r := rfl
theorem sRIL_c (q : Nat) (i : Int32) (x : Int64) (r : List Value) (κ : Nat → Int32 → Int64 → List Value → Prop) : sRIL (.long x :: .int i :: .ref q :: r) κ = κ q i x r := rfl
theorem sRIR_c (q : Nat) (i : Int32) (x : Nat) (r : List Value) (κ : Nat → Int32 → Nat → List Value → Prop) : sRIR (.ref x :: .int i :: .ref q :: r) κ = κ q i x r := rfl
theorem lget_c (j i : Nat) (u : Value) (r : List (Nat × Value)) : lget ((j, u) :: r) i = if j = i then some u else lget r i := rfl
theorem lrm_n (i : Nat) (two : Bool) : lrm i two [] = [] := rfl
theorem lrm_f (i j : Nat) (u : Value) (r : List (Nat × Value)) : lrm i false ((j, u) :: r) = if j = i then lrm i false r else if j + 1 = i ∧ u.category = 2 then lrm i false r else (j, u) :: lrm i false r := rfl
theorem lrm_t (i j : Nat) (u : Value) (r : List (Nat × Value)) : lrm i true ((j, u) :: r) = if j = i then lrm i true r else if j = i + 1 then lrm i true r else if j + 1 = i ∧ u.category = 2 then lrm i true r else (j, u) :: lrm i true r := by
  show (if j = i then _ else if true = true ∧ j = i + 1 then _ else _) = _
  simp
theorem ct_i (x : Int32) : (Value.int x).category = 1 := rfl
theorem ct_l (x : Int64) : (Value.long x).category = 2 := rfl
theorem ct_r (x : Nat) : (Value.ref x).category = 1 := rfl
theorem popA_0 (acc st : List Value) : popA 0 acc st = some (acc, st) := rfl
theorem popA_s (n : Nat) (v : Value) (acc st : List Value) : popA (n + 1) acc (v :: st) = popA n (v :: acc) st := rfl
theorem catS_n : catS [] = 0 := rfl
theorem catS_c (v : Value) (r : List Value) : catS (v :: r) = v.category + catS r := by
  unfold catS; simp
theorem rOk_c (q c : Nat) (r : List Value) : recvOk (.ref q :: r) c = (q < NC ∧ (shp q).1 = c) := rfl
theorem scrR_n (L k : Nat) (i : Int32) (κ : Int32 → Prop) (o : Prop) : scrR none L k i κ o = o := rfl
theorem scrN_n (L k : Nat) (κ : Int32 → Prop) (o : Prop) : scrN none L k κ o = o := rfl
theorem tl_s (v : Value) (r : List Value) : (some v).toList ++ r = v :: r := rfl
theorem tl_n (r : List Value) : (none : Option Value).toList ++ r = r := rfl
theorem rt_i (rt : Nat) (post : Option Value → XT → Prop) (x : Int32) (X : XT) : retx rt post .ireturn [.int x] X = ((rt = 0 ∨ (rt = 1 ∧ bl x)) ∧ post (some (.int x)) X) := rfl
theorem rt_l (rt : Nat) (post : Option Value → XT → Prop) (x : Int64) (X : XT) : retx rt post .lreturn [.long x] X = (rt = 2 ∧ post (some (.long x)) X) := rfl
theorem rt_v (rt : Nat) (post : Option Value → XT → Prop) (X : XT) : retx rt post .return_ [] X = (rt = 3 ∧ post none X) := rfl
def xcall1 (q : CE) (i : Nat) (sta : Bool) (st : List Value) (X : XT) (κ : List Value → XT → Prop) : Prop := match q with
  | (i', sta', n, c, C) => (i' = i ∧ sta' = sta) ∧ (match popA n [] st with
    | some (As, r) => catS r ≤ 8 ∧ (sta = false → recvOk As c) ∧ C As X (fun v X' => κ (v.toList ++ r) X')
    | none => False)
theorem xc_0 (q : CE) (r : List CE) (i : Nat) (sta : Bool) (st : List Value) (X : XT) (κ : List Value → XT → Prop) : xcall (q :: r) 0 i sta st X κ = xcall1 q i sta st X κ := rfl
theorem xc_s (q : CE) (r : List CE) (n i : Nat) (sta : Bool) (st : List Value) (X : XT) (κ : List Value → XT → Prop) : xcall (q :: r) (n + 1) i sta st X κ = xcall r n i sta st X κ := by
  unfold xcall
  rw [List.getElem?_cons_succ]
def pcall (o : Option (List Value × List Value)) (sta : Bool) (c : Nat) (C : CT) (X : XT) (κ : List Value → XT → Prop) : Prop := match o with
  | some (As, r) => catS r ≤ 8 ∧ (sta = false → recvOk As c) ∧ C As X (fun v X' => κ (v.toList ++ r) X')
  | none => False
theorem xc_1 (i' : Nat) (sta' : Bool) (n c : Nat) (C : CT) (i : Nat) (sta : Bool) (st : List Value) (X : XT) (κ : List Value → XT → Prop) : xcall1 (i', sta', n, c, C) i sta st X κ = ((i' = i ∧ sta' = sta) ∧ pcall (popA n [] st) sta c C X κ) := rfl
theorem pc_f (As r : List Value) (c : Nat) (C : CT) (X : XT) (κ : List Value → XT → Prop) : pcall (some (As, r)) false c C X κ = (catS r ≤ 8 ∧ recvOk As c ∧ C As X (fun v X' => κ (v.toList ++ r) X')) := by
  unfold pcall; simp
theorem pc_t (As r : List Value) (c : Nat) (C : CT) (X : XT) (κ : List Value → XT → Prop) : pcall (some (As, r)) true c C X κ = (catS r ≤ 8 ∧ C As X (fun v X' => κ (v.toList ++ r) X')) := by
  unfold pcall; simp
theorem fv_0_0 (X : XT) (k : Nat) : fvA X 0 k 0 = .ref (k + 1) := rfl
theorem fv_0_1 (X : XT) (k : Nat) : fvA X 0 k 1 = .ref (k + 2) := rfl
theorem fv_0_2 (X : XT) (k : Nat) : fvA X 0 k 2 = .ref (k + 3) := rfl
theorem fv_0_3 (X : XT) (k : Nat) : fvA X 0 k 3 = .ref (k + 4) := rfl
theorem fv_0_4 (X : XT) (k : Nat) : fvA X 0 k 4 = .int (X.1 k 4) := rfl
theorem pf_0_4 (X : XT) (x : Int32) (k : Nat) (r : List Value) (κ : List Value → XT → Prop) : pfA X 0 4 (.int x :: .ref k :: r) κ = ((k < NC ∧ (shp k).1 = 0) ∧ κ r (sI X k 4 x)) := by
  show (k < NC ∧ (shp k).1 = 0 ∧ (false = true → bl x) ∧ κ r (sI X k 4 x)) = _
  simp [and_assoc]
theorem fv_0_5 (X : XT) (k : Nat) : fvA X 0 k 5 = .int (X.1 k 5) := rfl
theorem pf_0_5 (X : XT) (x : Int32) (k : Nat) (r : List Value) (κ : List Value → XT → Prop) : pfA X 0 5 (.int x :: .ref k :: r) κ = ((k < NC ∧ (shp k).1 = 0) ∧ κ r (sI X k 5 x)) := by
  show (k < NC ∧ (shp k).1 = 0 ∧ (false = true → bl x) ∧ κ r (sI X k 5 x)) = _
  simp [and_assoc]
theorem fv_0_6 (X : XT) (k : Nat) : fvA X 0 k 6 = .ref (k + 5) := rfl
theorem fv_0_7 (X : XT) (k : Nat) : fvA X 0 k 7 = .int (X.1 k 7) := rfl
theorem pf_0_7 (X : XT) (x : Int32) (k : Nat) (r : List Value) (κ : List Value → XT → Prop) : pfA X 0 7 (.int x :: .ref k :: r) κ = ((k < NC ∧ (shp k).1 = 0) ∧ κ r (sI X k 7 x)) := by
  show (k < NC ∧ (shp k).1 = 0 ∧ (false = true → bl x) ∧ κ r (sI X k 7 x)) = _
  simp [and_assoc]
theorem fv_1_0 (X : XT) (k : Nat) : fvA X 1 k 0 = .ref (k + 1) := rfl
theorem fv_1_1 (X : XT) (k : Nat) : fvA X 1 k 1 = .ref (k + 2) := rfl
theorem fv_1_2 (X : XT) (k : Nat) : fvA X 1 k 2 = .long (X.2.1 k 2) := rfl
theorem pf_1_2 (X : XT) (x : Int64) (k : Nat) (r : List Value) (κ : List Value → XT → Prop) : pfA X 1 2 (.long x :: .ref k :: r) κ = ((k < NC ∧ (shp k).1 = 1) ∧ κ r (sL X k 2 x)) := by
  show (k < NC ∧ (shp k).1 = 1 ∧ κ r (sL X k 2 x)) = _
  simp [and_assoc]
theorem fv_1_3 (X : XT) (k : Nat) : fvA X 1 k 3 = .long (X.2.1 k 3) := rfl
theorem pf_1_3 (X : XT) (x : Int64) (k : Nat) (r : List Value) (κ : List Value → XT → Prop) : pfA X 1 3 (.long x :: .ref k :: r) κ = ((k < NC ∧ (shp k).1 = 1) ∧ κ r (sL X k 3 x)) := by
  show (k < NC ∧ (shp k).1 = 1 ∧ κ r (sL X k 3 x)) = _
  simp [and_assoc]
theorem fv_1_4 (X : XT) (k : Nat) : fvA X 1 k 4 = .long (X.2.1 k 4) := rfl
theorem pf_1_4 (X : XT) (x : Int64) (k : Nat) (r : List Value) (κ : List Value → XT → Prop) : pfA X 1 4 (.long x :: .ref k :: r) κ = ((k < NC ∧ (shp k).1 = 1) ∧ κ r (sL X k 4 x)) := by
  show (k < NC ∧ (shp k).1 = 1 ∧ κ r (sL X k 4 x)) = _
  simp [and_assoc]
theorem fv_1_5 (X : XT) (k : Nat) : fvA X 1 k 5 = .int (X.1 k 5) := rfl
theorem pf_1_5 (X : XT) (x : Int32) (k : Nat) (r : List Value) (κ : List Value → XT → Prop) : pfA X 1 5 (.int x :: .ref k :: r) κ = ((k < NC ∧ (shp k).1 = 1) ∧ κ r (sI X k 5 x)) := by
  show (k < NC ∧ (shp k).1 = 1 ∧ (false = true → bl x) ∧ κ r (sI X k 5 x)) = _
  simp [and_assoc]
theorem fv_1_6 (X : XT) (k : Nat) : fvA X 1 k 6 = .ref (k + 3) := rfl
theorem fv_1_7 (X : XT) (k : Nat) : fvA X 1 k 7 = .int (X.1 k 7) := rfl
theorem pf_1_7 (X : XT) (x : Int32) (k : Nat) (r : List Value) (κ : List Value → XT → Prop) : pfA X 1 7 (.int x :: .ref k :: r) κ = ((k < NC ∧ (shp k).1 = 1) ∧ bl x ∧ κ r (sI X k 7 x)) := by
  show (k < NC ∧ (shp k).1 = 1 ∧ (true = true → bl x) ∧ κ r (sI X k 7 x)) = _
  simp [and_assoc]
theorem fv_2_0 (X : XT) (k : Nat) : fvA X 2 k 0 = .ref (k + 1) := rfl
theorem fv_2_1 (X : XT) (k : Nat) : fvA X 2 k 1 = .int (X.1 k 1) := rfl
theorem pf_2_1 (X : XT) (x : Int32) (k : Nat) (r : List Value) (κ : List Value → XT → Prop) : pfA X 2 1 (.int x :: .ref k :: r) κ = ((k < NC ∧ (shp k).1 = 2) ∧ κ r (sI X k 1 x)) := by
  show (k < NC ∧ (shp k).1 = 2 ∧ (false = true → bl x) ∧ κ r (sI X k 1 x)) = _
  simp [and_assoc]
theorem fv_2_2 (X : XT) (k : Nat) : fvA X 2 k 2 = .ref (k + 2) := rfl
theorem fv_2_3 (X : XT) (k : Nat) : fvA X 2 k 3 = .int (X.1 k 3) := rfl
theorem pf_2_3 (X : XT) (x : Int32) (k : Nat) (r : List Value) (κ : List Value → XT → Prop) : pfA X 2 3 (.int x :: .ref k :: r) κ = ((k < NC ∧ (shp k).1 = 2) ∧ κ r (sI X k 3 x)) := by
  show (k < NC ∧ (shp k).1 = 2 ∧ (false = true → bl x) ∧ κ r (sI X k 3 x)) = _
  simp [and_assoc]
theorem fv_2_4 (X : XT) (k : Nat) : fvA X 2 k 4 = .int (X.1 k 4) := rfl
theorem pf_2_4 (X : XT) (x : Int32) (k : Nat) (r : List Value) (κ : List Value → XT → Prop) : pfA X 2 4 (.int x :: .ref k :: r) κ = ((k < NC ∧ (shp k).1 = 2) ∧ κ r (sI X k 4 x)) := by
  show (k < NC ∧ (shp k).1 = 2 ∧ (false = true → bl x) ∧ κ r (sI X k 4 x)) = _
  simp [and_assoc]
theorem fv_3_0 (X : XT) (k : Nat) : fvA X 3 k 0 = .ref (k + 1) := rfl
theorem fv_3_1 (X : XT) (k : Nat) : fvA X 3 k 1 = .ref (k + 7) := rfl
theorem fv_3_2 (X : XT) (k : Nat) : fvA X 3 k 2 = .ref (k + 8) := rfl
theorem fv_3_3 (X : XT) (k : Nat) : fvA X 3 k 3 = .ref (k + 12) := rfl
theorem fv_3_4 (X : XT) (k : Nat) : fvA X 3 k 4 = .ref (k + 20) := rfl
theorem fv_3_5 (X : XT) (k : Nat) : fvA X 3 k 5 = .int (X.1 k 5) := rfl
theorem pf_3_5 (X : XT) (x : Int32) (k : Nat) (r : List Value) (κ : List Value → XT → Prop) : pfA X 3 5 (.int x :: .ref k :: r) κ = ((k < NC ∧ (shp k).1 = 3) ∧ κ r (sI X k 5 x)) := by
  show (k < NC ∧ (shp k).1 = 3 ∧ (false = true → bl x) ∧ κ r (sI X k 5 x)) = _
  simp [and_assoc]
theorem fv_4_0 (X : XT) (k : Nat) : fvA X 4 k 0 = .ref (k + 1) := rfl
theorem fv_4_1 (X : XT) (k : Nat) : fvA X 4 k 1 = .int (X.1 k 1) := rfl
theorem pf_4_1 (X : XT) (x : Int32) (k : Nat) (r : List Value) (κ : List Value → XT → Prop) : pfA X 4 1 (.int x :: .ref k :: r) κ = ((k < NC ∧ (shp k).1 = 4) ∧ κ r (sI X k 1 x)) := by
  show (k < NC ∧ (shp k).1 = 4 ∧ (false = true → bl x) ∧ κ r (sI X k 1 x)) = _
  simp [and_assoc]
theorem fv_4_2 (X : XT) (k : Nat) : fvA X 4 k 2 = .int (X.1 k 2) := rfl
theorem pf_4_2 (X : XT) (x : Int32) (k : Nat) (r : List Value) (κ : List Value → XT → Prop) : pfA X 4 2 (.int x :: .ref k :: r) κ = ((k < NC ∧ (shp k).1 = 4) ∧ bl x ∧ κ r (sI X k 2 x)) := by
  show (k < NC ∧ (shp k).1 = 4 ∧ (true = true → bl x) ∧ κ r (sI X k 2 x)) = _
  simp [and_assoc]
theorem fv_4_3 (X : XT) (k : Nat) : fvA X 4 k 3 = .ref (k + 2) := rfl
theorem fv_4_4 (X : XT) (k : Nat) : fvA X 4 k 4 = .ref (k + 3) := rfl
theorem fv_4_5 (X : XT) (k : Nat) : fvA X 4 k 5 = .ref (k + 4) := rfl
theorem fv_4_6 (X : XT) (k : Nat) : fvA X 4 k 6 = .ref (k + 5) := rfl
theorem fv_4_7 (X : XT) (k : Nat) : fvA X 4 k 7 = .int (X.1 k 7) := rfl
theorem pf_4_7 (X : XT) (x : Int32) (k : Nat) (r : List Value) (κ : List Value → XT → Prop) : pfA X 4 7 (.int x :: .ref k :: r) κ = ((k < NC ∧ (shp k).1 = 4) ∧ κ r (sI X k 7 x)) := by
  show (k < NC ∧ (shp k).1 = 4 ∧ (false = true → bl x) ∧ κ r (sI X k 7 x)) = _
  simp [and_assoc]
theorem fv_4_8 (X : XT) (k : Nat) : fvA X 4 k 8 = .int (X.1 k 8) := rfl
theorem pf_4_8 (X : XT) (x : Int32) (k : Nat) (r : List Value) (κ : List Value → XT → Prop) : pfA X 4 8 (.int x :: .ref k :: r) κ = ((k < NC ∧ (shp k).1 = 4) ∧ κ r (sI X k 8 x)) := by
  show (k < NC ∧ (shp k).1 = 4 ∧ (false = true → bl x) ∧ κ r (sI X k 8 x)) = _
  simp [and_assoc]
theorem fv_4_9 (X : XT) (k : Nat) : fvA X 4 k 9 = .ref (k + 6) := rfl
theorem fv_4_10 (X : XT) (k : Nat) : fvA X 4 k 10 = .int (X.1 k 10) := rfl
theorem pf_4_10 (X : XT) (x : Int32) (k : Nat) (r : List Value) (κ : List Value → XT → Prop) : pfA X 4 10 (.int x :: .ref k :: r) κ = ((k < NC ∧ (shp k).1 = 4) ∧ κ r (sI X k 10 x)) := by
  show (k < NC ∧ (shp k).1 = 4 ∧ (false = true → bl x) ∧ κ r (sI X k 10 x)) = _
  simp [and_assoc]
theorem fv_4_11 (X : XT) (k : Nat) : fvA X 4 k 11 = .long (X.2.1 k 11) := rfl
theorem pf_4_11 (X : XT) (x : Int64) (k : Nat) (r : List Value) (κ : List Value → XT → Prop) : pfA X 4 11 (.long x :: .ref k :: r) κ = ((k < NC ∧ (shp k).1 = 4) ∧ κ r (sL X k 11 x)) := by
  show (k < NC ∧ (shp k).1 = 4 ∧ κ r (sL X k 11 x)) = _
  simp [and_assoc]
theorem sh_0 : shp 0 = (3, 0) := rfl
theorem sh_1 : shp 1 = (0, 0) := rfl
theorem sh_2 : shp 2 = (5, 12) := rfl
theorem sh_3 : shp 3 = (5, 12) := rfl
theorem sh_4 : shp 4 = (5, 12) := rfl
theorem sh_5 : shp 5 = (5, 12) := rfl
theorem sh_6 : shp 6 = (5, 8) := rfl
theorem sh_7 : shp 7 = (8, 5) := rfl
theorem sh_8 : shp 8 = (1, 0) := rfl
theorem sh_9 : shp 9 = (5, 8) := rfl
theorem sh_10 : shp 10 = (5, 8) := rfl
theorem sh_11 : shp 11 = (6, 8) := rfl
theorem sh_12 : shp 12 = (2, 0) := rfl
theorem sh_13 : shp 13 = (5, 120) := rfl
theorem sh_14 : shp 14 = (0, 0) := rfl
theorem sh_15 : shp 15 = (5, 12) := rfl
theorem sh_16 : shp 16 = (5, 12) := rfl
theorem sh_17 : shp 17 = (5, 12) := rfl
theorem sh_18 : shp 18 = (5, 12) := rfl
theorem sh_19 : shp 19 = (5, 8) := rfl
theorem sh_20 : shp 20 = (6, 8) := rfl
theorem sh_21 : shp 21 = (0, 0) := rfl
theorem sh_22 : shp 22 = (5, 12) := rfl
theorem sh_23 : shp 23 = (5, 12) := rfl
theorem sh_24 : shp 24 = (5, 12) := rfl
theorem sh_25 : shp 25 = (5, 12) := rfl
theorem sh_26 : shp 26 = (5, 8) := rfl
theorem sh_27 : shp 27 = (0, 0) := rfl
theorem sh_28 : shp 28 = (5, 12) := rfl
theorem sh_29 : shp 29 = (5, 12) := rfl
theorem sh_30 : shp 30 = (5, 12) := rfl
theorem sh_31 : shp 31 = (5, 12) := rfl
theorem sh_32 : shp 32 = (5, 8) := rfl
theorem sh_33 : shp 33 = (0, 0) := rfl
theorem sh_34 : shp 34 = (5, 12) := rfl
theorem sh_35 : shp 35 = (5, 12) := rfl
theorem sh_36 : shp 36 = (5, 12) := rfl
theorem sh_37 : shp 37 = (5, 12) := rfl
theorem sh_38 : shp 38 = (5, 8) := rfl
theorem sh_39 : shp 39 = (0, 0) := rfl
theorem sh_40 : shp 40 = (5, 12) := rfl
theorem sh_41 : shp 41 = (5, 12) := rfl
theorem sh_42 : shp 42 = (5, 12) := rfl
theorem sh_43 : shp 43 = (5, 12) := rfl
theorem sh_44 : shp 44 = (5, 8) := rfl
theorem sh_45 : shp 45 = (0, 0) := rfl
theorem sh_46 : shp 46 = (5, 12) := rfl
theorem sh_47 : shp 47 = (5, 12) := rfl
theorem sh_48 : shp 48 = (5, 12) := rfl
theorem sh_49 : shp 49 = (5, 12) := rfl
theorem sh_50 : shp 50 = (5, 8) := rfl
theorem sh_51 : shp 51 = (4, 0) := rfl
theorem sh_52 : shp 52 = (5, 354) := rfl
theorem sh_53 : shp 53 = (5, 8) := rfl
theorem sh_54 : shp 54 = (6, 8) := rfl
theorem sh_55 : shp 55 = (7, 32) := rfl
theorem sh_56 : shp 56 = (5, 120) := rfl
theorem sh_57 : shp 57 = (7, 64) := rfl
def stepX (t : List (Nat × TE)) (rt : Nat) (calls : List CE) (sc : Option (Nat → Int32)) (L : Nat) (post : Option Value → XT → Prop) (pc : Nat) (lv : List (Nat × Value)) (st : List Value) (X : XT) (κ : KT) : Prop := ∃ te, fetch t pc = some te ∧ exec rt calls sc L post te pc lv st X κ
def fx (o : Option TE) (rt : Nat) (calls : List CE) (sc : Option (Nat → Int32)) (L : Nat) (post : Option Value → XT → Prop) (pc : Nat) (lv : List (Nat × Value)) (st : List Value) (X : XT) (κ : KT) : Prop := match o with
  | some te => exec rt calls sc L post te pc lv st X κ
  | none => False
def stopAt : List (Nat × List Nat) → Nat → Option (List Nat)
  | [], _ => none
  | (q, l) :: r, pc => if q = pc then some l else stopAt r pc
def lsel (lv : List (Nat × Value)) : List Nat → Option (List (Nat × Value))
  | [] => some []
  | i :: r => match lget lv i, lsel lv r with
    | some v, some q => some ((i, v) :: q)
    | _, _ => none
theorem lsel_in (lv : List (Nat × Value)) : ∀ (l : List Nat) (lv' : List (Nat × Value)), lsel lv l = some lv' → ∀ q ∈ lv', q ∈ lv
  | [], lv', h, q, hq => by cases h; cases hq
  | i :: r, lv', h, q, hq => by
    unfold lsel at h
    split at h
    next v q' h1 h2 =>
      cases h
      rcases List.mem_cons.mp hq with e | e
      · rw [e]; exact lget_in lv i v h1
      · exact lsel_in lv r q' h2 q e
    next => cases h
def atStop (o : Option (List (Nat × Value))) (R : KT) (pc : Nat) (st : List Value) (X : XT) : Prop := match o with
  | some lv' => R pc lv' st X
  | none => False
def orStop (o : Option (List Nat)) (R : KT) (pc : Nat) (lv : List (Nat × Value)) (st : List Value) (X : XT) (n : Prop) : Prop := match o with
  | some l => atStop (lsel lv l) R pc st X
  | none => n
def run (t : List (Nat × TE)) (rt : Nat) (calls : List CE) (sc : Option (Nat → Int32)) (L : Nat) (post : Option Value → XT → Prop) (stops : List (Nat × List Nat)) (R : KT) : Nat → KT
  | 0 => R
  | n + 1 => fun pc lv st X => orStop (stopAt stops pc) R pc lv st X (fx (fetch t pc) rt calls sc L post pc lv st X (run t rt calls sc L post stops R n))
def Clo (t : List (Nat × TE)) (rt : Nat) (calls : List CE) (sc : Option (Nat → Int32)) (L : Nat) (post : Option Value → XT → Prop) (R : KT) : Prop :=
  (∀ (κ : KT), (∀ pc lv st X, κ pc lv st X → R pc lv st X) → ∀ pc lv st X te, fetch t pc = some te → exec rt calls sc L post te pc lv st X κ → R pc lv st X) ∧
  ∀ pc lv lv' st X, (∀ q ∈ lv', q ∈ lv) → R pc lv' st X → R pc lv st X
section GO
variable {t : List (Nat × TE)} {rt : Nat} {calls : List CE} {sc : Option (Nat → Int32)} {L : Nat} {post : Option Value → XT → Prop} {R : KT}
theorem fx_R (h : Clo t rt calls sc L post R) {κ : KT} (hκ : ∀ pc lv st X, κ pc lv st X → R pc lv st X) {pc : Nat} {lv : List (Nat × Value)} {st : List Value} {X : XT} (hx : fx (fetch t pc) rt calls sc L post pc lv st X κ) : R pc lv st X := by
  unfold fx at hx
  split at hx
  next te hf => exact h.1 κ hκ pc lv st X te hf hx
  next => exact hx.elim
theorem run_R (h : Clo t rt calls sc L post R) (stops : List (Nat × List Nat)) : ∀ (n pc : Nat) (lv : List (Nat × Value)) (st : List Value) (X : XT), run t rt calls sc L post stops R n pc lv st X → R pc lv st X
  | 0, _, _, _, _, hr => hr
  | n + 1, pc, lv, st, X, hr => by
    unfold run at hr
    unfold orStop at hr
    split at hr
    next l hs =>
      unfold atStop at hr
      split at hr
      next lv' hl => exact h.2 pc lv lv' st X (lsel_in lv l lv' hl) hr
      next => exact hr.elim
    next => exact fx_R h (run_R h stops n) hr
/-- go on from here, through at most n instructions, to the stops -/
theorem go (h : Clo t rt calls sc L post R) (stops : List (Nat × List Nat)) (n : Nat) {pc : Nat} {lv : List (Nat × Value)} {st : List Value} {X : XT} (hx : fx (fetch t pc) rt calls sc L post pc lv st X (run t rt calls sc L post stops R n)) : R pc lv st X := fx_R h (run_R h stops n) hx
end GO
def szA (As : List Value) : Nat := (lg_sl As).length
theorem szA_cv (ρ : Nat → Nat) (As : List Value) : (lg_sl (As.map (cv ρ))).length = szA As := by
  unfold szA lg_sl
  induction As with
  | nil => rfl
  | cons v r ih =>
    rw [List.map_cons, List.flatMap_cons, List.flatMap_cons, List.length_append, List.length_append, ih, cv_cat]
    by_cases h : v.category = 2 <;> simp [h]
theorem args_cv (ρ : Nat → Nat) : ∀ (As : List Value) (i : Nat), lv_args i (As.map (cv ρ)) = (lv_args i As).map fun q => (q.1, cv ρ q.2)
  | [], _ => rfl
  | v :: r, i => by
    rw [List.map_cons]
    unfold lv_args
    rw [List.map_cons, cv_cat, args_cv ρ r]
def retT : Nat → Option FieldType
  | 0 => some .int
  | 1 => some .boolean
  | 2 => some .long
  | _ => none
theorem retOk_MQ {p : Program} {l : Launch} {e : Env} {R : Room} {s : State} {m : MethodId} {args : Array Value} {below : List Frame} {meth : Method} {c : Code} {γ : GT} {ρ : Nat → Nat} {cc : ByteArray} {rt : Nat} {post : Option Value → XT → Prop} (hx : p.tables.exec = Jvm.exec) (hb : c.code = cc) (hr : meth.sig.returnType = retT rt) (hlocks : meth.locks = false) :
    RetOk p l e R s m args below meth c γ ρ (Ar ρ) 0 0 (MQ below (QX γ ρ post) args s 0 0 (Ar ρ)) cc rt post := by
  intro ins pc st X H locs ls hd h hP hS
  have hQ : ∀ v : Option Value, post v X → ∀ t : State, t.heap = H → s.WarmedH t.vm → QX γ ρ post args s (.returned (v.map (cv ρ))) t := fun v hv t ht hW => ⟨⟨v, X, rfl, hv, by rw [ht]; exact hP⟩, hS.F ht⟩
  unfold retx at h
  split at h
  next x =>
    obtain ⟨h1 | ⟨h1, h2⟩, h3⟩ := h
    · rw [h1] at hr
      exact W.iret (v := x) hx hb hr (hQ (some (.int x)) h3) hS.2.2 hd hlocks
    · rw [h1] at hr
      exact W.zret (v := x) (ty := .boolean) hx hb hr (nar_bl h2).1 (hQ (some (.int x)) h3) hS.2.2 hd hlocks
  next x =>
    obtain ⟨h1, h3⟩ := h
    rw [h1] at hr
    exact W.lret (v := x) hx hb hr (hQ (some (.long x)) h3) hS.2.2 hd hlocks
  next =>
    obtain ⟨h1, h3⟩ := h
    rw [h1] at hr
    exact W.vret hx hb hr (hQ none h3) hS.2.2 hd hlocks
  next => exact h.elim
/-- a method does what its table's runs show -/
theorem does_of {l : Launch} {y : MethodName} {cc : ByteArray} {maxL : Nat} {rt : Nat} {rm : Room} {t : List (Nat × TE)} {calls : List CE} {C : CT} (hy : plainName y.cls = true) (htk : tOk cc y.cls maxL t = true) (hcalls : ∀ q ∈ calls, CallRule l y.cls cc (wY y cc maxL (retT rt)) maxL rm q)
    (hbody : ∀ As X post, C As X post → szA As ≤ maxL ∧ ∀ R, Clo t rt calls none 0 post R → R 0 (lv_args 0 As) [] X) : Does l y (wY y cc maxL (retT rt)) rm C := by
  intro γ ρ As X post hρ hC
  obtain ⟨hsz, hrun⟩ := hbody As X post hC
  refine Met.ofW (cc := cc) (maxL := maxL) (ret := retT rt) hy rfl ?_
  intro p e s m args below meth c s₁ B hml hv
  obtain ⟨rfl, hP, hK, hN⟩ := hv
  have hts := atoms_spec (ws := wY y cc maxL (retT rt)) B.pre
  have hown : s.vm.findClass y.cls = some m.cls := findClass_of_methodNamed B.named
  have hfix : CallFix p m c cc maxL s ((As.map (cv ρ)).toArray) (wY y cc maxL (retT rt)) y.cls := ⟨B.exec, B.bytes, hml, hown, hts⟩
  have hl := lv_entry (As.map (cv ρ)) (n := maxL) (by rw [szA_cv]; exact hsz)
  rw [args_cv] at hl
  rw [lg_entry_eq]
  have hclo : Clo t rt calls none 0 post (RX p l e rm s m ((As.map (cv ρ)).toArray) below meth c γ ρ (Ar ρ) maxL 0 0 (MQ below (QX γ ρ post) ((As.map (cv ρ)).toArray) s 0 0 (Ar ρ))) :=
    ⟨exec_sound hfix (fun w hw => List.mem_cons_of_mem _ hw) hK hN hρ ⟨Nat.zero_le _, Nat.zero_le _⟩ hcalls (retOk_MQ B.exec B.bytes B.returns B.notSynchronized) (fun xs h => by cases h) htk,
     fun pc lv lv' st X hs hR H locs ls hP hS hl => hR H locs ls hP hS (lv_mono hl (fun q hq => by
       obtain ⟨q0, h0, rfl⟩ := List.mem_map.mp hq
       exact List.mem_map.mpr ⟨q0, hs q0 h0, rfl⟩))⟩
  exact hrun _ hclo s.heap [] _ hP va_S.rf hl
theorem fx_s (te : TE) (rt : Nat) (calls : List CE) (sc : Option (Nat → Int32)) (L : Nat) (post : Option Value → XT → Prop) (pc : Nat) (lv : List (Nat × Value)) (st : List Value) (X : XT) (κ : KT) : fx (some te) rt calls sc L post pc lv st X κ = exec rt calls sc L post te pc lv st X κ := rfl
theorem run_s (t : List (Nat × TE)) (rt : Nat) (calls : List CE) (sc : Option (Nat → Int32)) (L : Nat) (post : Option Value → XT → Prop) (stops : List (Nat × List Nat)) (R : KT) (n pc : Nat) (lv : List (Nat × Value)) (st : List Value) (X : XT) : run t rt calls sc L post stops R (n + 1) pc lv st X = orStop (stopAt stops pc) R pc lv st X (fx (fetch t pc) rt calls sc L post pc lv st X (run t rt calls sc L post stops R n)) := rfl
theorem sa_n (pc : Nat) : stopAt [] pc = none := rfl
theorem sa_c (q pc : Nat) (l : List Nat) (r : List (Nat × List Nat)) : stopAt ((q, l) :: r) pc = if q = pc then some l else stopAt r pc := rfl
theorem os_n (R : KT) (pc : Nat) (lv : List (Nat × Value)) (st : List Value) (X : XT) (n : Prop) : orStop none R pc lv st X n = n := rfl
theorem os_s (l : List Nat) (R : KT) (pc : Nat) (lv : List (Nat × Value)) (st : List Value) (X : XT) (n : Prop) : orStop (some l) R pc lv st X n = atStop (lsel lv l) R pc st X := rfl
theorem as_s (lv : List (Nat × Value)) (R : KT) (pc : Nat) (st : List Value) (X : XT) : atStop (some lv) R pc st X = R pc lv st X := rfl
theorem ls_n (lv : List (Nat × Value)) : lsel lv [] = some [] := rfl
def lcons (i : Nat) (a : Option Value) (b : Option (List (Nat × Value))) : Option (List (Nat × Value)) := match a, b with
  | some v, some q => some ((i, v) :: q)
  | _, _ => none
theorem ls_c (lv : List (Nat × Value)) (i : Nat) (r : List Nat) : lsel lv (i :: r) = lcons i (lget lv i) (lsel lv r) := rfl
theorem lc_s (i : Nat) (v : Value) (q : List (Nat × Value)) : lcons i (some v) (some q) = some ((i, v) :: q) := rfl
end RUN
end
