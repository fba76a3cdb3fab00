section
-- ===== PART A: goes FIRST, ahead of the names: the tables' words, and 'selects' of the private methods out of them =====
/-- a private method of a class that the tables say can be made, by its rows of tables_1 -/
def lw_okq (q : MethodName × Nat) : Prop := (q.1.cls ≠ "java/lang/invoke/MethodHandle" ∧ q.1.cls ≠ "java/lang/invoke/VarHandle") ∧ Cond.instantiable q.1.cls q.2 ∈ tables_1 ∧ Cond.privateMethod q.1 ∈ tables_1 ∧ Cond.instanceMethod q.1 ∈ tables_1
theorem lw_p0 : lw_okq (⟨"RumourSource$Scene", "find", "(II)I"⟩, 8) := ⟨⟨by decide +kernel, by decide +kernel⟩, List.mem_of_getElem? (i := 16) (by decide +kernel), List.mem_of_getElem? (i := 161) (by decide +kernel), List.mem_of_getElem? (i := 162) (by decide +kernel)⟩
theorem lw_p1 : lw_okq (⟨"RumourSource$Scene", "isFull", "()Z"⟩, 8) := ⟨⟨by decide +kernel, by decide +kernel⟩, List.mem_of_getElem? (i := 16) (by decide +kernel), List.mem_of_getElem? (i := 165) (by decide +kernel), List.mem_of_getElem? (i := 166) (by decide +kernel)⟩
theorem lw_p2 : lw_okq (⟨"RumourSource", "remember", "()V"⟩, 6) := ⟨⟨by decide +kernel, by decide +kernel⟩, List.mem_of_getElem? (i := 8) (by decide +kernel), List.mem_of_getElem? (i := 169) (by decide +kernel), List.mem_of_getElem? (i := 170) (by decide +kernel)⟩
theorem lw_p3 : lw_okq (⟨"RumourSource$Scene", "copyFrom", "(LRumourSource$Scene;)V"⟩, 8) := ⟨⟨by decide +kernel, by decide +kernel⟩, List.mem_of_getElem? (i := 16) (by decide +kernel), List.mem_of_getElem? (i := 173) (by decide +kernel), List.mem_of_getElem? (i := 174) (by decide +kernel)⟩
theorem lw_p4 : lw_okq (⟨"RumourSource$Scene", "put", "(IIII)I"⟩, 8) := ⟨⟨by decide +kernel, by decide +kernel⟩, List.mem_of_getElem? (i := 16) (by decide +kernel), List.mem_of_getElem? (i := 177) (by decide +kernel), List.mem_of_getElem? (i := 178) (by decide +kernel)⟩
theorem lw_p5 : lw_okq (⟨"RumourSource$Scene", "hasEdge", "(I)Z"⟩, 8) := ⟨⟨by decide +kernel, by decide +kernel⟩, List.mem_of_getElem? (i := 16) (by decide +kernel), List.mem_of_getElem? (i := 188) (by decide +kernel), List.mem_of_getElem? (i := 189) (by decide +kernel)⟩
theorem lw_p6 : lw_okq (⟨"RumourSource$Scene", "drop", "(I)V"⟩, 8) := ⟨⟨by decide +kernel, by decide +kernel⟩, List.mem_of_getElem? (i := 16) (by decide +kernel), List.mem_of_getElem? (i := 196) (by decide +kernel), List.mem_of_getElem? (i := 197) (by decide +kernel)⟩
theorem lw_p7 : lw_okq (⟨"RumourSource", "replaceSeen", "(II)I"⟩, 6) := ⟨⟨by decide +kernel, by decide +kernel⟩, List.mem_of_getElem? (i := 8) (by decide +kernel), List.mem_of_getElem? (i := 227) (by decide +kernel), List.mem_of_getElem? (i := 228) (by decide +kernel)⟩
theorem lw_p8 : lw_okq (⟨"RumourSource", "drawOutcome", "(I)I"⟩, 6) := ⟨⟨by decide +kernel, by decide +kernel⟩, List.mem_of_getElem? (i := 8) (by decide +kernel), List.mem_of_getElem? (i := 250) (by decide +kernel), List.mem_of_getElem? (i := 251) (by decide +kernel)⟩
theorem lw_p9 : lw_okq (⟨"RumourSource$Spread", "follow", "(LRumourSource$Scene;II)V"⟩, 8) := ⟨⟨by decide +kernel, by decide +kernel⟩, List.mem_of_getElem? (i := 65) (by decide +kernel), List.mem_of_getElem? (i := 255) (by decide +kernel), List.mem_of_getElem? (i := 256) (by decide +kernel)⟩
theorem lw_p10 : lw_okq (⟨"RumourSource$Spread", "begin", "(I)V"⟩, 8) := ⟨⟨by decide +kernel, by decide +kernel⟩, List.mem_of_getElem? (i := 65) (by decide +kernel), List.mem_of_getElem? (i := 259) (by decide +kernel), List.mem_of_getElem? (i := 260) (by decide +kernel)⟩
theorem lw_p11 : lw_okq (⟨"RumourSource$Spread", "arrivalBy", "(LRumourSource$Scene;I)I"⟩, 8) := ⟨⟨by decide +kernel, by decide +kernel⟩, List.mem_of_getElem? (i := 65) (by decide +kernel), List.mem_of_getElem? (i := 263) (by decide +kernel), List.mem_of_getElem? (i := 264) (by decide +kernel)⟩
theorem lw_p12 : lw_okq (⟨"RumourSource", "isOutcome", "(I)Z"⟩, 6) := ⟨⟨by decide +kernel, by decide +kernel⟩, List.mem_of_getElem? (i := 8) (by decide +kernel), List.mem_of_getElem? (i := 275) (by decide +kernel), List.mem_of_getElem? (i := 276) (by decide +kernel)⟩
theorem lw_p13 : lw_okq (⟨"RumourSource$Spread", "wantAsSeen", "(LRumourSource$Scene;)V"⟩, 8) := ⟨⟨by decide +kernel, by decide +kernel⟩, List.mem_of_getElem? (i := 65) (by decide +kernel), List.mem_of_getElem? (i := 288) (by decide +kernel), List.mem_of_getElem? (i := 289) (by decide +kernel)⟩
theorem lw_p14 : lw_okq (⟨"RumourSource$Spread", "isAsWanted", "()Z"⟩, 8) := ⟨⟨by decide +kernel, by decide +kernel⟩, List.mem_of_getElem? (i := 65) (by decide +kernel), List.mem_of_getElem? (i := 292) (by decide +kernel), List.mem_of_getElem? (i := 293) (by decide +kernel)⟩
theorem lw_p15 : lw_okq (⟨"RumourSource$Spread", "canBeAsWanted", "(I)Z"⟩, 8) := ⟨⟨by decide +kernel, by decide +kernel⟩, List.mem_of_getElem? (i := 65) (by decide +kernel), List.mem_of_getElem? (i := 296) (by decide +kernel), List.mem_of_getElem? (i := 297) (by decide +kernel)⟩
def lw_privs_1 : List (MethodName × Nat) := [(⟨"RumourSource$Scene", "find", "(II)I"⟩, 8), (⟨"RumourSource$Scene", "isFull", "()Z"⟩, 8), (⟨"RumourSource", "remember", "()V"⟩, 6), (⟨"RumourSource$Scene", "copyFrom", "(LRumourSource$Scene;)V"⟩, 8), (⟨"RumourSource$Scene", "put", "(IIII)I"⟩, 8), (⟨"RumourSource$Scene", "hasEdge", "(I)Z"⟩, 8), (⟨"RumourSource$Scene", "drop", "(I)V"⟩, 8), (⟨"RumourSource", "replaceSeen", "(II)I"⟩, 6), (⟨"RumourSource", "drawOutcome", "(I)I"⟩, 6), (⟨"RumourSource$Spread", "follow", "(LRumourSource$Scene;II)V"⟩, 8), (⟨"RumourSource$Spread", "begin", "(I)V"⟩, 8), (⟨"RumourSource$Spread", "arrivalBy", "(LRumourSource$Scene;I)I"⟩, 8), (⟨"RumourSource", "isOutcome", "(I)Z"⟩, 6), (⟨"RumourSource$Spread", "wantAsSeen", "(LRumourSource$Scene;)V"⟩, 8), (⟨"RumourSource$Spread", "isAsWanted", "()Z"⟩, 8), (⟨"RumourSource$Spread", "canBeAsWanted", "(I)Z"⟩, 8)]
theorem lw_r1 : ∀ q ∈ lw_privs_1, lw_okq q := List.forall_mem_cons.mpr ⟨lw_p0, List.forall_mem_cons.mpr ⟨lw_p1, List.forall_mem_cons.mpr ⟨lw_p2, List.forall_mem_cons.mpr ⟨lw_p3, List.forall_mem_cons.mpr ⟨lw_p4, List.forall_mem_cons.mpr ⟨lw_p5, List.forall_mem_cons.mpr ⟨lw_p6, List.forall_mem_cons.mpr ⟨lw_p7, List.forall_mem_cons.mpr ⟨lw_p8, List.forall_mem_cons.mpr ⟨lw_p9, List.forall_mem_cons.mpr ⟨lw_p10, List.forall_mem_cons.mpr ⟨lw_p11, List.forall_mem_cons.mpr ⟨lw_p12, List.forall_mem_cons.mpr ⟨lw_p13, List.forall_mem_cons.mpr ⟨lw_p14, List.forall_mem_cons.mpr ⟨lw_p15, fun _ h => absurd h List.not_mem_nil⟩⟩⟩⟩⟩⟩⟩⟩⟩⟩⟩⟩⟩⟩⟩⟩
theorem lw_p16 : lw_okq (⟨"RumourSource$Spread", "wantOnly", "(II)V"⟩, 8) := ⟨⟨by decide +kernel, by decide +kernel⟩, List.mem_of_getElem? (i := 65) (by decide +kernel), List.mem_of_getElem? (i := 305) (by decide +kernel), List.mem_of_getElem? (i := 306) (by decide +kernel)⟩
theorem lw_p17 : lw_okq (⟨"RumourSource$Spread", "wantNothing", "()V"⟩, 8) := ⟨⟨by decide +kernel, by decide +kernel⟩, List.mem_of_getElem? (i := 65) (by decide +kernel), List.mem_of_getElem? (i := 309) (by decide +kernel), List.mem_of_getElem? (i := 310) (by decide +kernel)⟩
theorem lw_p18 : lw_okq (⟨"RumourSource$Spread", "search", "(LRumourSource$Scene;IZ)V"⟩, 8) := ⟨⟨by decide +kernel, by decide +kernel⟩, List.mem_of_getElem? (i := 65) (by decide +kernel), List.mem_of_getElem? (i := 313) (by decide +kernel), List.mem_of_getElem? (i := 314) (by decide +kernel)⟩
theorem lw_p19 : lw_okq (⟨"RumourSource$Spread", "nextEdge", "(LRumourSource$Scene;I)I"⟩, 8) := ⟨⟨by decide +kernel, by decide +kernel⟩, List.mem_of_getElem? (i := 65) (by decide +kernel), List.mem_of_getElem? (i := 320) (by decide +kernel), List.mem_of_getElem? (i := 321) (by decide +kernel)⟩
theorem lw_p20 : lw_okq (⟨"RumourSource$Spread", "collect", "(LRumourSource$Scene;IIJ)V"⟩, 8) := ⟨⟨by decide +kernel, by decide +kernel⟩, List.mem_of_getElem? (i := 65) (by decide +kernel), List.mem_of_getElem? (i := 324) (by decide +kernel), List.mem_of_getElem? (i := 325) (by decide +kernel)⟩
theorem lw_p21 : lw_okq (⟨"RumourSource$Spread", "keepBest", "(JI)V"⟩, 8) := ⟨⟨by decide +kernel, by decide +kernel⟩, List.mem_of_getElem? (i := 65) (by decide +kernel), List.mem_of_getElem? (i := 329) (by decide +kernel), List.mem_of_getElem? (i := 330) (by decide +kernel)⟩
theorem lw_p22 : lw_okq (⟨"RumourSource", "likelihoodOf", "(I)J"⟩, 6) := ⟨⟨by decide +kernel, by decide +kernel⟩, List.mem_of_getElem? (i := 8) (by decide +kernel), List.mem_of_getElem? (i := 342) (by decide +kernel), List.mem_of_getElem? (i := 343) (by decide +kernel)⟩
theorem lw_p23 : lw_okq (⟨"RumourSource", "countIfPossible", "(I)I"⟩, 6) := ⟨⟨by decide +kernel, by decide +kernel⟩, List.mem_of_getElem? (i := 8) (by decide +kernel), List.mem_of_getElem? (i := 350) (by decide +kernel), List.mem_of_getElem? (i := 351) (by decide +kernel)⟩
theorem lw_p24 : lw_okq (⟨"RumourSource", "findLikelihoods", "()V"⟩, 6) := ⟨⟨by decide +kernel, by decide +kernel⟩, List.mem_of_getElem? (i := 8) (by decide +kernel), List.mem_of_getElem? (i := 358) (by decide +kernel), List.mem_of_getElem? (i := 359) (by decide +kernel)⟩
theorem lw_p25 : lw_okq (⟨"RumourSource", "rankOf", "(I)I"⟩, 6) := ⟨⟨by decide +kernel, by decide +kernel⟩, List.mem_of_getElem? (i := 8) (by decide +kernel), List.mem_of_getElem? (i := 362) (by decide +kernel), List.mem_of_getElem? (i := 363) (by decide +kernel)⟩
theorem lw_p26 : lw_okq (⟨"RumourSource$Text", "read", "(LRumourSource$Scene;)I"⟩, 5) := ⟨⟨by decide +kernel, by decide +kernel⟩, List.mem_of_getElem? (i := 102) (by decide +kernel), List.mem_of_getElem? (i := 410) (by decide +kernel), List.mem_of_getElem? (i := 411) (by decide +kernel)⟩
theorem lw_p27 : lw_okq (⟨"RumourSource$Text", "readItem", "()Z"⟩, 5) := ⟨⟨by decide +kernel, by decide +kernel⟩, List.mem_of_getElem? (i := 102) (by decide +kernel), List.mem_of_getElem? (i := 415) (by decide +kernel), List.mem_of_getElem? (i := 416) (by decide +kernel)⟩
theorem lw_p28 : lw_okq (⟨"RumourSource$Text", "nextNode", "()I"⟩, 5) := ⟨⟨by decide +kernel, by decide +kernel⟩, List.mem_of_getElem? (i := 102) (by decide +kernel), List.mem_of_getElem? (i := 419) (by decide +kernel), List.mem_of_getElem? (i := 420) (by decide +kernel)⟩
theorem lw_p29 : lw_okq (⟨"RumourSource$Text", "nextByte", "()I"⟩, 5) := ⟨⟨by decide +kernel, by decide +kernel⟩, List.mem_of_getElem? (i := 102) (by decide +kernel), List.mem_of_getElem? (i := 423) (by decide +kernel), List.mem_of_getElem? (i := 424) (by decide +kernel)⟩
theorem lw_p30 : lw_okq (⟨"RumourSource$Text", "refuse", "()Z"⟩, 5) := ⟨⟨by decide +kernel, by decide +kernel⟩, List.mem_of_getElem? (i := 102) (by decide +kernel), List.mem_of_getElem? (i := 428) (by decide +kernel), List.mem_of_getElem? (i := 429) (by decide +kernel)⟩
theorem lw_p31 : lw_okq (⟨"RumourSource$Text", "readEdge", "(I)Z"⟩, 5) := ⟨⟨by decide +kernel, by decide +kernel⟩, List.mem_of_getElem? (i := 102) (by decide +kernel), List.mem_of_getElem? (i := 432) (by decide +kernel), List.mem_of_getElem? (i := 433) (by decide +kernel)⟩
def lw_privs_2 : List (MethodName × Nat) := [(⟨"RumourSource$Spread", "wantOnly", "(II)V"⟩, 8), (⟨"RumourSource$Spread", "wantNothing", "()V"⟩, 8), (⟨"RumourSource$Spread", "search", "(LRumourSource$Scene;IZ)V"⟩, 8), (⟨"RumourSource$Spread", "nextEdge", "(LRumourSource$Scene;I)I"⟩, 8), (⟨"RumourSource$Spread", "collect", "(LRumourSource$Scene;IIJ)V"⟩, 8), (⟨"RumourSource$Spread", "keepBest", "(JI)V"⟩, 8), (⟨"RumourSource", "likelihoodOf", "(I)J"⟩, 6), (⟨"RumourSource", "countIfPossible", "(I)I"⟩, 6), (⟨"RumourSource", "findLikelihoods", "()V"⟩, 6), (⟨"RumourSource", "rankOf", "(I)I"⟩, 6), (⟨"RumourSource$Text", "read", "(LRumourSource$Scene;)I"⟩, 5), (⟨"RumourSource$Text", "readItem", "()Z"⟩, 5), (⟨"RumourSource$Text", "nextNode", "()I"⟩, 5), (⟨"RumourSource$Text", "nextByte", "()I"⟩, 5), (⟨"RumourSource$Text", "refuse", "()Z"⟩, 5), (⟨"RumourSource$Text", "readEdge", "(I)Z"⟩, 5)]
theorem lw_r2 : ∀ q ∈ lw_privs_2, lw_okq q := List.forall_mem_cons.mpr ⟨lw_p16, List.forall_mem_cons.mpr ⟨lw_p17, List.forall_mem_cons.mpr ⟨lw_p18, List.forall_mem_cons.mpr ⟨lw_p19, List.forall_mem_cons.mpr ⟨lw_p20, List.forall_mem_cons.mpr ⟨lw_p21, List.forall_mem_cons.mpr ⟨lw_p22, List.forall_mem_cons.mpr ⟨lw_p23, List.forall_mem_cons.mpr ⟨lw_p24, List.forall_mem_cons.mpr ⟨lw_p25, List.forall_mem_cons.mpr ⟨lw_p26, List.forall_mem_cons.mpr ⟨lw_p27, List.forall_mem_cons.mpr ⟨lw_p28, List.forall_mem_cons.mpr ⟨lw_p29, List.forall_mem_cons.mpr ⟨lw_p30, List.forall_mem_cons.mpr ⟨lw_p31, fun _ h => absurd h List.not_mem_nil⟩⟩⟩⟩⟩⟩⟩⟩⟩⟩⟩⟩⟩⟩⟩⟩
theorem lw_p32 : lw_okq (⟨"RumourSource$Text", "accept", "(I)Z"⟩, 5) := ⟨⟨by decide +kernel, by decide +kernel⟩, List.mem_of_getElem? (i := 102) (by decide +kernel), List.mem_of_getElem? (i := 438) (by decide +kernel), List.mem_of_getElem? (i := 439) (by decide +kernel)⟩
theorem lw_p33 : lw_okq (⟨"RumourSource$Text", "readNumber", "(II)I"⟩, 5) := ⟨⟨by decide +kernel, by decide +kernel⟩, List.mem_of_getElem? (i := 102) (by decide +kernel), List.mem_of_getElem? (i := 442) (by decide +kernel), List.mem_of_getElem? (i := 443) (by decide +kernel)⟩
theorem lw_p34 : lw_okq (⟨"RumourSource$Text", "readObservation", "(I)Z"⟩, 5) := ⟨⟨by decide +kernel, by decide +kernel⟩, List.mem_of_getElem? (i := 102) (by decide +kernel), List.mem_of_getElem? (i := 447) (by decide +kernel), List.mem_of_getElem? (i := 448) (by decide +kernel)⟩
theorem lw_p35 : lw_okq (⟨"RumourSource$Text", "readSemicolon", "()Z"⟩, 5) := ⟨⟨by decide +kernel, by decide +kernel⟩, List.mem_of_getElem? (i := 102) (by decide +kernel), List.mem_of_getElem? (i := 451) (by decide +kernel), List.mem_of_getElem? (i := 452) (by decide +kernel)⟩
theorem lw_p36 : lw_okq (⟨"RumourSourceModel", "between", "(II)I"⟩, 12) := ⟨⟨by decide +kernel, by decide +kernel⟩, List.mem_of_getElem? (i := 465) (by decide +kernel), List.mem_of_getElem? (i := 519) (by decide +kernel), List.mem_of_getElem? (i := 520) (by decide +kernel)⟩
theorem lw_p37 : lw_okq (⟨"RumourSourceModel", "of", "(II)I"⟩, 12) := ⟨⟨by decide +kernel, by decide +kernel⟩, List.mem_of_getElem? (i := 465) (by decide +kernel), List.mem_of_getElem? (i := 523) (by decide +kernel), List.mem_of_getElem? (i := 524) (by decide +kernel)⟩
theorem lw_p38 : lw_okq (⟨"RumourSourceModel", "saves", "()V"⟩, 12) := ⟨⟨by decide +kernel, by decide +kernel⟩, List.mem_of_getElem? (i := 465) (by decide +kernel), List.mem_of_getElem? (i := 527) (by decide +kernel), List.mem_of_getElem? (i := 528) (by decide +kernel)⟩
theorem lw_p39 : lw_okq (⟨"RumourSourceModel", "copies", "(II)V"⟩, 12) := ⟨⟨by decide +kernel, by decide +kernel⟩, List.mem_of_getElem? (i := 465) (by decide +kernel), List.mem_of_getElem? (i := 531) (by decide +kernel), List.mem_of_getElem? (i := 532) (by decide +kernel)⟩
theorem lw_p40 : lw_okq (⟨"RumourSourceModel", "lays", "(IIIII)V"⟩, 12) := ⟨⟨by decide +kernel, by decide +kernel⟩, List.mem_of_getElem? (i := 465) (by decide +kernel), List.mem_of_getElem? (i := 535) (by decide +kernel), List.mem_of_getElem? (i := 536) (by decide +kernel)⟩
theorem lw_p41 : lw_okq (⟨"RumourSourceModel", "isEdge", "(I)Z"⟩, 12) := ⟨⟨by decide +kernel, by decide +kernel⟩, List.mem_of_getElem? (i := 465) (by decide +kernel), List.mem_of_getElem? (i := 543) (by decide +kernel), List.mem_of_getElem? (i := 544) (by decide +kernel)⟩
theorem lw_p42 : lw_okq (⟨"RumourSourceModel", "becomes", "(II)I"⟩, 12) := ⟨⟨by decide +kernel, by decide +kernel⟩, List.mem_of_getElem? (i := 465) (by decide +kernel), List.mem_of_getElem? (i := 571) (by decide +kernel), List.mem_of_getElem? (i := 572) (by decide +kernel)⟩
theorem lw_p43 : lw_okq (⟨"RumourSourceModel", "hears", "(II)V"⟩, 12) := ⟨⟨by decide +kernel, by decide +kernel⟩, List.mem_of_getElem? (i := 465) (by decide +kernel), List.mem_of_getElem? (i := 595) (by decide +kernel), List.mem_of_getElem? (i := 596) (by decide +kernel)⟩
theorem lw_p44 : lw_okq (⟨"RumourSourceModel", "isOutcome", "(I)Z"⟩, 12) := ⟨⟨by decide +kernel, by decide +kernel⟩, List.mem_of_getElem? (i := 465) (by decide +kernel), List.mem_of_getElem? (i := 606) (by decide +kernel), List.mem_of_getElem? (i := 607) (by decide +kernel)⟩
theorem lw_p45 : lw_okq (⟨"RumourSourceModel", "weightOf", "(I)J"⟩, 12) := ⟨⟨by decide +kernel, by decide +kernel⟩, List.mem_of_getElem? (i := 465) (by decide +kernel), List.mem_of_getElem? (i := 614) (by decide +kernel), List.mem_of_getElem? (i := 615) (by decide +kernel)⟩
theorem lw_p46 : lw_okq (⟨"RumourSourceModel", "isFit", "()Z"⟩, 12) := ⟨⟨by decide +kernel, by decide +kernel⟩, List.mem_of_getElem? (i := 465) (by decide +kernel), List.mem_of_getElem? (i := 623) (by decide +kernel), List.mem_of_getElem? (i := 624) (by decide +kernel)⟩
theorem lw_p47 : lw_okq (⟨"RumourSourceModel", "likelihoodOf", "(IZ)J"⟩, 12) := ⟨⟨by decide +kernel, by decide +kernel⟩, List.mem_of_getElem? (i := 465) (by decide +kernel), List.mem_of_getElem? (i := 640) (by decide +kernel), List.mem_of_getElem? (i := 641) (by decide +kernel)⟩
def lw_privs_3 : List (MethodName × Nat) := [(⟨"RumourSource$Text", "accept", "(I)Z"⟩, 5), (⟨"RumourSource$Text", "readNumber", "(II)I"⟩, 5), (⟨"RumourSource$Text", "readObservation", "(I)Z"⟩, 5), (⟨"RumourSource$Text", "readSemicolon", "()Z"⟩, 5), (⟨"RumourSourceModel", "between", "(II)I"⟩, 12), (⟨"RumourSourceModel", "of", "(II)I"⟩, 12), (⟨"RumourSourceModel", "saves", "()V"⟩, 12), (⟨"RumourSourceModel", "copies", "(II)V"⟩, 12), (⟨"RumourSourceModel", "lays", "(IIIII)V"⟩, 12), (⟨"RumourSourceModel", "isEdge", "(I)Z"⟩, 12), (⟨"RumourSourceModel", "becomes", "(II)I"⟩, 12), (⟨"RumourSourceModel", "hears", "(II)V"⟩, 12), (⟨"RumourSourceModel", "isOutcome", "(I)Z"⟩, 12), (⟨"RumourSourceModel", "weightOf", "(I)J"⟩, 12), (⟨"RumourSourceModel", "isFit", "()Z"⟩, 12), (⟨"RumourSourceModel", "likelihoodOf", "(IZ)J"⟩, 12)]
theorem lw_r3 : ∀ q ∈ lw_privs_3, lw_okq q := List.forall_mem_cons.mpr ⟨lw_p32, List.forall_mem_cons.mpr ⟨lw_p33, List.forall_mem_cons.mpr ⟨lw_p34, List.forall_mem_cons.mpr ⟨lw_p35, List.forall_mem_cons.mpr ⟨lw_p36, List.forall_mem_cons.mpr ⟨lw_p37, List.forall_mem_cons.mpr ⟨lw_p38, List.forall_mem_cons.mpr ⟨lw_p39, List.forall_mem_cons.mpr ⟨lw_p40, List.forall_mem_cons.mpr ⟨lw_p41, List.forall_mem_cons.mpr ⟨lw_p42, List.forall_mem_cons.mpr ⟨lw_p43, List.forall_mem_cons.mpr ⟨lw_p44, List.forall_mem_cons.mpr ⟨lw_p45, List.forall_mem_cons.mpr ⟨lw_p46, List.forall_mem_cons.mpr ⟨lw_p47, fun _ h => absurd h List.not_mem_nil⟩⟩⟩⟩⟩⟩⟩⟩⟩⟩⟩⟩⟩⟩⟩⟩
theorem lw_p48 : lw_okq (⟨"RumourSourceModel", "findsSingle", "()V"⟩, 12) := ⟨⟨by decide +kernel, by decide +kernel⟩, List.mem_of_getElem? (i := 465) (by decide +kernel), List.mem_of_getElem? (i := 648) (by decide +kernel), List.mem_of_getElem? (i := 649) (by decide +kernel)⟩
theorem lw_p49 : lw_okq (⟨"RumourSourceModel", "readsAll", "(Z)Z"⟩, 12) := ⟨⟨by decide +kernel, by decide +kernel⟩, List.mem_of_getElem? (i := 465) (by decide +kernel), List.mem_of_getElem? (i := 693) (by decide +kernel), List.mem_of_getElem? (i := 694) (by decide +kernel)⟩
theorem lw_p50 : lw_okq (⟨"RumourSourceModel", "readsItem", "(Z)Z"⟩, 12) := ⟨⟨by decide +kernel, by decide +kernel⟩, List.mem_of_getElem? (i := 465) (by decide +kernel), List.mem_of_getElem? (i := 697) (by decide +kernel), List.mem_of_getElem? (i := 698) (by decide +kernel)⟩
theorem lw_p51 : lw_okq (⟨"RumourSourceModel", "here", "()I"⟩, 12) := ⟨⟨by decide +kernel, by decide +kernel⟩, List.mem_of_getElem? (i := 465) (by decide +kernel), List.mem_of_getElem? (i := 701) (by decide +kernel), List.mem_of_getElem? (i := 702) (by decide +kernel)⟩
theorem lw_p52 : lw_okq (⟨"RumourSourceModel", "sign", "(I)Z"⟩, 12) := ⟨⟨by decide +kernel, by decide +kernel⟩, List.mem_of_getElem? (i := 465) (by decide +kernel), List.mem_of_getElem? (i := 705) (by decide +kernel), List.mem_of_getElem? (i := 706) (by decide +kernel)⟩
theorem lw_p53 : lw_okq (⟨"RumourSourceModel", "readsEdge", "(IZ)Z"⟩, 12) := ⟨⟨by decide +kernel, by decide +kernel⟩, List.mem_of_getElem? (i := 465) (by decide +kernel), List.mem_of_getElem? (i := 709) (by decide +kernel), List.mem_of_getElem? (i := 710) (by decide +kernel)⟩
theorem lw_p54 : lw_okq (⟨"RumourSourceModel", "number", "(II)I"⟩, 12) := ⟨⟨by decide +kernel, by decide +kernel⟩, List.mem_of_getElem? (i := 465) (by decide +kernel), List.mem_of_getElem? (i := 713) (by decide +kernel), List.mem_of_getElem? (i := 714) (by decide +kernel)⟩
theorem lw_p55 : lw_okq (⟨"RumourSourceModel", "note", "(I)V"⟩, 12) := ⟨⟨by decide +kernel, by decide +kernel⟩, List.mem_of_getElem? (i := 465) (by decide +kernel), List.mem_of_getElem? (i := 726) (by decide +kernel), List.mem_of_getElem? (i := 727) (by decide +kernel)⟩
def lw_privs_4 : List (MethodName × Nat) := [(⟨"RumourSourceModel", "findsSingle", "()V"⟩, 12), (⟨"RumourSourceModel", "readsAll", "(Z)Z"⟩, 12), (⟨"RumourSourceModel", "readsItem", "(Z)Z"⟩, 12), (⟨"RumourSourceModel", "here", "()I"⟩, 12), (⟨"RumourSourceModel", "sign", "(I)Z"⟩, 12), (⟨"RumourSourceModel", "readsEdge", "(IZ)Z"⟩, 12), (⟨"RumourSourceModel", "number", "(II)I"⟩, 12), (⟨"RumourSourceModel", "note", "(I)V"⟩, 12)]
theorem lw_r4 : ∀ q ∈ lw_privs_4, lw_okq q := List.forall_mem_cons.mpr ⟨lw_p48, List.forall_mem_cons.mpr ⟨lw_p49, List.forall_mem_cons.mpr ⟨lw_p50, List.forall_mem_cons.mpr ⟨lw_p51, List.forall_mem_cons.mpr ⟨lw_p52, List.forall_mem_cons.mpr ⟨lw_p53, List.forall_mem_cons.mpr ⟨lw_p54, List.forall_mem_cons.mpr ⟨lw_p55, fun _ h => absurd h List.not_mem_nil⟩⟩⟩⟩⟩⟩⟩⟩
def lw_privs : List (MethodName × Nat) := lw_privs_1 ++ (lw_privs_2 ++ (lw_privs_3 ++ (lw_privs_4)))
def lw_tbl : List Cond := k2_sels lw_privs ++ tables_1
theorem lw_privs_ok : ∀ q ∈ lw_privs, lw_okq q := by
  show ∀ q ∈ lw_privs_1 ++ (lw_privs_2 ++ (lw_privs_3 ++ (lw_privs_4))), lw_okq q
  exact List.forall_mem_append.mpr ⟨lw_r1, List.forall_mem_append.mpr ⟨lw_r2, List.forall_mem_append.mpr ⟨lw_r3, lw_r4⟩⟩⟩
end
section
def RX0 : String := "RumourSource$Scene"
def TX0 : u_T := fun k => match k with
  | 0 => ("RumourSource$Scene", "from", "[I", true)
  | 1 => ("RumourSource$Scene", "to", "[I", true)
  | 2 => ("RumourSource$Scene", "trust", "[I", true)
  | 3 => ("RumourSource$Scene", "delay", "[I", true)
  | 4 => ("RumourSource$Scene", "count", "I", false)
  | 5 => ("RumourSource$Scene", "horizon", "I", false)
  | 6 => ("RumourSource$Scene", "seen", "[I", true)
  | _ => ("RumourSource$Scene", "sensors", "I", false)
def tyX0 : Nat → FieldType := fun k => match k with
  | 0 => .array .int
  | 1 => .array .int
  | 2 => .array .int
  | 3 => .array .int
  | 4 => .int
  | 5 => .int
  | 6 => .array .int
  | _ => .int
abbrev wsX00 : List Cond := u_ws RX0 TX0 8
theorem nmX0 : ∀ a, a < 8 → ∀ b, b < 8 → a ≠ b → (TX0 a).2.1 ≠ (TX0 b).2.1 := by decide +kernel
theorem tyX0_ok : ∀ k, k < 8 → parseFieldDescriptor (TX0 k).2.2.1 = some (tyX0 k) := by decide +kernel
abbrev cX0_init : ByteArray := prog_2_method_1_code
def yX0_init : MethodName := ⟨RX0, "<init>", "()V"⟩
abbrev cX0_copyFrom : ByteArray := prog_2_method_2_code
def yX0_copyFrom : MethodName := ⟨RX0, "copyFrom", "(LRumourSource$Scene;)V"⟩
abbrev cX0_hasEdge : ByteArray := prog_2_method_3_code
def yX0_hasEdge : MethodName := ⟨RX0, "hasEdge", "(I)Z"⟩
abbrev cX0_isFull : ByteArray := prog_2_method_4_code
def yX0_isFull : MethodName := ⟨RX0, "isFull", "()Z"⟩
abbrev cX0_find : ByteArray := prog_2_method_5_code
def yX0_find : MethodName := ⟨RX0, "find", "(II)I"⟩
abbrev cX0_put : ByteArray := prog_2_method_6_code
def yX0_put : MethodName := ⟨RX0, "put", "(IIII)I"⟩
abbrev cX0_drop : ByteArray := prog_2_method_7_code
def yX0_drop : MethodName := ⟨RX0, "drop", "(I)V"⟩
def RX1 : String := "RumourSource$Spread"
def TX1 : u_T := fun k => match k with
  | 0 => ("RumourSource$Spread", "times", "[I", true)
  | 1 => ("RumourSource$Spread", "wanted", "[I", true)
  | 2 => ("RumourSource$Spread", "total", "J", false)
  | 3 => ("RumourSource$Spread", "totalHeard", "J", false)
  | 4 => ("RumourSource$Spread", "bestWeight", "J", false)
  | 5 => ("RumourSource$Spread", "bestOutcome", "I", false)
  | 6 => ("RumourSource$Spread", "met", "[J", true)
  | _ => ("RumourSource$Spread", "anyWillDo", "Z", false)
def tyX1 : Nat → FieldType := fun k => match k with
  | 0 => .array .int
  | 1 => .array .int
  | 2 => .long
  | 3 => .long
  | 4 => .long
  | 5 => .int
  | 6 => .array .long
  | _ => .boolean
abbrev wsX10 : List Cond := u_ws RX1 TX1 8
theorem nmX1 : ∀ a, a < 8 → ∀ b, b < 8 → a ≠ b → (TX1 a).2.1 ≠ (TX1 b).2.1 := by decide +kernel
theorem tyX1_ok : ∀ k, k < 8 → parseFieldDescriptor (TX1 k).2.2.1 = some (tyX1 k) := by decide +kernel
abbrev cX1_init : ByteArray := prog_3_method_1_code
def yX1_init : MethodName := ⟨RX1, "<init>", "()V"⟩
abbrev cX1_wantNothing : ByteArray := prog_3_method_2_code
def yX1_wantNothing : MethodName := ⟨RX1, "wantNothing", "()V"⟩
abbrev cX1_wantOnly : ByteArray := prog_3_method_3_code
def yX1_wantOnly : MethodName := ⟨RX1, "wantOnly", "(II)V"⟩
abbrev cX1_wantAsSeen : ByteArray := prog_3_method_4_code
def yX1_wantAsSeen : MethodName := ⟨RX1, "wantAsSeen", "(LRumourSource$Scene;)V"⟩
abbrev cX1_begin : ByteArray := prog_3_method_5_code
def yX1_begin : MethodName := ⟨RX1, "begin", "(I)V"⟩
abbrev cX1_follow : ByteArray := prog_3_method_6_code
def yX1_follow : MethodName := ⟨RX1, "follow", "(LRumourSource$Scene;II)V"⟩
abbrev cX1_arrivalBy : ByteArray := prog_3_method_7_code
def yX1_arrivalBy : MethodName := ⟨RX1, "arrivalBy", "(LRumourSource$Scene;I)I"⟩
abbrev cX1_isAsWanted : ByteArray := prog_3_method_8_code
def yX1_isAsWanted : MethodName := ⟨RX1, "isAsWanted", "()Z"⟩
abbrev cX1_canBeAsWanted : ByteArray := prog_3_method_9_code
def yX1_canBeAsWanted : MethodName := ⟨RX1, "canBeAsWanted", "(I)Z"⟩
abbrev cX1_search : ByteArray := prog_3_method_10_code
def yX1_search : MethodName := ⟨RX1, "search", "(LRumourSource$Scene;IZ)V"⟩
abbrev cX1_decide : ByteArray := prog_3_method_11_code
def yX1_decide : MethodName := ⟨RX1, "decide", "(LRumourSource$Spread;LRumourSource$Scene;IIIJ)V"⟩
abbrev cX1_nextEdge : ByteArray := prog_3_method_12_code
def yX1_nextEdge : MethodName := ⟨RX1, "nextEdge", "(LRumourSource$Scene;I)I"⟩
abbrev cX1_collect : ByteArray := prog_3_method_13_code
def yX1_collect : MethodName := ⟨RX1, "collect", "(LRumourSource$Scene;IIJ)V"⟩
abbrev cX1_keepBest : ByteArray := prog_3_method_14_code
def yX1_keepBest : MethodName := ⟨RX1, "keepBest", "(JI)V"⟩
def RX2 : String := "RumourSource$Text"
def TX2 : u_T := fun k => match k with
  | 0 => ("RumourSource$Text", "bytes", "[I", true)
  | 1 => ("RumourSource$Text", "size", "I", false)
  | 2 => ("RumourSource$Text", "draft", "LRumourSource$Scene;", true)
  | 3 => ("RumourSource$Text", "at", "I", false)
  | _ => ("RumourSource$Text", "fault", "I", false)
def tyX2 : Nat → FieldType := fun k => match k with
  | 0 => .array .int
  | 1 => .int
  | 2 => .object "RumourSource$Scene"
  | 3 => .int
  | _ => .int
abbrev wsX20 : List Cond := u_ws RX2 TX2 5
theorem nmX2 : ∀ a, a < 5 → ∀ b, b < 5 → a ≠ b → (TX2 a).2.1 ≠ (TX2 b).2.1 := by decide +kernel
theorem tyX2_ok : ∀ k, k < 5 → parseFieldDescriptor (TX2 k).2.2.1 = some (tyX2 k) := by decide +kernel
abbrev cX2_init : ByteArray := prog_4_method_1_code
def yX2_init : MethodName := ⟨RX2, "<init>", "()V"⟩
abbrev cX2_read : ByteArray := prog_4_method_2_code
def yX2_read : MethodName := ⟨RX2, "read", "(LRumourSource$Scene;)I"⟩
abbrev cX2_readItem : ByteArray := prog_4_method_3_code
def yX2_readItem : MethodName := ⟨RX2, "readItem", "()Z"⟩
abbrev cX2_readSemicolon : ByteArray := prog_4_method_4_code
def yX2_readSemicolon : MethodName := ⟨RX2, "readSemicolon", "()Z"⟩
abbrev cX2_readEdge : ByteArray := prog_4_method_5_code
def yX2_readEdge : MethodName := ⟨RX2, "readEdge", "(I)Z"⟩
abbrev cX2_readObservation : ByteArray := prog_4_method_6_code
def yX2_readObservation : MethodName := ⟨RX2, "readObservation", "(I)Z"⟩
abbrev cX2_readNumber : ByteArray := prog_4_method_7_code
def yX2_readNumber : MethodName := ⟨RX2, "readNumber", "(II)I"⟩
abbrev cX2_nextByte : ByteArray := prog_4_method_8_code
def yX2_nextByte : MethodName := ⟨RX2, "nextByte", "()I"⟩
abbrev cX2_nextNode : ByteArray := prog_4_method_9_code
def yX2_nextNode : MethodName := ⟨RX2, "nextNode", "()I"⟩
abbrev cX2_accept : ByteArray := prog_4_method_10_code
def yX2_accept : MethodName := ⟨RX2, "accept", "(I)Z"⟩
abbrev cX2_refuse : ByteArray := prog_4_method_11_code
def yX2_refuse : MethodName := ⟨RX2, "refuse", "()Z"⟩
def RX3 : String := "RumourSource"
def TX3 : u_T := fun k => match k with
  | 0 => ("RumourSource", "now", "LRumourSource$Scene;", true)
  | 1 => ("RumourSource", "past", "[LRumourSource$Scene;", true)
  | 2 => ("RumourSource", "spread", "LRumourSource$Spread;", true)
  | 3 => ("RumourSource", "text", "LRumourSource$Text;", true)
  | 4 => ("RumourSource", "likelihoods", "[J", true)
  | _ => ("RumourSource", "kept", "I", false)
def tyX3 : Nat → FieldType := fun k => match k with
  | 0 => .object "RumourSource$Scene"
  | 1 => .array (.object "RumourSource$Scene")
  | 2 => .object "RumourSource$Spread"
  | 3 => .object "RumourSource$Text"
  | 4 => .array .long
  | _ => .int
abbrev wsX30 : List Cond := u_ws RX3 TX3 6
theorem nmX3 : ∀ a, a < 6 → ∀ b, b < 6 → a ≠ b → (TX3 a).2.1 ≠ (TX3 b).2.1 := by decide +kernel
theorem tyX3_ok : ∀ k, k < 6 → parseFieldDescriptor (TX3 k).2.2.1 = some (tyX3 k) := by decide +kernel
abbrev cX3_init : ByteArray := prog_1_method_1_code
def yX3_init : MethodName := ⟨RX3, "<init>", "()V"⟩
abbrev cX3_addEdge : ByteArray := prog_1_method_2_code
def yX3_addEdge : MethodName := ⟨RX3, "addEdge", "(IIII)I"⟩
abbrev cX3_setEdge : ByteArray := prog_1_method_3_code
def yX3_setEdge : MethodName := ⟨RX3, "setEdge", "(III)I"⟩
abbrev cX3_removeEdge : ByteArray := prog_1_method_4_code
def yX3_removeEdge : MethodName := ⟨RX3, "removeEdge", "(I)I"⟩
abbrev cX3_edges : ByteArray := prog_1_method_5_code
def yX3_edges : MethodName := ⟨RX3, "edges", "()I"⟩
abbrev cX3_edge : ByteArray := prog_1_method_6_code
def yX3_edge : MethodName := ⟨RX3, "edge", "(II)I"⟩
abbrev cX3_edgeBetween : ByteArray := prog_1_method_7_code
def yX3_edgeBetween : MethodName := ⟨RX3, "edgeBetween", "(II)I"⟩
abbrev cX3_setHorizon : ByteArray := prog_1_method_8_code
def yX3_setHorizon : MethodName := ⟨RX3, "setHorizon", "(I)I"⟩
abbrev cX3_observe : ByteArray := prog_1_method_9_code
def yX3_observe : MethodName := ⟨RX3, "observe", "(II)I"⟩
abbrev cX3_forget : ByteArray := prog_1_method_10_code
def yX3_forget : MethodName := ⟨RX3, "forget", "(I)I"⟩
abbrev cX3_observed : ByteArray := prog_1_method_11_code
def yX3_observed : MethodName := ⟨RX3, "observed", "(I)I"⟩
abbrev cX3_setSensors : ByteArray := prog_1_method_12_code
def yX3_setSensors : MethodName := ⟨RX3, "setSensors", "(I)I"⟩
abbrev cX3_simulate : ByteArray := prog_1_method_13_code
def yX3_simulate : MethodName := ⟨RX3, "simulate", "(II)I"⟩
abbrev cX3_timeBy : ByteArray := prog_1_method_14_code
def yX3_timeBy : MethodName := ⟨RX3, "timeBy", "(III)I"⟩
abbrev cX3_weight : ByteArray := prog_1_method_15_code
def yX3_weight : MethodName := ⟨RX3, "weight", "(I)J"⟩
abbrev cX3_fits : ByteArray := prog_1_method_16_code
def yX3_fits : MethodName := ⟨RX3, "fits", "(II)I"⟩
abbrev cX3_timeWeight : ByteArray := prog_1_method_17_code
def yX3_timeWeight : MethodName := ⟨RX3, "timeWeight", "(III)J"⟩
abbrev cX3_reach : ByteArray := prog_1_method_18_code
def yX3_reach : MethodName := ⟨RX3, "reach", "(I)J"⟩
abbrev cX3_likelihood : ByteArray := prog_1_method_19_code
def yX3_likelihood : MethodName := ⟨RX3, "likelihood", "(I)J"⟩
abbrev cX3_candidates : ByteArray := prog_1_method_20_code
def yX3_candidates : MethodName := ⟨RX3, "candidates", "()I"⟩
abbrev cX3_candidate : ByteArray := prog_1_method_21_code
def yX3_candidate : MethodName := ⟨RX3, "candidate", "(I)I"⟩
abbrev cX3_belief : ByteArray := prog_1_method_22_code
def yX3_belief : MethodName := ⟨RX3, "belief", "(I)I"⟩
abbrev cX3_decoy : ByteArray := prog_1_method_23_code
def yX3_decoy : MethodName := ⟨RX3, "decoy", "(I)I"⟩
abbrev cX3_possible : ByteArray := prog_1_method_24_code
def yX3_possible : MethodName := ⟨RX3, "possible", "()I"⟩
abbrev cX3_explanation : ByteArray := prog_1_method_25_code
def yX3_explanation : MethodName := ⟨RX3, "explanation", "(I)I"⟩
abbrev cX3_values : ByteArray := prog_1_method_26_code
def yX3_values : MethodName := ⟨RX3, "values", "(I)I"⟩
abbrev cX3_undo : ByteArray := prog_1_method_27_code
def yX3_undo : MethodName := ⟨RX3, "undo", "()I"⟩
abbrev cX3_type : ByteArray := prog_1_method_28_code
def yX3_type : MethodName := ⟨RX3, "type", "(I)I"⟩
abbrev cX3_clearText : ByteArray := prog_1_method_29_code
def yX3_clearText : MethodName := ⟨RX3, "clearText", "()I"⟩
abbrev cX3_textFault : ByteArray := prog_1_method_30_code
def yX3_textFault : MethodName := ⟨RX3, "textFault", "()I"⟩
abbrev cX3_load : ByteArray := prog_1_method_31_code
def yX3_load : MethodName := ⟨RX3, "load", "()I"⟩
abbrev cX3_digest : ByteArray := prog_1_method_32_code
def yX3_digest : MethodName := ⟨RX3, "digest", "()J"⟩
abbrev cX3_isNode : ByteArray := prog_1_method_33_code
def yX3_isNode : MethodName := ⟨RX3, "isNode", "(I)Z"⟩
abbrev cX3_isTrust : ByteArray := prog_1_method_34_code
def yX3_isTrust : MethodName := ⟨RX3, "isTrust", "(I)Z"⟩
abbrev cX3_isDelay : ByteArray := prog_1_method_35_code
def yX3_isDelay : MethodName := ⟨RX3, "isDelay", "(I)Z"⟩
abbrev cX3_isTime : ByteArray := prog_1_method_36_code
def yX3_isTime : MethodName := ⟨RX3, "isTime", "(I)Z"⟩
abbrev cX3_isTimeOrNone : ByteArray := prog_1_method_37_code
def yX3_isTimeOrNone : MethodName := ⟨RX3, "isTimeOrNone", "(I)Z"⟩
abbrev cX3_isStart : ByteArray := prog_1_method_38_code
def yX3_isStart : MethodName := ⟨RX3, "isStart", "(I)Z"⟩
abbrev cX3_isOutcome : ByteArray := prog_1_method_39_code
def yX3_isOutcome : MethodName := ⟨RX3, "isOutcome", "(I)Z"⟩
abbrev cX3_timeOrNone : ByteArray := prog_1_method_40_code
def yX3_timeOrNone : MethodName := ⟨RX3, "timeOrNone", "(I)I"⟩
abbrev cX3_remember : ByteArray := prog_1_method_41_code
def yX3_remember : MethodName := ⟨RX3, "remember", "()V"⟩
abbrev cX3_replaceSeen : ByteArray := prog_1_method_42_code
def yX3_replaceSeen : MethodName := ⟨RX3, "replaceSeen", "(II)I"⟩
abbrev cX3_drawOutcome : ByteArray := prog_1_method_43_code
def yX3_drawOutcome : MethodName := ⟨RX3, "drawOutcome", "(I)I"⟩
abbrev cX3_likelihoodOf : ByteArray := prog_1_method_44_code
def yX3_likelihoodOf : MethodName := ⟨RX3, "likelihoodOf", "(I)J"⟩
abbrev cX3_countIfPossible : ByteArray := prog_1_method_45_code
def yX3_countIfPossible : MethodName := ⟨RX3, "countIfPossible", "(I)I"⟩
abbrev cX3_findLikelihoods : ByteArray := prog_1_method_46_code
def yX3_findLikelihoods : MethodName := ⟨RX3, "findLikelihoods", "()V"⟩
abbrev cX3_rankOf : ByteArray := prog_1_method_47_code
def yX3_rankOf : MethodName := ⟨RX3, "rankOf", "(I)I"⟩
def RX4 : String := "RumourSourceModel"
def TX4 : u_T := fun k => match k with
  | 0 => ("RumourSourceModel", "row", "[I", true)
  | 1 => ("RumourSourceModel", "saved", "I", false)
  | 2 => ("RumourSourceModel", "known", "Z", false)
  | 3 => ("RumourSourceModel", "time", "[I", true)
  | 4 => ("RumourSourceModel", "single", "[J", true)
  | 5 => ("RumourSourceModel", "occurs", "[Z", true)
  | 6 => ("RumourSourceModel", "text", "[I", true)
  | 7 => ("RumourSourceModel", "length", "I", false)
  | 8 => ("RumourSourceModel", "at", "I", false)
  | 9 => ("RumourSourceModel", "linked", "[Z", true)
  | 10 => ("RumourSourceModel", "links", "I", false)
  | _ => ("RumourSourceModel", "h", "J", false)
def tyX4 : Nat → FieldType := fun k => match k with
  | 0 => .array .int
  | 1 => .int
  | 2 => .boolean
  | 3 => .array .int
  | 4 => .array .long
  | 5 => .array .boolean
  | 6 => .array .int
  | 7 => .int
  | 8 => .int
  | 9 => .array .boolean
  | 10 => .int
  | _ => .long
abbrev wsX40 : List Cond := u_ws RX4 TX4 12
theorem nmX4 : ∀ a, a < 12 → ∀ b, b < 12 → a ≠ b → (TX4 a).2.1 ≠ (TX4 b).2.1 := by decide +kernel
theorem tyX4_ok : ∀ k, k < 12 → parseFieldDescriptor (TX4 k).2.2.1 = some (tyX4 k) := by decide +kernel
abbrev cX4_init : ByteArray := prog_6_method_1_code
def yX4_init : MethodName := ⟨RX4, "<init>", "()V"⟩
abbrev cX4_in : ByteArray := prog_6_method_2_code
def yX4_in : MethodName := ⟨RX4, "in", "(III)Z"⟩
abbrev cX4_copies : ByteArray := prog_6_method_3_code
def yX4_copies : MethodName := ⟨RX4, "copies", "(II)V"⟩
abbrev cX4_saves : ByteArray := prog_6_method_4_code
def yX4_saves : MethodName := ⟨RX4, "saves", "()V"⟩
abbrev cX4_isNode : ByteArray := prog_6_method_5_code
def yX4_isNode : MethodName := ⟨RX4, "isNode", "(I)Z"⟩
abbrev cX4_isEdge : ByteArray := prog_6_method_6_code
def yX4_isEdge : MethodName := ⟨RX4, "isEdge", "(I)Z"⟩
abbrev cX4_of : ByteArray := prog_6_method_7_code
def yX4_of : MethodName := ⟨RX4, "of", "(II)I"⟩
abbrev cX4_between : ByteArray := prog_6_method_8_code
def yX4_between : MethodName := ⟨RX4, "between", "(II)I"⟩
abbrev cX4_lays : ByteArray := prog_6_method_9_code
def yX4_lays : MethodName := ⟨RX4, "lays", "(IIIII)V"⟩
abbrev cX4_addEdge : ByteArray := prog_6_method_10_code
def yX4_addEdge : MethodName := ⟨RX4, "addEdge", "(IIII)I"⟩
abbrev cX4_setEdge : ByteArray := prog_6_method_11_code
def yX4_setEdge : MethodName := ⟨RX4, "setEdge", "(III)I"⟩
abbrev cX4_removeEdge : ByteArray := prog_6_method_12_code
def yX4_removeEdge : MethodName := ⟨RX4, "removeEdge", "(I)I"⟩
abbrev cX4_edges : ByteArray := prog_6_method_13_code
def yX4_edges : MethodName := ⟨RX4, "edges", "()I"⟩
abbrev cX4_edge : ByteArray := prog_6_method_14_code
def yX4_edge : MethodName := ⟨RX4, "edge", "(II)I"⟩
abbrev cX4_edgeBetween : ByteArray := prog_6_method_15_code
def yX4_edgeBetween : MethodName := ⟨RX4, "edgeBetween", "(II)I"⟩
abbrev cX4_setHorizon : ByteArray := prog_6_method_16_code
def yX4_setHorizon : MethodName := ⟨RX4, "setHorizon", "(I)I"⟩
abbrev cX4_hears : ByteArray := prog_6_method_17_code
def yX4_hears : MethodName := ⟨RX4, "hears", "(II)V"⟩
abbrev cX4_told : ByteArray := prog_6_method_18_code
def yX4_told : MethodName := ⟨RX4, "told", "(I)I"⟩
abbrev cX4_isFit : ByteArray := prog_6_method_19_code
def yX4_isFit : MethodName := ⟨RX4, "isFit", "()Z"⟩
abbrev cX4_weightOf : ByteArray := prog_6_method_20_code
def yX4_weightOf : MethodName := ⟨RX4, "weightOf", "(I)J"⟩
abbrev cX4_isOutcome : ByteArray := prog_6_method_21_code
def yX4_isOutcome : MethodName := ⟨RX4, "isOutcome", "(I)Z"⟩
abbrev cX4_isStart : ByteArray := prog_6_method_22_code
def yX4_isStart : MethodName := ⟨RX4, "isStart", "(I)Z"⟩
abbrev cX4_becomes : ByteArray := prog_6_method_23_code
def yX4_becomes : MethodName := ⟨RX4, "becomes", "(II)I"⟩
abbrev cX4_observe : ByteArray := prog_6_method_24_code
def yX4_observe : MethodName := ⟨RX4, "observe", "(II)I"⟩
abbrev cX4_forget : ByteArray := prog_6_method_25_code
def yX4_forget : MethodName := ⟨RX4, "forget", "(I)I"⟩
abbrev cX4_observed : ByteArray := prog_6_method_26_code
def yX4_observed : MethodName := ⟨RX4, "observed", "(I)I"⟩
abbrev cX4_setSensors : ByteArray := prog_6_method_27_code
def yX4_setSensors : MethodName := ⟨RX4, "setSensors", "(I)I"⟩
abbrev cX4_simulate : ByteArray := prog_6_method_28_code
def yX4_simulate : MethodName := ⟨RX4, "simulate", "(II)I"⟩
abbrev cX4_timeBy : ByteArray := prog_6_method_29_code
def yX4_timeBy : MethodName := ⟨RX4, "timeBy", "(III)I"⟩
abbrev cX4_weight : ByteArray := prog_6_method_30_code
def yX4_weight : MethodName := ⟨RX4, "weight", "(I)J"⟩
abbrev cX4_fits : ByteArray := prog_6_method_31_code
def yX4_fits : MethodName := ⟨RX4, "fits", "(II)I"⟩
abbrev cX4_timeWeight : ByteArray := prog_6_method_32_code
def yX4_timeWeight : MethodName := ⟨RX4, "timeWeight", "(III)J"⟩
abbrev cX4_reach : ByteArray := prog_6_method_33_code
def yX4_reach : MethodName := ⟨RX4, "reach", "(I)J"⟩
abbrev cX4_likelihoodOf : ByteArray := prog_6_method_34_code
def yX4_likelihoodOf : MethodName := ⟨RX4, "likelihoodOf", "(IZ)J"⟩
abbrev cX4_findsSingle : ByteArray := prog_6_method_35_code
def yX4_findsSingle : MethodName := ⟨RX4, "findsSingle", "()V"⟩
abbrev cX4_likelihood : ByteArray := prog_6_method_36_code
def yX4_likelihood : MethodName := ⟨RX4, "likelihood", "(I)J"⟩
abbrev cX4_candidates : ByteArray := prog_6_method_37_code
def yX4_candidates : MethodName := ⟨RX4, "candidates", "()I"⟩
abbrev cX4_candidate : ByteArray := prog_6_method_38_code
def yX4_candidate : MethodName := ⟨RX4, "candidate", "(I)I"⟩
abbrev cX4_belief : ByteArray := prog_6_method_39_code
def yX4_belief : MethodName := ⟨RX4, "belief", "(I)I"⟩
abbrev cX4_decoy : ByteArray := prog_6_method_40_code
def yX4_decoy : MethodName := ⟨RX4, "decoy", "(I)I"⟩
abbrev cX4_possible : ByteArray := prog_6_method_41_code
def yX4_possible : MethodName := ⟨RX4, "possible", "()I"⟩
abbrev cX4_explanation : ByteArray := prog_6_method_42_code
def yX4_explanation : MethodName := ⟨RX4, "explanation", "(I)I"⟩
abbrev cX4_values : ByteArray := prog_6_method_43_code
def yX4_values : MethodName := ⟨RX4, "values", "(I)I"⟩
abbrev cX4_undo : ByteArray := prog_6_method_44_code
def yX4_undo : MethodName := ⟨RX4, "undo", "()I"⟩
abbrev cX4_type : ByteArray := prog_6_method_45_code
def yX4_type : MethodName := ⟨RX4, "type", "(I)I"⟩
abbrev cX4_clearText : ByteArray := prog_6_method_46_code
def yX4_clearText : MethodName := ⟨RX4, "clearText", "()I"⟩
abbrev cX4_here : ByteArray := prog_6_method_47_code
def yX4_here : MethodName := ⟨RX4, "here", "()I"⟩
abbrev cX4_sign : ByteArray := prog_6_method_48_code
def yX4_sign : MethodName := ⟨RX4, "sign", "(I)Z"⟩
abbrev cX4_number : ByteArray := prog_6_method_49_code
def yX4_number : MethodName := ⟨RX4, "number", "(II)I"⟩
abbrev cX4_readsEdge : ByteArray := prog_6_method_50_code
def yX4_readsEdge : MethodName := ⟨RX4, "readsEdge", "(IZ)Z"⟩
abbrev cX4_readsItem : ByteArray := prog_6_method_51_code
def yX4_readsItem : MethodName := ⟨RX4, "readsItem", "(Z)Z"⟩
abbrev cX4_readsAll : ByteArray := prog_6_method_52_code
def yX4_readsAll : MethodName := ⟨RX4, "readsAll", "(Z)Z"⟩
abbrev cX4_textFault : ByteArray := prog_6_method_53_code
def yX4_textFault : MethodName := ⟨RX4, "textFault", "()I"⟩
abbrev cX4_load : ByteArray := prog_6_method_54_code
def yX4_load : MethodName := ⟨RX4, "load", "()I"⟩
abbrev cX4_note : ByteArray := prog_6_method_55_code
def yX4_note : MethodName := ⟨RX4, "note", "(I)V"⟩
abbrev cX4_digest : ByteArray := prog_6_method_56_code
def yX4_digest : MethodName := ⟨RX4, "digest", "()J"⟩
def RJ13 : String := "java/lang/Long"
def TJ13 : u_T := fun k => match k with
  | _ => ("", "", "", false)
def tyJ13 : Nat → FieldType := fun k => match k with
  | _ => .int
abbrev wsJ130 : List Cond := u_ws RJ13 TJ13 0
theorem nmJ13 : ∀ a, a < 0 → ∀ b, b < 0 → a ≠ b → (TJ13 a).2.1 ≠ (TJ13 b).2.1 := by decide +kernel
theorem tyJ13_ok : ∀ k, k < 0 → parseFieldDescriptor (TJ13 k).2.2.1 = some (tyJ13 k) := by decide +kernel
abbrev cJ13_bitCount_95d88 : ByteArray := prog_7_method_50_code
def yJ13_bitCount_95d88 : MethodName := ⟨RJ13, "bitCount", "(J)I"⟩
def RL : String := "RumourSourceLaw"
abbrev cL_law : ByteArray := code
def yL_law : MethodName := ⟨RL, "law", "([I)Z"⟩
abbrev vwCl : List vw_C := [(RX0, TX0, 8), (RX1, TX1, 8), (RX2, TX2, 5), (RX3, TX3, 6), (RX4, TX4, 12)]
end
section
/-! The world of all cells, by numbers: 0 the RumourSource, 1.. its Scenes, Spread, Text, rows; 51 the model, 52.. its rows. A state of it: what each whole number's place holds (fields and elements alike), each long's, and which scene each place of the row of the past holds. -/
section HEAP
abbrev XT : Type := (Nat → Nat → Int32) × (Nat → Nat → Int64) × (Nat → Nat)
def sI (X : XT) (k j : Nat) (v : Int32) : XT := (fun q => if q = k then upd (X.1 k) j v else X.1 q, X.2.1, X.2.2)
def sL (X : XT) (k j : Nat) (v : Int64) : XT := (X.1, fun q => if q = k then vp_updL (X.2.1 k) j v else X.2.1 q, X.2.2)
def sR (X : XT) (j v : Nat) : XT := (X.1, X.2.1, va_up X.2.2 j v)
abbrev NC : Nat := 58
def shpL : List (Nat × Nat) := [(3,0), (0,0),(5,12),(5,12),(5,12),(5,12),(5,8), (8,5), (1,0),(5,8),(5,8),(6,8), (2,0),(5,120), (0,0),(5,12),(5,12),(5,12),(5,12),(5,8), (6,8),
  (0,0),(5,12),(5,12),(5,12),(5,12),(5,8), (0,0),(5,12),(5,12),(5,12),(5,12),(5,8), (0,0),(5,12),(5,12),(5,12),(5,12),(5,8), (0,0),(5,12),(5,12),(5,12),(5,12),(5,8), (0,0),(5,12),(5,12),(5,12),(5,12),(5,8),
  (4,0),(5,354),(5,8),(6,8),(7,32),(5,120),(7,64)]
def shp (k : Nat) : Nat × Nat := shpL.getD k (9, 0)
def fkL : List (List Nat) := [[3,4,5,6,0,0,7,0], [3,4,1,1,1,0,5,0], [3,0,4,0,0], [3,9,10,14,22,0], [3,0,0,4,5,6,7,0,0,8,0,1]]
def fk (c j : Nat) : Nat := (fkL.getD c []).getD j 0
def nf (c : Nat) : Nat := (fkL.getD c []).length
/-- a boolean's place -/
def zf (c j : Nat) : Bool := (c == 1 && j == 7) || (c == 4 && j == 2)
def fv (ρ : Nat → Nat) (X : XT) (c k j : Nat) : Value := match fk c j with
  | 0 => .int (X.1 k j)
  | 1 => .long (X.2.1 k j)
  | n + 2 => .ref (ρ (k + n))
abbrev GT : Type := va_G × (Nat → ClassId)
def cellE (γ : GT) (ρ : Nat → Nat) (X : XT) (k : Nat) : va_E := match (shp k).1 with
  | 5 => .inl (γ.2 0, (shp k).2, .inl (X.1 k))
  | 6 => .inl (γ.2 1, (shp k).2, .inr (.inl (X.2.1 k)))
  | 7 => .inl (γ.2 2, (shp k).2, .inl (X.1 k))
  | 8 => .inl (γ.2 3, (shp k).2, .inr (.inr (.inr (.inr (fun j => some (ρ (X.2.2 j)))))))
  | c => .inr (c, (List.range (nf c)).map (fv ρ X c k))
def cells (γ : GT) (ρ : Nat → Nat) (X : XT) : va_W := (List.range NC).map (fun k => (ρ k, cellE γ ρ X k))
def tysG (γ : GT) : List (ClassId × FieldType) := [(γ.2 0, .int), (γ.2 1, .long), (γ.2 2, .boolean), (γ.2 3, .object RX0)]
def cv (ρ : Nat → Nat) : Value → Value
  | .ref k => .ref (ρ k)
  | v => v
theorem cv_cat (ρ : Nat → Nat) (v : Value) : (cv ρ v).category = v.category := by cases v <;> rfl
theorem cells_at (γ : GT) (ρ : Nat → Nat) (X : XT) {k : Nat} (h : k < NC) : (cells γ ρ X)[k]? = some (ρ k, cellE γ ρ X k) := by
  simp [cells, List.getElem?_map, List.getElem?_range h]
theorem cells_out (γ : GT) (ρ : Nat → Nat) (X : XT) {k : Nat} (h : ¬ k < NC) : (cells γ ρ X)[k]? = none := by
  simp [cells, List.getElem?_map]
  omega
theorem cells_len (γ : GT) (ρ : Nat → Nat) (X : XT) : (cells γ ρ X).length = NC := by simp [cells]
theorem cells_set (γ : GT) (ρ : Nat → Nat) (X X' : XT) {k : Nat} (hk : k < NC) {e : va_E} (h1 : cellE γ ρ X' k = e) (h2 : ∀ j, j ≠ k → cellE γ ρ X' j = cellE γ ρ X j) : (cells γ ρ X).set k (ρ k, e) = cells γ ρ X' := by
  apply List.ext_getElem?
  intro i
  by_cases hi : i < NC
  · by_cases e' : i = k
    · subst e'
      rw [List.getElem?_set_self (by rw [cells_len]; exact hi), cells_at γ ρ X' hi, h1]
    · rw [List.getElem?_set_ne (fun z => e' z.symm), cells_at γ ρ X hi, cells_at γ ρ X' hi, h2 i e']
  · rw [cells_out γ ρ X' hi, List.getElem?_eq_none]
    rw [List.length_set, cells_len]; omega
def dA (A : Nat → Prop) (ρ : Nat → Nat) : Prop := (∀ i j : Nat, i < NC → j < NC → ρ i = ρ j → i = j) ∧ ∀ i : Nat, i < NC → A (ρ i)
theorem cells_D {A : Nat → Prop} {ρ : Nat → Nat} (h : dA A ρ) (γ : GT) (X : XT) : va_D A (cells γ ρ X) := by
  have key : ∀ (k : Nat) (q : Nat × va_E), (cells γ ρ X)[k]? = some q → k < NC ∧ q.1 = ρ k := by
    intro k q hq
    by_cases hk : k < NC
    · rw [cells_at γ ρ X hk] at hq
      cases hq
      exact ⟨hk, rfl⟩
    · rw [cells_out γ ρ X hk] at hq
      cases hq
  refine ⟨fun i j p q hi hj hpq => ?_, fun k q hk => ?_⟩
  · obtain ⟨a1, a2⟩ := key i p hi
    obtain ⟨b1, b2⟩ := key j q hj
    exact h.1 i j a1 b1 (a2.symm.trans (hpq.trans b2))
  · obtain ⟨a1, a2⟩ := key k q hk
    rw [a2]; exact h.2 k a1
theorem cellE_sI_ne (γ : GT) (ρ : Nat → Nat) (X : XT) (k j : Nat) (v : Int32) {q : Nat} (h : q ≠ k) : cellE γ ρ (sI X k j v) q = cellE γ ρ X q := by
  unfold cellE
  have h1 : (sI X k j v).1 q = X.1 q := by simp [sI, h]
  have h2 : fv ρ (sI X k j v) = fun c k' j' => fv ρ (sI X k j v) c k' j' := rfl
  have h3 : ∀ c, fv ρ (sI X k j v) c q = fv ρ X c q := by
    intro c; funext i
    simp only [fv, h1]
    rfl
  simp only [h1, h3]
  rfl
theorem cellE_sL_ne (γ : GT) (ρ : Nat → Nat) (X : XT) (k j : Nat) (v : Int64) {q : Nat} (h : q ≠ k) : cellE γ ρ (sL X k j v) q = cellE γ ρ X q := by
  unfold cellE
  have h1 : (sL X k j v).2.1 q = X.2.1 q := by simp [sL, h]
  have h3 : ∀ c, fv ρ (sL X k j v) c q = fv ρ X c q := by
    intro c; funext i
    simp only [fv, h1]
    rfl
  simp only [h1, h3]
  rfl
theorem cellE_arrI (γ : GT) (ρ : Nat → Nat) (X : XT) {k : Nat} (h : (shp k).1 = 5) : cellE γ ρ X k = .inl (γ.2 0, (shp k).2, .inl (X.1 k)) := by
  unfold cellE; rw [h]; rfl
theorem cellE_arrL (γ : GT) (ρ : Nat → Nat) (X : XT) {k : Nat} (h : (shp k).1 = 6) : cellE γ ρ X k = .inl (γ.2 1, (shp k).2, .inr (.inl (X.2.1 k))) := by
  unfold cellE; rw [h]; rfl
theorem cellE_arrZ (γ : GT) (ρ : Nat → Nat) (X : XT) {k : Nat} (h : (shp k).1 = 7) : cellE γ ρ X k = .inl (γ.2 2, (shp k).2, .inl (X.1 k)) := by
  unfold cellE; rw [h]; rfl
theorem cellE_arrR (γ : GT) (ρ : Nat → Nat) (X : XT) {k : Nat} (h : (shp k).1 = 8) : cellE γ ρ X k = .inl (γ.2 3, (shp k).2, .inr (.inr (.inr (.inr (fun j => some (ρ (X.2.2 j))))))) := by
  unfold cellE; rw [h]; rfl
theorem cellE_obj (γ : GT) (ρ : Nat → Nat) (X : XT) {k c : Nat} (h : (shp k).1 = c) (hc : c < 5) : cellE γ ρ X k = .inr (c, (List.range (nf c)).map (fv ρ X c k)) := by
  unfold cellE; rw [h]
  rcases (by omega : c = 0 ∨ c = 1 ∨ c = 2 ∨ c = 3 ∨ c = 4) with rfl | rfl | rfl | rfl | rfl <;> rfl
theorem sI_at (X : XT) (k j : Nat) (v : Int32) : (sI X k j v).1 k = upd (X.1 k) j v := by simp [sI]
theorem sL_at (X : XT) (k j : Nat) (v : Int64) : (sL X k j v).2.1 k = vp_updL (X.2.1 k) j v := by simp [sL]
theorem one_scenes8 : ∀ k, k < NC → (shp k).1 = 8 → k = 7 := by decide +kernel
theorem cells_setI (γ : GT) (ρ : Nat → Nat) (X : XT) {k : Nat} (hk : k < NC) (h : (shp k).1 = 5) (j : Nat) (v : Int32) : (cells γ ρ X).set k (ρ k, .inl (γ.2 0, (shp k).2, .inl (upd (X.1 k) j v))) = cells γ ρ (sI X k j v) :=
  cells_set γ ρ X _ hk (by rw [cellE_arrI γ ρ _ h, sI_at]) (fun q hq => cellE_sI_ne γ ρ X k j v hq)
theorem cells_setZ (γ : GT) (ρ : Nat → Nat) (X : XT) {k : Nat} (hk : k < NC) (h : (shp k).1 = 7) (j : Nat) (v : Int32) : (cells γ ρ X).set k (ρ k, .inl (γ.2 2, (shp k).2, .inl (upd (X.1 k) j v))) = cells γ ρ (sI X k j v) :=
  cells_set γ ρ X _ hk (by rw [cellE_arrZ γ ρ _ h, sI_at]) (fun q hq => cellE_sI_ne γ ρ X k j v hq)
theorem cells_setL (γ : GT) (ρ : Nat → Nat) (X : XT) {k : Nat} (hk : k < NC) (h : (shp k).1 = 6) (j : Nat) (v : Int64) : (cells γ ρ X).set k (ρ k, .inl (γ.2 1, (shp k).2, .inr (.inl (vp_updL (X.2.1 k) j v)))) = cells γ ρ (sL X k j v) :=
  cells_set γ ρ X _ hk (by rw [cellE_arrL γ ρ _ h, sL_at]) (fun q hq => cellE_sL_ne γ ρ X k j v hq)
theorem cells_setR (γ : GT) (ρ : Nat → Nat) (X : XT) {k : Nat} (hk : k < NC) (h : (shp k).1 = 8) (j w : Nat) : (cells γ ρ X).set k (ρ k, .inl (γ.2 3, (shp k).2, .inr (.inr (.inr (.inr (va_up (fun i => some (ρ (X.2.2 i))) j (some (ρ w)))))))) = cells γ ρ (sR X j w) := by
  refine cells_set γ ρ X _ hk ?_ (fun q hq => ?_)
  · rw [cellE_arrR γ ρ _ h]
    have : (fun i => some (ρ ((sR X j w).2.2 i))) = va_up (fun i => some (ρ (X.2.2 i))) j (some (ρ w)) := by
      funext i
      simp only [sR, va_up]
      by_cases e : i = j <;> simp [e]
    rw [this]
  · by_cases e : q < NC
    · have h8 : (shp q).1 ≠ 8 := fun z => hq ((one_scenes8 q e z).trans (one_scenes8 k hk h).symm)
      unfold cellE
      split <;> first | rfl | (exfalso; apply h8; assumption)
    · have : (shp q).1 = 9 := by
        have hl : shpL.length = 58 := rfl
        have hn : NC = 58 := rfl
        unfold shp
        rw [List.getD_eq_getElem?_getD, List.getElem?_eq_none (by omega)]; rfl
      unfold cellE
      rw [this]
      rfl
theorem fv_int (ρ : Nat → Nat) (X : XT) (c k j : Nat) (h : fk c j = 0) : fv ρ X c k j = .int (X.1 k j) := by unfold fv; rw [h]
theorem fv_long (ρ : Nat → Nat) (X : XT) (c k j : Nat) (h : fk c j = 1) : fv ρ X c k j = .long (X.2.1 k j) := by unfold fv; rw [h]
theorem fv_sI_ne (ρ : Nat → Nat) (X : XT) (c k j : Nat) (v : Int32) {i : Nat} (e : i ≠ j) : fv ρ (sI X k j v) c k i = fv ρ X c k i := by
  have h1 : (sI X k j v).1 k i = X.1 k i := by rw [sI_at]; simp [upd, e]
  unfold fv
  rw [h1]
  rfl
theorem fv_sL_ne (ρ : Nat → Nat) (X : XT) (c k j : Nat) (v : Int64) {i : Nat} (e : i ≠ j) : fv ρ (sL X k j v) c k i = fv ρ X c k i := by
  have h1 : (sL X k j v).2.1 k i = X.2.1 k i := by rw [sL_at]; simp [vp_updL, e]
  unfold fv
  rw [h1]
  rfl
theorem obj_setI (ρ : Nat → Nat) (X : XT) (c k j : Nat) (v : Int32) (h : fk c j = 0) : (List.range (nf c)).map (fv ρ (sI X k j v) c k) = ((List.range (nf c)).map (fv ρ X c k)).set j (.int v) := by
  apply List.ext_getElem?
  intro i
  by_cases hi : i < nf c
  · by_cases e : i = j
    · subst e
      rw [List.getElem?_set_self (by simpa using hi), List.getElem?_map, List.getElem?_range hi]
      simp [fv_int ρ _ c k i h, sI_at, upd]
    · rw [List.getElem?_set_ne (fun z => e z.symm), List.getElem?_map, List.getElem?_map, List.getElem?_range hi]
      simp [fv_sI_ne ρ X c k j v e]
  · rw [List.getElem?_eq_none (by simp; omega), List.getElem?_eq_none (by simp; omega)]
theorem obj_setL (ρ : Nat → Nat) (X : XT) (c k j : Nat) (v : Int64) (h : fk c j = 1) : (List.range (nf c)).map (fv ρ (sL X k j v) c k) = ((List.range (nf c)).map (fv ρ X c k)).set j (.long v) := by
  apply List.ext_getElem?
  intro i
  by_cases hi : i < nf c
  · by_cases e : i = j
    · subst e
      rw [List.getElem?_set_self (by simpa using hi), List.getElem?_map, List.getElem?_range hi]
      simp [fv_long ρ _ c k i h, sL_at, vp_updL]
    · rw [List.getElem?_set_ne (fun z => e z.symm), List.getElem?_map, List.getElem?_map, List.getElem?_range hi]
      simp [fv_sL_ne ρ X c k j v e]
  · rw [List.getElem?_eq_none (by simp; omega), List.getElem?_eq_none (by simp; omega)]
theorem cells_putI (γ : GT) (ρ : Nat → Nat) (X : XT) {k c : Nat} (hk : k < NC) (h : (shp k).1 = c) (hc : c < 5) (j : Nat) (hf : fk c j = 0) (v : Int32) : (cells γ ρ X).set k (ρ k, .inr (c, ((List.range (nf c)).map (fv ρ X c k)).set j (.int v))) = cells γ ρ (sI X k j v) :=
  cells_set γ ρ X _ hk (by rw [cellE_obj γ ρ _ h hc, obj_setI ρ X c k j v hf]) (fun q hq => cellE_sI_ne γ ρ X k j v hq)
theorem cells_putL (γ : GT) (ρ : Nat → Nat) (X : XT) {k c : Nat} (hk : k < NC) (h : (shp k).1 = c) (hc : c < 5) (j : Nat) (hf : fk c j = 1) (v : Int64) : (cells γ ρ X).set k (ρ k, .inr (c, ((List.range (nf c)).map (fv ρ X c k)).set j (.long v))) = cells γ ρ (sL X k j v) :=
  cells_set γ ρ X _ hk (by rw [cellE_obj γ ρ _ h hc, obj_setL ρ X c k j v hf]) (fun q hq => cellE_sL_ne γ ρ X k j v hq)
end HEAP
end
section
/-! The abstract machine: what a stretch of a method's code does to locals, stack and world, as a proposition (a condition to prove, then the rest). -/
section MACH
abbrev KT : Type := Nat → List (Nat × Value) → List Value → XT → Prop
abbrev CT : Type := List Value → XT → (Option Value → XT → Prop) → Prop
/-- a call of the pool: its index, whether static, how many arguments (the receiver among them), the receiver's kind, what it does -/
abbrev CE : Type := Nat × Bool × Nat × Nat × CT
abbrev TE : Type := Instr × Nat × Nat × Nat × Int32 × Int64
def fetch : List (Nat × TE) → Nat → Option TE
  | [], _ => none
  | (q, e) :: r, pc => if q = pc then some e else fetch r pc
theorem fetch_in : ∀ (t : List (Nat × TE)) (pc : Nat) (e : TE), fetch t pc = some e → (pc, e) ∈ t
  | [], _, _, h => by cases h
  | (q, e0) :: r, pc, e, h => by
    unfold fetch at h
    split at h
    next hq => cases h; rw [hq]; exact List.mem_cons_self
    next => exact List.mem_cons_of_mem _ (fetch_in r pc e h)
def lget : List (Nat × Value) → Nat → Option Value
  | [], _ => none
  | (j, u) :: r, i => if j = i then some u else lget r i
theorem lget_in : ∀ (l : List (Nat × Value)) (i : Nat) (v : Value), lget l i = some v → (i, v) ∈ l
  | [], _, _, h => by cases h
  | (j, u) :: r, i, v, h => by
    unfold lget at h
    split at h
    next hq => cases h; rw [hq]; exact List.mem_cons_self
    next => exact List.mem_cons_of_mem _ (lget_in r i v h)
/-- what stays of the locals behind a store into place i (two: of a long) -/
def lrm (i : Nat) (two : Bool) : List (Nat × Value) → List (Nat × Value)
  | [] => []
  | (j, u) :: r => if j = i then lrm i two r else if two = true ∧ j = i + 1 then lrm i two r else if j + 1 = i ∧ u.category = 2 then lrm i two r else (j, u) :: lrm i two r
theorem lrm_in (i : Nat) (two : Bool) : ∀ (l : List (Nat × Value)) (q : Nat × Value), q ∈ lrm i two l → q ∈ l ∧ q.1 ≠ i ∧ (two = true → q.1 ≠ i + 1) ∧ ¬ (q.1 + 1 = i ∧ q.2.category = 2)
  | [], q, h => by cases h
  | (j, u) :: r, q, h => by
    have up : q ∈ lrm i two r → q ∈ (j, u) :: r ∧ q.1 ≠ i ∧ (two = true → q.1 ≠ i + 1) ∧ ¬ (q.1 + 1 = i ∧ q.2.category = 2) := fun z => ⟨List.mem_cons_of_mem _ (lrm_in i two r q z).1, (lrm_in i two r q z).2⟩
    unfold lrm at h
    split at h
    next => exact up h
    next h1 =>
      split at h
      next => exact up h
      next h2 =>
        split at h
        next => exact up h
        next h3 =>
          rcases List.mem_cons.mp h with e | e
          · subst e
            exact ⟨List.mem_cons_self, h1, fun t z => h2 ⟨t, z⟩, h3⟩
          · exact up e
def popA : Nat → List Value → List Value → Option (List Value × List Value)
  | 0, acc, st => some (acc, st)
  | n + 1, acc, v :: st => popA n (v :: acc) st
  | _ + 1, _, [] => none
/-- stack st is the arguments As, the last on top, over r -/
theorem popA_st : ∀ (n : Nat) (acc st As r : List Value), popA n acc st = some (As, r) → As.reverse ++ r = acc.reverse ++ st ∧ As.length = acc.length + n
  | 0, acc, st, As, r, h => by
    unfold popA at h
    cases h
    exact ⟨rfl, rfl⟩
  | n + 1, acc, v :: st, As, r, h => by
    unfold popA at h
    obtain ⟨h1, h2⟩ := popA_st n (v :: acc) st As r h
    refine ⟨by rw [h1]; simp, by rw [h2]; simp; omega⟩
  | n + 1, acc, [], As, r, h => by
    unfold popA at h
    cases h
def catS (st : List Value) : Nat := (st.map fun v => v.category).sum
/-- a boolean -/
def bl (x : Int32) : Prop := x = 0 ∨ x = 1
def xI (o : Option Value) (κ : Int32 → Prop) : Prop := match o with
  | some (.int x) => κ x
  | _ => False
def xL (o : Option Value) (κ : Int64 → Prop) : Prop := match o with
  | some (.long x) => κ x
  | _ => False
def xR (o : Option Value) (κ : Nat → Prop) : Prop := match o with
  | some (.ref x) => κ x
  | _ => False
def s1I (st : List Value) (κ : Int32 → List Value → Prop) : Prop := match st with
  | .int x :: r => κ x r
  | _ => False
def s1L (st : List Value) (κ : Int64 → List Value → Prop) : Prop := match st with
  | .long x :: r => κ x r
  | _ => False
def s1R (st : List Value) (κ : Nat → List Value → Prop) : Prop := match st with
  | .ref x :: r => κ x r
  | _ => False
def s2I (st : List Value) (κ : Int32 → Int32 → List Value → Prop) : Prop := match st with
  | .int y :: .int x :: r => κ x y r
  | _ => False
def s2L (st : List Value) (κ : Int64 → Int64 → List Value → Prop) : Prop := match st with
  | .long y :: .long x :: r => κ x y r
  | _ => False
def sLI (st : List Value) (κ : Int64 → Int32 → List Value → Prop) : Prop := match st with
  | .int y :: .long x :: r => κ x y r
  | _ => False
def sRI (st : List Value) (κ : Nat → Int32 → List Value → Prop) : Prop := match st with
  | .int i :: .ref k :: r => κ k i r
  | _ => False
def sRII (st : List Value) (κ : Nat → Int32 → Int32 → List Value → Prop) : Prop := match st with
  | .int x :: .int i :: .ref k :: r => κ k i x r
  | _ => False
def sRIL (st : List Value) (κ : Nat → Int32 → Int64 → List Value → Prop) : Prop := match st with
  | .long x :: .int i :: .ref k :: r => κ k i x r
  | _ => False
def sRIR (st : List Value) (κ : Nat → Int32 → Nat → List Value → Prop) : Prop := match st with
  | .ref x :: .int i :: .ref k :: r => κ k i x r
  | _ => False
/-- a field's value, and a field's writing (False: not that kind) -/
def fvA (X : XT) (c k j : Nat) : Value := match fk c j with
  | 0 => .int (X.1 k j)
  | 1 => .long (X.2.1 k j)
  | n + 2 => .ref (k + n)
def pfA (X : XT) (c j : Nat) (st : List Value) (κ : List Value → XT → Prop) : Prop := match fk c j, st with
  | 0, .int x :: .ref k :: r => k < NC ∧ (shp k).1 = c ∧ (zf c j = true → bl x) ∧ κ r (sI X k j x)
  | 1, .long x :: .ref k :: r => k < NC ∧ (shp k).1 = c ∧ κ r (sL X k j x)
  | _, _ => False
def tsw (pc : Nat) (d lo hi : Int) (offs : Array Int) (x : Int32) : Nat := if x.toInt < lo ∨ hi < x.toInt then ((pc : Int) + d).toNat else ((pc : Int) + offs.getD (x.toInt - lo).toNat 0).toNat
def recvOk (As : List Value) (c : Nat) : Prop := match As with
  | .ref k :: _ => k < NC ∧ (shp k).1 = c
  | _ => False
def xcall (calls : List CE) (a : Nat) (i : Nat) (sta : Bool) (st : List Value) (X : XT) (κ : List Value → XT → Prop) : Prop := match calls[a]? with
  | some (i', sta', n, c, C) => (i' = i ∧ sta' = sta) ∧ (match popA n [] st with
    | some (As, r) => catS r ≤ 8 ∧ (sta = false → recvOk As c) ∧ C As X (fun v X' => κ (v.toList ++ r) X')
    | none => False)
  | none => False
def retx (rt : Nat) (post : Option Value → XT → Prop) (ins : Instr) (st : List Value) (X : XT) : Prop := match ins, st with
  | .ireturn, [.int x] => (rt = 0 ∨ (rt = 1 ∧ bl x)) ∧ post (some (.int x)) X
  | .lreturn, [.long x] => rt = 2 ∧ post (some (.long x)) X
  | .return_, [] => rt = 3 ∧ post none X
  | _, _ => False
def scrR (sc : Option (Nat → Int32)) (L : Nat) (k : Nat) (i : Int32) (κ : Int32 → Prop) (other : Prop) : Prop := match sc with
  | none => other
  | some xs => if k = 999 then vp_in i L ∧ κ (xs i.toNatClampNeg) else other
def scrN (sc : Option (Nat → Int32)) (L : Nat) (k : Nat) (κ : Int32 → Prop) (other : Prop) : Prop := match sc with
  | none => other
  | some _ => if k = 999 then κ (Int32.ofNat L) else other
def exec (rt : Nat) (calls : List CE) (sc : Option (Nat → Int32)) (L : Nat) (post : Option Value → XT → Prop) (e : TE) (pc : Nat) (lv : List (Nat × Value)) (st : List Value) (X : XT) (κ : KT) : Prop := match e with
  | (ins, len, a, b, k, w) => match ins with
    | .iload _ => xI (lget lv a) fun x => κ (pc + 2) lv (.int x :: st) X
    | .iload_n _ => xI (lget lv a) fun x => κ (pc + 1) lv (.int x :: st) X
    | .lload _ => xL (lget lv a) fun x => κ (pc + 2) lv (.long x :: st) X
    | .lload_n _ => xL (lget lv a) fun x => κ (pc + 1) lv (.long x :: st) X
    | .aload _ => xR (lget lv a) fun x => κ (pc + 2) lv (.ref x :: st) X
    | .aload_n _ => xR (lget lv a) fun x => κ (pc + 1) lv (.ref x :: st) X
    | .istore _ => s1I st fun x r => κ (pc + 2) ((a, .int x) :: lrm a false lv) r X
    | .istore_n _ => s1I st fun x r => κ (pc + 1) ((a, .int x) :: lrm a false lv) r X
    | .lstore _ => s1L st fun x r => κ (pc + 2) ((a, .long x) :: lrm a true lv) r X
    | .lstore_n _ => s1L st fun x r => κ (pc + 1) ((a, .long x) :: lrm a true lv) r X
    | .astore _ => s1R st fun x r => κ (pc + 2) ((a, .ref x) :: lrm a false lv) r X
    | .astore_n _ => s1R st fun x r => κ (pc + 1) ((a, .ref x) :: lrm a false lv) r X
    | .iinc _ _ => xI (lget lv a) fun x => κ (pc + 3) ((a, .int (x + k)) :: lrm a false lv) st X
    | .iconst _ => κ (pc + 1) lv (.int k :: st) X
    | .bipush _ => κ (pc + 2) lv (.int k :: st) X
    | .sipush _ => κ (pc + 3) lv (.int k :: st) X
    | .ldc _ => κ (pc + 2) lv (.int k :: st) X
    | .lconst _ => κ (pc + 1) lv (.long w :: st) X
    | .ldc2_w _ => κ (pc + 3) lv (.long w :: st) X
    | .iadd => s2I st fun x y r => κ (pc + 1) lv (.int (x + y) :: r) X
    | .isub => s2I st fun x y r => κ (pc + 1) lv (.int (x - y) :: r) X
    | .imul => s2I st fun x y r => κ (pc + 1) lv (.int (x * y) :: r) X
    | .iand => s2I st fun x y r => κ (pc + 1) lv (.int (x &&& y) :: r) X
    | .ior => s2I st fun x y r => κ (pc + 1) lv (.int (x ||| y) :: r) X
    | .ishl => s2I st fun x y r => κ (pc + 1) lv (.int (x <<< (y &&& 31)) :: r) X
    | .ishr => s2I st fun x y r => κ (pc + 1) lv (.int (x >>> (y &&& 31)) :: r) X
    | .iushr => s2I st fun x y r => κ (pc + 1) lv (.int (x.toUInt32 >>> (y.toUInt32 &&& Int32.toUInt32 31)).toInt32 :: r) X
    | .idiv => s2I st fun x y r => ¬ y = 0 ∧ κ (pc + 1) lv (.int (x / y) :: r) X
    | .irem => s2I st fun x y r => ¬ y = 0 ∧ κ (pc + 1) lv (.int (x - x / y * y) :: r) X
    | .ladd => s2L st fun x y r => κ (pc + 1) lv (.long (x + y) :: r) X
    | .lsub => s2L st fun x y r => κ (pc + 1) lv (.long (x - y) :: r) X
    | .lmul => s2L st fun x y r => κ (pc + 1) lv (.long (x * y) :: r) X
    | .land => s2L st fun x y r => κ (pc + 1) lv (.long (x &&& y) :: r) X
    | .lor => s2L st fun x y r => κ (pc + 1) lv (.long (x ||| y) :: r) X
    | .ldiv => s2L st fun x y r => ¬ y = 0 ∧ κ (pc + 1) lv (.long (x / y) :: r) X
    | .lcmp => s2L st fun x y r => κ (pc + 1) lv (.int (lg_cmp x y) :: r) X
    | .lshl => sLI st fun x y r => κ (pc + 1) lv (.long (x <<< (y.toInt64 &&& 63)) :: r) X
    | .lushr => sLI st fun x y r => κ (pc + 1) lv (.long (x.toUInt64 >>> (y.toInt64.toUInt64 &&& Int64.toUInt64 63)).toInt64 :: r) X
    | .i2l => s1I st fun x r => κ (pc + 1) lv (.long x.toInt64 :: r) X
    | .l2i => s1L st fun x r => κ (pc + 1) lv (.int x.toInt32 :: r) X
    | .dup => (match st with
      | v :: r => v.category = 1 ∧ κ (pc + 1) lv (v :: v :: r) X
      | _ => False)
    | .dup2 => (match st with
      | v :: u :: r => (v.category = 1 ∧ u.category = 1) ∧ κ (pc + 1) lv (v :: u :: v :: u :: r) X
      | _ => False)
    | .pop => (match st with
      | v :: r => v.category = 1 ∧ κ (pc + 1) lv r X
      | _ => False)
    | .ifCond .eq _ => s1I st fun x r => (x = 0 → κ a lv r X) ∧ (¬ x = 0 → κ (pc + 3) lv r X)
    | .ifCond .ne _ => s1I st fun x r => (¬ x = 0 → κ a lv r X) ∧ (x = 0 → κ (pc + 3) lv r X)
    | .ifCond .lt _ => s1I st fun x r => (x < 0 → κ a lv r X) ∧ (¬ x < 0 → κ (pc + 3) lv r X)
    | .ifCond .ge _ => s1I st fun x r => (0 ≤ x → κ a lv r X) ∧ (¬ 0 ≤ x → κ (pc + 3) lv r X)
    | .ifCond .gt _ => s1I st fun x r => (0 < x → κ a lv r X) ∧ (¬ 0 < x → κ (pc + 3) lv r X)
    | .ifCond .le _ => s1I st fun x r => (x ≤ 0 → κ a lv r X) ∧ (¬ x ≤ 0 → κ (pc + 3) lv r X)
    | .if_icmp .eq _ => s2I st fun x y r => (x = y → κ a lv r X) ∧ (¬ x = y → κ (pc + 3) lv r X)
    | .if_icmp .ne _ => s2I st fun x y r => (¬ x = y → κ a lv r X) ∧ (x = y → κ (pc + 3) lv r X)
    | .if_icmp .lt _ => s2I st fun x y r => (x < y → κ a lv r X) ∧ (¬ x < y → κ (pc + 3) lv r X)
    | .if_icmp .ge _ => s2I st fun x y r => (y ≤ x → κ a lv r X) ∧ (¬ y ≤ x → κ (pc + 3) lv r X)
    | .if_icmp .gt _ => s2I st fun x y r => (y < x → κ a lv r X) ∧ (¬ y < x → κ (pc + 3) lv r X)
    | .if_icmp .le _ => s2I st fun x y r => (x ≤ y → κ a lv r X) ∧ (¬ x ≤ y → κ (pc + 3) lv r X)
    | .goto _ => κ a lv st X
    | .tableswitch d lo hi offs => s1I st fun x r => κ (tsw pc d lo hi offs x) lv r X
    | .getfield _ => s1R st fun q r => (q < NC ∧ (shp q).1 = a) ∧ κ (pc + 3) lv (fvA X a q b :: r) X
    | .putfield _ => pfA X a b st fun r X' => κ (pc + 3) lv r X'
    | .iaload => sRI st fun q i r => scrR sc L q i (fun x => κ (pc + 1) lv (.int x :: r) X) ((q < NC ∧ (shp q).1 = 5 ∧ vp_in i (shp q).2) ∧ κ (pc + 1) lv (.int (X.1 q i.toNatClampNeg) :: r) X)
    | .baload => sRI st fun q i r => (q < NC ∧ (shp q).1 = 7 ∧ vp_in i (shp q).2) ∧ κ (pc + 1) lv (.int (X.1 q i.toNatClampNeg) :: r) X
    | .laload => sRI st fun q i r => (q < NC ∧ (shp q).1 = 6 ∧ vp_in i (shp q).2) ∧ κ (pc + 1) lv (.long (X.2.1 q i.toNatClampNeg) :: r) X
    | .aaload => sRI st fun q i r => (q < NC ∧ (shp q).1 = 8 ∧ vp_in i (shp q).2) ∧ κ (pc + 1) lv (.ref (X.2.2 i.toNatClampNeg) :: r) X
    | .iastore => sRII st fun q i x r => (q < NC ∧ (shp q).1 = 5 ∧ vp_in i (shp q).2) ∧ κ (pc + 1) lv r (sI X q i.toNatClampNeg x)
    | .bastore => sRII st fun q i x r => (q < NC ∧ (shp q).1 = 7 ∧ vp_in i (shp q).2 ∧ bl x) ∧ κ (pc + 1) lv r (sI X q i.toNatClampNeg x)
    | .lastore => sRIL st fun q i x r => (q < NC ∧ (shp q).1 = 6 ∧ vp_in i (shp q).2) ∧ κ (pc + 1) lv r (sL X q i.toNatClampNeg x)
    | .aastore => sRIR st fun q i x r => (q < NC ∧ (shp q).1 = 8 ∧ vp_in i (shp q).2 ∧ x < NC ∧ (shp x).1 = 0) ∧ κ (pc + 1) lv r (sR X i.toNatClampNeg x)
    | .arraylength => s1R st fun q r => scrN sc L q (fun x => κ (pc + 1) lv (.int x :: r) X) ((q < NC ∧ 5 ≤ (shp q).1 ∧ (shp q).1 ≤ 8) ∧ κ (pc + 1) lv (.int (nI (shp q).2) :: r) X)
    | .invokevirtual i => xcall calls a i false st X fun r X' => κ (pc + 3) lv r X'
    | .invokestatic i => xcall calls a i true st X fun r X' => κ (pc + 3) lv r X'
    | i => retx rt post i st X
/-- what a row of a method's table must be -/
def eOk (cc : ByteArray) (q : Nat × TE) : Bool := decide (decode cc q.1 = .ok (q.2.1, q.2.2.1)) && (match q with
  | (pc, ins, len, a, b, k, w) => match ins with
    | .iload i => i == a && len == 2
    | .lload i => i == a && len == 2
    | .aload i => i == a && len == 2
    | .istore i => i == a && len == 2
    | .lstore i => i == a && len == 2
    | .astore i => i == a && len == 2
    | .iload_n i => i.val == a && len == 1
    | .lload_n i => i.val == a && len == 1
    | .aload_n i => i.val == a && len == 1
    | .istore_n i => i.val == a && len == 1
    | .lstore_n i => i.val == a && len == 1
    | .astore_n i => i.val == a && len == 1
    | .iinc i n => i == a && Int32.ofInt n == k && len == 3
    | .iconst n => Int32.ofInt n == k && len == 1
    | .bipush n => (Int8.ofInt n).toInt32 == k && len == 2
    | .sipush n => (Int16.ofInt n).toInt32 == k && len == 3
    | .ldc _ => len == 2
    | .lconst n => Int64.ofNat n.val == w && len == 1
    | .ldc2_w _ => len == 3
    | .ifCond _ o => (pc : Int) + o == (a : Int) && len == 3
    | .if_icmp _ o => (pc : Int) + o == (a : Int) && len == 3
    | .goto o => (pc : Int) + o == (a : Int) && len == 3
    | .tableswitch d lo hi offs => decide (0 ≤ (pc : Int) + d) && offs.toList.all (fun o => decide (0 ≤ (pc : Int) + o)) && decide (hi - lo < offs.size)
    | .getfield _ => len == 3
    | .putfield _ => len == 3
    | .invokevirtual _ => len == 3
    | .invokestatic _ => len == 3
    | _ => len == 1)
def nwF : List (String × Nat × String × String × String × String) := [("RumourSource", 102, "RumourSource$Scene", "seen", "[I", "RumourSource"), ("RumourSource", 105, "RumourSource$Scene", "sensors", "I", "RumourSource"), ("RumourSource", 119, "RumourSource$Spread", "times", "[I", "RumourSource"), ("RumourSource", 147, "RumourSource$Spread", "total", "J", "RumourSource"), ("RumourSource", 154, "RumourSource$Spread", "totalHeard", "J", "RumourSource"), ("RumourSource", 172, "RumourSource$Spread", "bestOutcome", "I", "RumourSource"), ("RumourSource", 179, "RumourSource$Spread", "met", "[J", "RumourSource"), ("RumourSource", 191, "RumourSource$Text", "size", "I", "RumourSource"), ("RumourSource", 194, "RumourSource$Text", "bytes", "[I", "RumourSource"), ("RumourSource", 201, "RumourSource$Text", "draft", "LRumourSource$Scene;", "RumourSource"), ("RumourSource", 70, "RumourSource$Scene", "trust", "[I", "RumourSource"), ("RumourSource", 74, "RumourSource$Scene", "delay", "[I", "RumourSource"), ("RumourSource", 81, "RumourSource$Scene", "count", "I", "RumourSource"), ("RumourSource", 84, "RumourSource$Scene", "from", "[I", "RumourSource"), ("RumourSource", 87, "RumourSource$Scene", "to", "[I", "RumourSource"), ("RumourSource", 93, "RumourSource$Scene", "horizon", "I", "RumourSource"), ("RumourSource$Spread", 47, "RumourSource$Scene", "seen", "[I", "RumourSource"), ("RumourSource$Spread", 56, "RumourSource$Scene", "count", "I", "RumourSource"), ("RumourSource$Spread", 59, "RumourSource$Scene", "to", "[I", "RumourSource"), ("RumourSource$Spread", 66, "RumourSource$Scene", "from", "[I", "RumourSource"), ("RumourSource$Spread", 69, "RumourSource$Scene", "delay", "[I", "RumourSource"), ("RumourSource$Spread", 72, "RumourSource$Scene", "horizon", "I", "RumourSource"), ("RumourSource$Spread", 89, "RumourSource$Scene", "trust", "[I", "RumourSource"), ("RumourSource$Text", 77, "RumourSource$Scene", "seen", "[I", "RumourSource")]
def nwM : List (String × Nat × MethodName × String) := [("RumourSource", 11, ⟨"RumourSource$Scene", "<init>", "()V"⟩, "RumourSource"), ("RumourSource", 115, ⟨"RumourSource$Spread", "follow", "(LRumourSource$Scene;II)V"⟩, "RumourSource"), ("RumourSource", 130, ⟨"RumourSource$Spread", "wantAsSeen", "(LRumourSource$Scene;)V"⟩, "RumourSource"), ("RumourSource", 134, ⟨"RumourSource$Spread", "isAsWanted", "()Z"⟩, "RumourSource"), ("RumourSource", 139, ⟨"RumourSource$Spread", "wantOnly", "(II)V"⟩, "RumourSource"), ("RumourSource", 143, ⟨"RumourSource$Spread", "search", "(LRumourSource$Scene;IZ)V"⟩, "RumourSource"), ("RumourSource", 151, ⟨"RumourSource$Spread", "wantNothing", "()V"⟩, "RumourSource"), ("RumourSource", 188, ⟨"RumourSource$Scene", "copyFrom", "(LRumourSource$Scene;)V"⟩, "RumourSource"), ("RumourSource", 197, ⟨"RumourSource$Text", "read", "(LRumourSource$Scene;)I"⟩, "RumourSource"), ("RumourSource", 22, ⟨"RumourSource$Spread", "<init>", "()V"⟩, "RumourSource"), ("RumourSource", 29, ⟨"RumourSource$Text", "<init>", "()V"⟩, "RumourSource"), ("RumourSource", 52, ⟨"RumourSource$Scene", "find", "(II)I"⟩, "RumourSource"), ("RumourSource", 56, ⟨"RumourSource$Scene", "isFull", "()Z"⟩, "RumourSource"), ("RumourSource", 63, ⟨"RumourSource$Scene", "put", "(IIII)I"⟩, "RumourSource"), ("RumourSource", 67, ⟨"RumourSource$Scene", "hasEdge", "(I)Z"⟩, "RumourSource"), ("RumourSource", 77, ⟨"RumourSource$Scene", "drop", "(I)V"⟩, "RumourSource"), ("RumourSource$Scene", 45, ⟨"RumourSource", "isNode", "(I)Z"⟩, "RumourSource"), ("RumourSource$Spread", 43, ⟨"RumourSource", "isNode", "(I)Z"⟩, "RumourSource"), ("RumourSource$Text", 21, ⟨"RumourSource$Scene", "<init>", "()V"⟩, "RumourSource"), ("RumourSource$Text", 32, ⟨"RumourSource$Scene", "copyFrom", "(LRumourSource$Scene;)V"⟩, "RumourSource"), ("RumourSource$Text", 63, ⟨"RumourSource$Scene", "isFull", "()Z"⟩, "RumourSource"), ("RumourSource$Text", 66, ⟨"RumourSource$Scene", "find", "(II)I"⟩, "RumourSource"), ("RumourSource$Text", 73, ⟨"RumourSource$Scene", "put", "(IIII)I"⟩, "RumourSource"), ("RumourSource$Text", 80, ⟨"RumourSource", "isNode", "(I)Z"⟩, "RumourSource")]
/-- the words that any of our methods may hold -/
def inB (w : Cond) : Bool := decide (w ∈ lw_tbl) && goodWord w
def BW : List Cond := lw_tbl.filter goodWord
theorem inB_BW {w : Cond} (h : inB w = true) : w ∈ BW := by
  unfold inB at h
  simp only [Bool.and_eq_true, decide_eq_true_eq] at h
  exact List.mem_filter.mpr h
def fldB (own : String) (i c j : Nat) : Bool := match vwCl[c]? with
  | some (_, T, N) => decide (j < N) && (inB (.fieldLink own i (T j).1 (T j).2.1 (T j).2.2.1) || nwF.contains (own, i, (T j).1, (T j).2.1, (T j).2.2.1, "RumourSource"))
  | none => false
def lOk (own : String) (q : Nat × TE) : Bool := match q with
  | (_, ins, _, a, b, k, w) => match ins with
    | .getfield i => fldB own i a b
    | .putfield i => fldB own i a b
    | .ldc i => inB (.constant own i k)
    | .ldc2_w i => inB (.constantLong own i w)
    | _ => true
def nOk (nL : Nat) (q : Nat × TE) : Bool := match q with
  | (_, ins, _, a, _) => match ins with
    | .istore _ => decide (a < nL)
    | .istore_n _ => decide (a < nL)
    | .astore _ => decide (a < nL)
    | .astore_n _ => decide (a < nL)
    | .lstore _ => decide (a + 1 < nL)
    | .lstore_n _ => decide (a + 1 < nL)
    | .iinc _ _ => decide (a < nL)
    | _ => true
def tOk (cc : ByteArray) (own : String) (nL : Nat) (t : List (Nat × TE)) : Bool := t.all (fun q => (eOk cc q && lOk own q) && nOk nL q)
theorem u_inB0 : wsX00.all inB = true := by decide +kernel
theorem u_inB1 : wsX10.all inB = true := by decide +kernel
theorem u_inB2 : wsX20.all inB = true := by decide +kernel
theorem u_inB3 : wsX30.all inB = true := by decide +kernel
theorem u_inB4 : wsX40.all inB = true := by decide +kernel
/-- the field table of the classes -/
def tyG (c : Nat) : Nat → FieldType := [tyX0, tyX1, tyX2, tyX3, tyX4].getD c tyX0
theorem cl_facts : ∀ (c : Nat) (q : vw_C), vwCl[c]? = some q → (∀ w ∈ u_ws q.1 q.2.1 q.2.2, w ∈ BW) ∧ (∀ k, k < q.2.2 → parseFieldDescriptor (q.2.1 k).2.2.1 = some (tyG c k)) ∧ (∀ a, a < q.2.2 → ∀ b, b < q.2.2 → a ≠ b → (q.2.1 a).2.1 ≠ (q.2.1 b).2.1) ∧ q.2.2 = nf c ∧ c < 5 := by
  intro c q h
  match c, h with
  | 0, h => cases h; exact ⟨fun w hw => inB_BW (List.all_eq_true.mp u_inB0 w hw), tyX0_ok, nmX0, rfl, by decide⟩
  | 1, h => cases h; exact ⟨fun w hw => inB_BW (List.all_eq_true.mp u_inB1 w hw), tyX1_ok, nmX1, rfl, by decide⟩
  | 2, h => cases h; exact ⟨fun w hw => inB_BW (List.all_eq_true.mp u_inB2 w hw), tyX2_ok, nmX2, rfl, by decide⟩
  | 3, h => cases h; exact ⟨fun w hw => inB_BW (List.all_eq_true.mp u_inB3 w hw), tyX3_ok, nmX3, rfl, by decide⟩
  | 4, h => cases h; exact ⟨fun w hw => inB_BW (List.all_eq_true.mp u_inB4 w hw), tyX4_ok, nmX4, rfl, by decide⟩
  | c + 5, h => simp [vwCl] at h
/-- which kind of number a field holds, by the class file's own word -/
def fkd (c j : Nat) : Bool := match vwCl[c]? with
  | some (_, T, N) => if j < N then (if fk c j = 0 then !(T j).2.2.2 && (T j).2.2.1 == (if zf c j then "Z" else "I") else if fk c j = 1 then !(T j).2.2.2 && (T j).2.2.1 == "J" else true) else true
  | none => true
theorem fkd_ok : (List.range 5).all (fun c => (List.range 12).all (fun j => fkd c j)) = true := by decide +kernel
def NL (U : State) : Prop := (∀ q ∈ nwF, va_Nw (.fieldLinkNest q.1 q.2.1 q.2.2.1 q.2.2.2.1 q.2.2.2.2.1 q.2.2.2.2.2) U) ∧ ∀ q ∈ nwM, va_Nw (.methodLinkNest q.1 q.2.1 q.2.2.1 q.2.2.2) U
theorem NL.warm {s U : State} (hW : s.WarmedH U.vm) (h : NL s) : NL U := ⟨fun q hq => va_Nw.warmF hW (h.1 q hq), fun q hq => va_Nw.warmM hW (h.2 q hq)⟩
theorem NL.same {u U : State} (hv : u.vm = U.vm) (h : NL u) : NL U := ⟨fun q hq => va_Nw.same rfl hv (h.1 q hq), fun q hq => va_Nw.same rfl hv (h.2 q hq)⟩
/-- a method's words, its start and its end -/
def wY (y : MethodName) (cc : ByteArray) (maxL : Nat) (ret : Option FieldType) : List Cond := Cond.code y cc maxL ret :: BW
def Hd (γ : GT) (ρ : Nat → Nat) (X : XT) (U : State) : Prop := va_P γ.1 vwCl (cells γ ρ X) U.heap ∧ va_K γ.1 vwCl (tysG γ) U ∧ NL U
def Ar (ρ : Nat → Nat) : Nat → Prop := fun q => ∃ k, k < NC ∧ q = ρ k
def QX (γ : GT) (ρ : Nat → Nat) (post : Option Value → XT → Prop) : Array Value → State → Outcome → State → Prop := fun _ st oc t => (∃ (v : Option Value) (X' : XT), oc = .returned (v.map (cv ρ)) ∧ post v X' ∧ va_P γ.1 vwCl (cells γ ρ X') t.heap) ∧ va_F (Ar ρ) st t
def MX (l : Launch) (γ : GT) (ρ : Nat → Nat) (y : MethodName) (ws : List Cond) (rm : Room) (As : List Value) (X : XT) (post : Option Value → XT → Prop) : Prop :=
  Met l y ws rm (va_Pc (As.map (cv ρ)) (Hd γ ρ X)) (QX γ ρ post) 0 0 (Ar ρ)
/-- method y does C -/
def Does (l : Launch) (y : MethodName) (ws : List Cond) (rm : Room) (C : CT) : Prop := ∀ (γ : GT) (ρ : Nat → Nat) (As : List Value) (X : XT) (post : Option Value → XT → Prop), dA (Ar ρ) ρ → C As X post → MX l γ ρ y ws rm As X post
theorem Hd.blind (γ : GT) (ρ : Nat → Nat) (X : XT) (vs : List Value) : FrameBlind (va_Pc vs (Hd γ ρ X)) := by
  intro a U g mk q
  obtain ⟨q0, qP, qK, qN⟩ := q
  exact ⟨q0, qP, va_K.moved (u := U) (U := U.calling g mk a) (Vm.Alike.refl U.vm) qK, NL.same (u := U) (U := U.calling g mk a) rfl qN⟩
theorem Hd.of {γ : GT} {ρ : Nat → Nat} {X : XT} {s U : State} {H : Heap} (hP : va_P γ.1 vwCl (cells γ ρ X) H) (hK : va_K γ.1 vwCl (tysG γ) s) (hN : NL s) (hU : U.heap = H) (hW : s.WarmedH U.vm) : Hd γ ρ X U := ⟨by rw [hU]; exact hP, va_K.moved hW.alike hK, hN.warm hW⟩
end MACH
end
section
/-! The abstract machine is right about the machine. -/
section SOUND
def RX (p : Program) (l : Launch) (e : Env) (R : Room) (s : State) (m : MethodId) (args : Array Value) (below : List Frame) (meth : Method) (c : Code) (γ : GT) (ρ : Nat → Nat) (A : Nat → Prop) (nL kc ks : Nat) (Q : State → Prop) : KT := fun pc lv st X =>
  ∀ (H : Heap) (locs : List Loc) (ls : Array Slot), va_P γ.1 vwCl (cells γ ρ X) H → va_S A s.heap H locs → lv_has ls nL (lv.map fun q => (q.1, cv ρ q.2)) → W p l e R s m args below meth c H locs kc ks Q (F0 m pc ls (st.map (cv ρ)))
def CallRule (l : Launch) (own : String) (cc : ByteArray) (ws : List Cond) (nL : Nat) (R : Room) (q : CE) : Prop :=
  ∀ (p : Program) (e : Env) (s : State) (m : MethodId) (args : Array Value) (below : List Frame) (meth : Method) (c : Code) (γ : GT) (ρ : Nat → Nat) (A : Nat → Prop) (kc ks : Nat) (Q : State → Prop), CallFix p m c cc nL s args ws own → va_K γ.1 vwCl (tysG γ) s → NL s → dA A ρ → kc ≤ R.cells ∧ ks ≤ R.slots →
  ∀ (pc : Nat) (As rest : List Value) (X : XT) (K : Option Value → XT → Prop), As.length = q.2.2.1 → (q.2.1 = false → recvOk As q.2.2.2.1) → q.2.2.2.2 As X K → catS rest ≤ 8 → decode cc pc = .ok (if q.2.1 then Instr.invokestatic q.1 else Instr.invokevirtual q.1, 3) →
  ∀ (H : Heap) (locs : List Loc) (ls : Array Slot), va_P γ.1 vwCl (cells γ ρ X) H → va_S A s.heap H locs → ls.size = nL →
  (∀ (v : Option Value) (X' : XT) (H1 : Heap) (locs1 : List Loc), K v X' → va_P γ.1 vwCl (cells γ ρ X') H1 → va_S A s.heap H1 locs1 → W p l e R s m args below meth c H1 locs1 kc ks Q (F0 m (pc + 3) ls ((v.toList ++ rest).map (cv ρ)))) →
  W p l e R s m args below meth c H locs kc ks Q (F0 m pc ls ((As.reverse ++ rest).map (cv ρ)))
section CALLS
variable {p : Program} {l : Launch} {e : Env} {R : Room} {s : State} {m : MethodId} {args : Array Value} {below : List Frame} {meth : Method} {c : Code} {H : Heap} {locs : List Loc} {cells0 slots0 : Nat} {Q : State → Prop} {γ : GT} {ρ : Nat → Nat} {A : Nat → Prop} {ls : Array Slot} {pc : Nat} {st0 rest : List Value} {K : Option Value → XT → Prop} {a : Array Value}
theorem xrun (hr : va_Run p l e R s m args below meth c H locs cells0 slots0 0 0 (F0 m pc ls st0) rest (QX γ ρ K a) (Ar ρ)) (hS : va_S A s.heap H locs) (hA : ∀ q, Ar ρ q → A q)
    (kk : ∀ (v : Option Value) (X' : XT) (H1 : Heap) (locs1 : List Loc), K v X' → va_P γ.1 vwCl (cells γ ρ X') H1 → va_S A s.heap H1 locs1 → W p l e R s m args below meth c H1 locs1 cells0 slots0 Q (F0 m (pc + 3) ls ((v.map (cv ρ)).toList ++ rest))) : W p l e R s m args below meth c H locs cells0 slots0 Q (F0 m pc ls st0) := by
  intro T hT X
  obtain ⟨v, st₀, t, T', L, h0, X', hL, e1, e2, ⟨⟨r, u, hv, hp, hb⟩, hz, hk⟩, st⟩ := hr T hT X
  cases hv
  rw [h0] at hz hk
  obtain ⟨t2, a1, b1⟩ := kk r u T'.heap (locs ++ L) hp (by rw [e1]; exact hb)
    ⟨Nat.le_trans hS.1 (by rw [e1]; exact hz), fun q h1 h2 => by rw [e1, hk q (Nat.lt_of_lt_of_le h1 hS.1) (fun z => h2 (hA q z))]; exact hS.2.1 q h1 h2, fun q hq => by
      rcases List.mem_append.mp hq with h | h
      · exact hS.2.2 q h
      · exact hA _ (hL q h)⟩ T' rfl X'
  exact ⟨t2, st t2 a1, b1⟩
end CALLS
theorem Ar_A {A : Nat → Prop} {ρ : Nat → Nat} (h : dA A ρ) : ∀ q, Ar ρ q → A q := by
  rintro q ⟨k, hk, rfl⟩
  exact h.2 k hk
theorem dA_Ar {A : Nat → Prop} {ρ : Nat → Nat} (h : dA A ρ) : dA (Ar ρ) ρ := ⟨h.1, fun i hi => ⟨i, hi, rfl⟩⟩
theorem BW_good {w : Cond} (h : w ∈ BW) : goodWord w = true := (List.mem_filter.mp h).2
theorem goodBW {y0 : MethodName} {cc0 : ByteArray} {m0 : Nat} {r0 : Option FieldType} {ws : List Cond} (h : ∀ w ∈ ws, w ∈ BW) : GoodIn (wY y0 cc0 m0 r0) ws := fun w hw => ⟨List.mem_cons_of_mem _ (h w hw), good_of_word (BW_good (h w hw))⟩
theorem wY_BW {y : MethodName} {cc : ByteArray} {maxL : Nat} {ret : Option FieldType} (h : inB (.code y cc maxL ret) = true) : ∀ w ∈ wY y cc maxL ret, w ∈ BW := by
  intro w hw
  rcases List.mem_cons.mp hw with e | e
  · rw [e]; exact inB_BW h
  · exact e
theorem toL_map (ρ : Nat → Nat) (v : Option Value) (rest : List Value) : (v.map (cv ρ)).toList ++ rest.map (cv ρ) = (v.toList ++ rest).map (cv ρ) := by cases v <;> rfl
theorem catS_cv (ρ : Nat → Nat) (st : List Value) : ((st.map (cv ρ)).map fun v => v.category).sum = catS st := by
  unfold catS
  rw [List.map_map]
  congr 1
  exact List.map_congr_left (fun v _ => cv_cat ρ v)
/-- the checks of a call that are the same for all kinds -/
def cB (y : MethodName) (cc : ByteArray) (maxL : Nat) (ret : Option FieldType) (n : Nat) : Bool := inB (.code y cc maxL ret) && inB (.initialized y.cls) && y.cls != "java/lang/invoke/MethodHandle" && y.cls != "java/lang/invoke/VarHandle" && (parseMethodDescriptor y.desc).map (fun d => d.parameters.length) == some n
theorem cB_spec {y : MethodName} {cc : ByteArray} {maxL : Nat} {ret : Option FieldType} {n : Nat} (h : cB y cc maxL ret n = true) : inB (.code y cc maxL ret) = true ∧ inB (.initialized y.cls) = true ∧ (y.cls ≠ "java/lang/invoke/MethodHandle" ∧ y.cls ≠ "java/lang/invoke/VarHandle" ∧ (parseMethodDescriptor y.desc).map (fun d => d.parameters.length) = some n) := by
  unfold cB at h
  simp only [Bool.and_eq_true, bne_iff_ne, ne_eq, beq_iff_eq] at h
  exact ⟨h.1.1.1.1, h.1.1.1.2, h.1.1.2, h.1.2, h.2⟩
section CR
variable {l : Launch} {own : String} {cc bytes : ByteArray} {nL maxL maxL0 n idx ci : Nat} {R rm : Room} {y y0 : MethodName} {ret ret0 : Option FieldType} {C : CT} {T : u_T} {N : Nat}
theorem cr_S (hD : Does l y (wY y bytes maxL ret) rm C) (hb : cB y bytes maxL ret n = true) (hw : (inB (.methodLink own idx y) && inB (.static y)) = true) (hr : rm.cells = 0 ∧ rm.slots = 0) (hR : rm.frames + 1 ≤ R.frames ∧ 8 + (maxL + 11) + rm.locals ≤ R.locals) : CallRule l own cc (wY y0 cc maxL0 ret0) nL R (idx, true, n, ci, C) := by
  intro p e s m args below meth c γ ρ A kc ks Q hfix hK hN hρ hcap pc As rest X K hn hrec hC hcat hdg H locs ls hP hS hsz kk
  obtain ⟨b1, b2, b3⟩ := cB_spec hb
  simp only [Bool.and_eq_true] at hw
  have hT : GoodIn (wY y0 cc maxL0 ret0) (va_wsS own idx y (wY y bytes maxL ret)) := goodBW (fun w h => by
    rcases List.mem_append.mp h with h | h
    · rcases List.mem_cons.mp h with h | h
      · rw [h]; exact inB_BW hw.1
      · rcases List.mem_cons.mp h with h | h
        · rw [h]; exact inB_BW hw.2
        · rw [List.mem_singleton.mp h]; exact inB_BW b2
    · exact wY_BW b1 w h)
  have hrun := va_runS (As := As.map (cv ρ)) (rest := rest.map (cv ρ)) (H := H) (locs := locs) (cells := kc) (slots := ks) (g := F0 m pc ls ((As.reverse ++ rest).map (cv ρ))) (below := below) (meth := meth) (e := e) hfix (hD γ ρ As X K (dA_Ar hρ) hC) (va_cwS n hfix.2.2.2.2 hT rfl hr.1 hr.2 b3 hR) ⟨Hd.blind γ ρ X _, fun U hU hW => ⟨rfl, Hd.of hP hK hN hU hW⟩⟩ rfl (by rw [List.length_map]; exact hn) hsz (by rw [List.map_append, List.map_reverse]) (lv_room (rest := []) (m := m) (pc := pc) (ls := ls) (by rw [catS_cv]; exact hcat)) hdg ⟨hcap.1, hcap.2⟩
  refine xrun hrun hS (Ar_A hρ) (fun v X' H1 locs1 h1 h2 h3 => ?_)
  rw [toL_map]
  exact kk v X' H1 locs1 h1 h2 h3
theorem zRecv {As : List Value} {c : Nat} (h : recvOk As c) : ∃ b As', As = .ref b :: As' ∧ b < NC ∧ (shp b).1 = c := by
  unfold recvOk at h
  split at h
  next k r => exact ⟨k, r, rfl, h.1, h.2⟩
  next => exact h.elim
theorem cr_V (hD : Does l y (wY y bytes maxL ret) rm C) (hcl : vwCl[ci]? = some (y.cls, T, N)) (hb : cB y bytes maxL ret n = true) (hw : (inB (.methodLink own idx y) && inB (.instanceMethod y) && inB (.selects y.cls y y)) = true) (hr : rm.cells = 0 ∧ rm.slots = 0) (hR : rm.frames + 1 ≤ R.frames ∧ 8 + (maxL + 11) + rm.locals ≤ R.locals) : CallRule l own cc (wY y0 cc maxL0 ret0) nL R (idx, false, n + 1, ci, C) := by
  intro p e s m args below meth c γ ρ A kc ks Q hfix hK hN hρ hcap pc As rest X K hn hrec hC hcat hdg H locs ls hP hS hsz kk
  obtain ⟨b, As', rfl, hb1, hb2⟩ := zRecv (hrec rfl)
  obtain ⟨b1, b2, b3⟩ := cB_spec hb
  simp only [Bool.and_eq_true] at hw
  have hT : GoodIn (wY y0 cc maxL0 ret0) (wsV own idx y.cls y (wY y bytes maxL ret)) := goodBW (fun w h => by
    rcases List.mem_append.mp h with h | h
    · rcases List.mem_cons.mp h with h | h
      · rw [h]; exact inB_BW hw.1.1
      · rcases List.mem_cons.mp h with h | h
        · rw [h]; exact inB_BW hw.1.2
        · rcases List.mem_cons.mp h with h | h
          · rw [h]; exact inB_BW hw.2
          · rw [List.mem_singleton.mp h]; exact inB_BW b2
    · exact wY_BW b1 w h)
  have hc5 : ci < 5 := (cl_facts ci _ hcl).2.2.2.2
  have hrun := va_runV (As := As'.map (cv ρ)) (b := ρ b) (rest := rest.map (cv ρ)) (H := H) (locs := locs) (cells := kc) (slots := ks) (g := F0 m pc ls ((List.reverse (.ref b :: As') ++ rest).map (cv ρ))) (below := below) (meth := meth) (e := e) hfix (hD γ ρ _ X K (dA_Ar hρ) hC) (cwV n hfix.2.2.2.2 hT rfl hr.1 hr.2 ⟨rfl, b3⟩ hR) ⟨Hd.blind γ ρ X _, va_recv hK hP (ci := ci) (q0 := b) hcl ((cells_at γ ρ X hb1).trans (by rw [cellE_obj γ ρ X hb2 hc5])), fun U hU hW => ⟨rfl, Hd.of hP hK hN hU hW⟩⟩ rfl (by rw [List.length_map]; exact Nat.succ.inj hn) hsz (by simp [cv]) (lv_room (rest := []) (m := m) (pc := pc) (ls := ls) (by rw [catS_cv]; exact hcat)) hdg ⟨hcap.1, hcap.2⟩
  refine xrun hrun hS (Ar_A hρ) (fun v X' H1 locs1 h1 h2 h3 => ?_)
  rw [toL_map]
  exact kk v X' H1 locs1 h1 h2 h3
theorem cr_NS (hD : Does l y (wY y bytes maxL ret) rm C) (hb : cB y bytes maxL ret n = true) (hw : inB (.static y) = true) (hnl : (own, idx, y, "RumourSource") ∈ nwM) (hr : rm.cells = 0 ∧ rm.slots = 0) (hR : rm.frames + 1 ≤ R.frames ∧ 8 + (maxL + 11) + rm.locals ≤ R.locals) : CallRule l own cc (wY y0 cc maxL0 ret0) nL R (idx, true, n, ci, C) := by
  intro p e s m args below meth c γ ρ A kc ks Q hfix hK hN hρ hcap pc As rest X K hn hrec hC hcat hdg H locs ls hP hS hsz kk
  obtain ⟨b1, b2, b3⟩ := cB_spec hb
  have hG : GoodIn (wY y0 cc maxL0 ret0) (wY y bytes maxL ret) := goodBW (wY_BW b1)
  have ht : ∀ w, inB w = true → w.before args s = true := fun w h => hfix.2.2.2.2 w (List.mem_cons_of_mem _ (inB_BW h))
  have hrun := va_runSN (As := As.map (cv ρ)) (rest := rest.map (cv ρ)) (H := H) (locs := locs) (cells := kc) (slots := ks) (g := F0 m pc ls ((As.reverse ++ rest).map (cv ρ))) (below := below) (meth := meth) (e := e) (host := "RumourSource") hfix (hD γ ρ As X K (dA_Ar hρ) hC) ⟨va_cnB n hfix.2.2.2.2 hG rfl hr.1 hr.2 (hN.2 _ hnl) (ht _ b2) b3 hR, ht _ hw, trivial⟩ ⟨Hd.blind γ ρ X _, fun U hU hW => ⟨rfl, Hd.of hP hK hN hU hW⟩⟩ rfl (by rw [List.length_map]; exact hn) hsz (by rw [List.map_append, List.map_reverse]) (lv_room (rest := []) (m := m) (pc := pc) (ls := ls) (by rw [catS_cv]; exact hcat)) hdg ⟨hcap.1, hcap.2⟩
  refine xrun hrun hS (Ar_A hρ) (fun v X' H1 locs1 h1 h2 h3 => ?_)
  rw [toL_map]
  exact kk v X' H1 locs1 h1 h2 h3
theorem cr_NV (hD : Does l y (wY y bytes maxL ret) rm C) (hcl : vwCl[ci]? = some (y.cls, T, N)) (hb : cB y bytes maxL ret n = true) (hw : (inB (.instanceMethod y) && inB (.selects y.cls y y)) = true) (hnl : (own, idx, y, "RumourSource") ∈ nwM) (hr : rm.cells = 0 ∧ rm.slots = 0) (hR : rm.frames + 1 ≤ R.frames ∧ 8 + (maxL + 11) + rm.locals ≤ R.locals) : CallRule l own cc (wY y0 cc maxL0 ret0) nL R (idx, false, n + 1, ci, C) := by
  intro p e s m args below meth c γ ρ A kc ks Q hfix hK hN hρ hcap pc As rest X K hn hrec hC hcat hdg H locs ls hP hS hsz kk
  obtain ⟨b, As', rfl, hb1, hb2⟩ := zRecv (hrec rfl)
  obtain ⟨b1, b2, b3⟩ := cB_spec hb
  simp only [Bool.and_eq_true] at hw
  have hG : GoodIn (wY y0 cc maxL0 ret0) (wY y bytes maxL ret) := goodBW (wY_BW b1)
  have ht : ∀ w, inB w = true → w.before args s = true := fun w h => hfix.2.2.2.2 w (List.mem_cons_of_mem _ (inB_BW h))
  have hc5 : ci < 5 := (cl_facts ci _ hcl).2.2.2.2
  have hrun := va_runVN (As := As'.map (cv ρ)) (b := ρ b) (rest := rest.map (cv ρ)) (H := H) (locs := locs) (cells := kc) (slots := ks) (g := F0 m pc ls ((List.reverse (.ref b :: As') ++ rest).map (cv ρ))) (below := below) (meth := meth) (e := e) (host := "RumourSource") (C := y.cls) hfix (hD γ ρ _ X K (dA_Ar hρ) hC) ⟨va_cnB n hfix.2.2.2.2 hG rfl hr.1 hr.2 (hN.2 _ hnl) (ht _ b2) b3 hR, ht _ hw.1, ht _ hw.2⟩ ⟨Hd.blind γ ρ X _, va_recv hK hP (ci := ci) (q0 := b) hcl ((cells_at γ ρ X hb1).trans (by rw [cellE_obj γ ρ X hb2 hc5])), fun U hU hW => ⟨rfl, Hd.of hP hK hN hU hW⟩⟩ rfl (by rw [List.length_map]; exact Nat.succ.inj hn) hsz (by simp [cv]) (lv_room (rest := []) (m := m) (pc := pc) (ls := ls) (by rw [catS_cv]; exact hcat)) hdg ⟨hcap.1, hcap.2⟩
  refine xrun hrun hS (Ar_A hρ) (fun v X' H1 locs1 h1 h2 h3 => ?_)
  rw [toL_map]
  exact kk v X' H1 locs1 h1 h2 h3
end CR
end SOUND
end
section
section SND
theorem xI_e {o : Option Value} {κ : Int32 → Prop} (h : xI o κ) : ∃ x, o = some (.int x) ∧ κ x := by
  unfold xI at h; split at h
  next x => exact ⟨x, rfl, h⟩
  next => exact h.elim
theorem xL_e {o : Option Value} {κ : Int64 → Prop} (h : xL o κ) : ∃ x, o = some (.long x) ∧ κ x := by
  unfold xL at h; split at h
  next x => exact ⟨x, rfl, h⟩
  next => exact h.elim
theorem xR_e {o : Option Value} {κ : Nat → Prop} (h : xR o κ) : ∃ x, o = some (.ref x) ∧ κ x := by
  unfold xR at h; split at h
  next x => exact ⟨x, rfl, h⟩
  next => exact h.elim
theorem s1I_e {st : List Value} {κ : Int32 → List Value → Prop} (h : s1I st κ) : ∃ x r, st = .int x :: r ∧ κ x r := by
  unfold s1I at h; split at h
  next x r => exact ⟨x, r, rfl, h⟩
  next => exact h.elim
theorem s1L_e {st : List Value} {κ : Int64 → List Value → Prop} (h : s1L st κ) : ∃ x r, st = .long x :: r ∧ κ x r := by
  unfold s1L at h; split at h
  next x r => exact ⟨x, r, rfl, h⟩
  next => exact h.elim
theorem s1R_e {st : List Value} {κ : Nat → List Value → Prop} (h : s1R st κ) : ∃ x r, st = .ref x :: r ∧ κ x r := by
  unfold s1R at h; split at h
  next x r => exact ⟨x, r, rfl, h⟩
  next => exact h.elim
theorem s2I_e {st : List Value} {κ : Int32 → Int32 → List Value → Prop} (h : s2I st κ) : ∃ x y r, st = .int y :: .int x :: r ∧ κ x y r := by
  unfold s2I at h; split at h
  next y x r => exact ⟨x, y, r, rfl, h⟩
  next => exact h.elim
theorem s2L_e {st : List Value} {κ : Int64 → Int64 → List Value → Prop} (h : s2L st κ) : ∃ x y r, st = .long y :: .long x :: r ∧ κ x y r := by
  unfold s2L at h; split at h
  next y x r => exact ⟨x, y, r, rfl, h⟩
  next => exact h.elim
theorem sLI_e {st : List Value} {κ : Int64 → Int32 → List Value → Prop} (h : sLI st κ) : ∃ x y r, st = .int y :: .long x :: r ∧ κ x y r := by
  unfold sLI at h; split at h
  next y x r => exact ⟨x, y, r, rfl, h⟩
  next => exact h.elim
theorem sRI_e {st : List Value} {κ : Nat → Int32 → List Value → Prop} (h : sRI st κ) : ∃ q i r, st = .int i :: .ref q :: r ∧ κ q i r := by
  unfold sRI at h; split at h
  next i q r => exact ⟨q, i, r, rfl, h⟩
  next => exact h.elim
theorem sRII_e {st : List Value} {κ : Nat → Int32 → Int32 → List Value → Prop} (h : sRII st κ) : ∃ q i x r, st = .int x :: .int i :: .ref q :: r ∧ κ q i x r := by
  unfold sRII at h; split at h
  next x i q r => exact ⟨q, i, x, r, rfl, h⟩
  next => exact h.elim
theorem sRIL_e {st : List Value} {κ : Nat → Int32 → Int64 → List Value → Prop} (h : sRIL st κ) : ∃ q i x r, st = .long x :: .int i :: .ref q :: r ∧ κ q i x r := by
  unfold sRIL at h; split at h
  next x i q r => exact ⟨q, i, x, r, rfl, h⟩
  next => exact h.elim
theorem sRIR_e {st : List Value} {κ : Nat → Int32 → Nat → List Value → Prop} (h : sRIR st κ) : ∃ q i x r, st = .ref x :: .int i :: .ref q :: r ∧ κ q i x r := by
  unfold sRIR at h; split at h
  next x i q r => exact ⟨q, i, x, r, rfl, h⟩
  next => exact h.elim
theorem pfA_e {X : XT} {c j : Nat} {st : List Value} {κ : List Value → XT → Prop} (h : pfA X c j st κ) : (∃ x q r, st = .int x :: .ref q :: r ∧ fk c j = 0 ∧ q < NC ∧ (shp q).1 = c ∧ (zf c j = true → bl x) ∧ κ r (sI X q j x)) ∨ (∃ x q r, st = .long x :: .ref q :: r ∧ fk c j = 1 ∧ q < NC ∧ (shp q).1 = c ∧ κ r (sL X q j x)) := by
  unfold pfA at h; split at h
  next x q r h0 => exact Or.inl ⟨x, q, r, rfl, h0, h⟩
  next x q r h0 => exact Or.inr ⟨x, q, r, rfl, h0, h⟩
  next => exact h.elim
theorem xcall_e {calls : List CE} {a i : Nat} {sta : Bool} {st : List Value} {X : XT} {κ : List Value → XT → Prop} (h : xcall calls a i sta st X κ) : ∃ n c C As r, (i, sta, n, c, C) ∈ calls ∧ st = As.reverse ++ r ∧ As.length = n ∧ catS r ≤ 8 ∧ (sta = false → recvOk As c) ∧ C As X (fun v X' => κ (v.toList ++ r) X') := by
  unfold xcall at h; split at h
  next i' sta' n c C hc =>
    obtain ⟨⟨e1, e2⟩, h⟩ := h
    subst e1; subst e2
    split at h
    next As r hp =>
      obtain ⟨h1, h2⟩ := popA_st n [] st As r hp
      exact ⟨n, c, C, As, r, List.mem_of_getElem? hc, by rw [h1]; rfl, by rw [h2]; simp, h⟩
    next => exact h.elim
  next => exact h.elim
theorem lv_mono {ls : Array Slot} {n : Nat} {l l' : List (Nat × Value)} (h : lv_has ls n l) (hs : ∀ q ∈ l', q ∈ l) : lv_has ls n l' := ⟨h.1, h.2.1, fun q hq => h.2.2 q (hs q hq)⟩
theorem lv_g {ρ : Nat → Nat} {ls : Array Slot} {n i : Nat} {lv : List (Nat × Value)} {v : Value} (hl : lv_has ls n (lv.map fun q => (q.1, cv ρ q.2))) (h : lget lv i = some v) : ls[i]? = some (.val (cv ρ v)) :=
  hl.2.2 (i, cv ρ v) (List.mem_map.mpr ⟨(i, v), lget_in lv i v h, rfl⟩)
theorem lrm_s1 (ρ : Nat → Nat) (i : Nat) (v : Value) (lv : List (Nat × Value)) : ∀ q ∈ (((i, v) :: lrm i false lv).map fun q => (q.1, cv ρ q.2)), q ∈ (i, cv ρ v) :: (lv.map fun q => (q.1, cv ρ q.2)).filter (fun q => !(q.1 == i) && !(q.1 + 1 == i && q.2.category == 2)) := by
  intro q hq
  rw [List.map_cons] at hq
  rcases List.mem_cons.mp hq with e | e
  · rw [e]; exact List.mem_cons_self
  · obtain ⟨q0, h0, rfl⟩ := List.mem_map.mp e
    obtain ⟨h1, h2, -, h4⟩ := lrm_in i false lv q0 h0
    refine List.mem_cons_of_mem _ (List.mem_filter.mpr ⟨List.mem_map.mpr ⟨q0, h1, rfl⟩, ?_⟩)
    simp only [cv_cat]
    simp only [Bool.and_eq_true, Bool.not_eq_true', beq_eq_false_iff_ne, Bool.and_eq_false_iff, ne_eq]
    exact ⟨h2, (Decidable.not_and_iff_or_not).mp h4⟩
theorem lrm_s2 (ρ : Nat → Nat) (i : Nat) (v : Value) (lv : List (Nat × Value)) : ∀ q ∈ (((i, v) :: lrm i true lv).map fun q => (q.1, cv ρ q.2)), q ∈ (i, cv ρ v) :: (lv.map fun q => (q.1, cv ρ q.2)).filter (fun q => !(q.1 == i) && (!(q.1 == i + 1) && !(q.1 + 1 == i && q.2.category == 2))) := by
  intro q hq
  rw [List.map_cons] at hq
  rcases List.mem_cons.mp hq with e | e
  · rw [e]; exact List.mem_cons_self
  · obtain ⟨q0, h0, rfl⟩ := List.mem_map.mp e
    obtain ⟨h1, h2, h3, h4⟩ := lrm_in i true lv q0 h0
    refine List.mem_cons_of_mem _ (List.mem_filter.mpr ⟨List.mem_map.mpr ⟨q0, h1, rfl⟩, ?_⟩)
    simp only [cv_cat]
    simp only [Bool.and_eq_true, Bool.not_eq_true', beq_eq_false_iff_ne, Bool.and_eq_false_iff, ne_eq]
    exact ⟨h2, h3 rfl, (Decidable.not_and_iff_or_not).mp h4⟩
theorem cv_fvA (ρ : Nat → Nat) (X : XT) (c k j : Nat) : cv ρ (fvA X c k j) = fv ρ X c k j := by
  unfold fvA fv
  match fk c j with
  | 0 => rfl
  | 1 => rfl
  | n + 2 => rfl
theorem fldB_e {own : String} {i c j : Nat} (h : fldB own i c j = true) : ∃ C T N, vwCl[c]? = some (C, T, N) ∧ j < N ∧ (inB (.fieldLink own i (T j).1 (T j).2.1 (T j).2.2.1) = true ∨ (own, i, (T j).1, (T j).2.1, (T j).2.2.1, "RumourSource") ∈ nwF) := by
  unfold fldB at h; split at h
  next C T N hc =>
    simp only [Bool.and_eq_true, decide_eq_true_eq, Bool.or_eq_true] at h
    exact ⟨C, T, N, hc, h.1, h.2.imp id (fun z => by simpa using z)⟩
  next => cases h
theorem obj_at {γ : GT} {ρ : Nat → Nat} {X : XT} {q c : Nat} (hq : q < NC) (hs : (shp q).1 = c) (hc : c < 5) : (cells γ ρ X)[q]? = some (ρ q, .inr (c, (List.range (nf c)).map (fv ρ X c q))) := by
  rw [cells_at γ ρ X hq, cellE_obj γ ρ X hs hc]
theorem fs_at {ρ : Nat → Nat} {X : XT} {q c j : Nat} (hj : j < nf c) : ((List.range (nf c)).map (fv ρ X c q))[j]? = some (fv ρ X c q j) := by
  rw [List.getElem?_map, List.getElem?_range hj]; rfl
theorem fk_desc {c j : Nat} {C : String} {T : u_T} {N : Nat} (hc : vwCl[c]? = some (C, T, N)) (hj : j < N) : (fk c j = 0 → (T j).2.2.2 = false ∧ (T j).2.2.1 = (if zf c j then "Z" else "I")) ∧ (fk c j = 1 → (T j).2.2.2 = false ∧ (T j).2.2.1 = "J") := by
  obtain ⟨-, -, -, hN, h5⟩ := cl_facts c _ hc
  have hN' : N = nf c := hN
  have h12 : j < 12 := by
    have : nf c ≤ 12 := by rcases (by omega : c = 0 ∨ c = 1 ∨ c = 2 ∨ c = 3 ∨ c = 4) with rfl | rfl | rfl | rfl | rfl <;> decide
    omega
  have h := List.all_eq_true.mp (List.all_eq_true.mp fkd_ok c (List.mem_range.mpr h5)) j (List.mem_range.mpr h12)
  unfold fkd at h
  rw [hc] at h
  simp only [if_pos hj] at h
  refine ⟨fun z => ?_, fun z => ?_⟩
  · rw [if_pos z] at h
    simpa using h
  · rw [z] at h
    simpa using h
theorem nar_bl {x : Int32} (h : bl x) : narrow .boolean (.int x) = .int x ∧ fits .boolean (.int x) = true ∧ vp_nar .boolean x = x := by
  rcases h with rfl | rfl <;> exact ⟨rfl, rfl, rfl⟩
theorem desc_I : parseFieldDescriptor "I" = some .int := by decide +kernel
theorem desc_Z : parseFieldDescriptor "Z" = some .boolean := by decide +kernel
theorem desc_J : parseFieldDescriptor "J" = some .long := by decide +kernel
end SND
section SOUND2
variable {p : Program} {l : Launch} {e : Env} {R : Room} {s : State} {m : MethodId} {args : Array Value} {below : List Frame} {meth : Method} {c : Code} {Q : State → Prop} {γ : GT} {ρ : Nat → Nat} {A : Nat → Prop} {kc ks nL : Nat} {cc : ByteArray} {ws : List Cond} {own : String}
variable {t : List (Nat × TE)} {calls : List CE} {rt L : Nat} {sc : Option (Nat → Int32)} {post : Option Value → XT → Prop}
def RetOk (p : Program) (l : Launch) (e : Env) (R : Room) (s : State) (m : MethodId) (args : Array Value) (below : List Frame) (meth : Method) (c : Code) (γ : GT) (ρ : Nat → Nat) (A : Nat → Prop) (kc ks : Nat) (Q : State → Prop) (cc : ByteArray) (rt : Nat) (post : Option Value → XT → Prop) : Prop :=
  ∀ (ins : Instr) (pc : Nat) (st : List Value) (X : XT) (H : Heap) (locs : List Loc) (ls : Array Slot), decode cc pc = .ok (ins, 1) → retx rt post ins st X → va_P γ.1 vwCl (cells γ ρ X) H → va_S A s.heap H locs → W p l e R s m args below meth c H locs kc ks Q (F0 m pc ls (st.map (cv ρ)))
set_option maxHeartbeats 4000000 in
theorem exec_sound (hfix : CallFix p m c cc nL s args ws own) (hBW : ∀ w ∈ BW, w ∈ ws) (hK : va_K γ.1 vwCl (tysG γ) s) (hN : NL s) (hρ : dA A ρ) (hcap : kc ≤ R.cells ∧ ks ≤ R.slots) (hcalls : ∀ q ∈ calls, CallRule l own cc ws nL R q)
    (hret : RetOk p l e R s m args below meth c γ ρ A kc ks Q cc rt post)
    (hscr : ∀ xs, sc = some xs → va_X (ρ 999) L xs s s.heap ∧ ρ 999 < s.heap.size ∧ ¬ A (ρ 999)) (htk : tOk cc own nL t = true) :
    ∀ (κ : KT), (∀ pc lv st X, κ pc lv st X → RX p l e R s m args below meth c γ ρ A nL kc ks Q pc lv st X) → ∀ pc lv st X te, fetch t pc = some te → exec rt calls sc L post te pc lv st X κ → RX p l e R s m args below meth c γ ρ A nL kc ks Q pc lv st X := by
  intro κ hκ pc lv st X te hf h H locs ls hP hS hl
  obtain ⟨hx, hb, hml, hown, hts⟩ := id hfix
  have hD := cells_D hρ γ X
  have htB : ∀ w, inB w = true → w.before args s = true := fun w hw => hts w (hBW w (inB_BW hw))
  have hin := List.all_eq_true.mp htk _ (fetch_in t pc te hf)
  obtain ⟨ins, len, a, b, k, w⟩ := te
  simp only [Bool.and_eq_true] at hin
  obtain ⟨⟨he, hlo⟩, hn⟩ := hin
  unfold eOk at he
  simp only [Bool.and_eq_true, decide_eq_true_eq] at he
  obtain ⟨hd, he⟩ := he
  cases ins
  case iload i =>
    simp only [Bool.and_eq_true, beq_iff_eq] at he
    obtain ⟨rfl, rfl⟩ := he
    obtain ⟨x, e1, h⟩ := xI_e h
    exact lv_iload hx hb hd (lv_g hl e1) (hκ _ _ _ _ h H locs ls hP hS hl)
  case iload_n i =>
    simp only [Bool.and_eq_true, beq_iff_eq] at he
    obtain ⟨rfl, rfl⟩ := he
    obtain ⟨x, e1, h⟩ := xI_e h
    exact lv_iload_n hx hb hd rfl (lv_g hl e1) (hκ _ _ _ _ h H locs ls hP hS hl)
  case lload i =>
    simp only [Bool.and_eq_true, beq_iff_eq] at he
    obtain ⟨rfl, rfl⟩ := he
    obtain ⟨x, e1, h⟩ := xL_e h
    exact lv_lload hx hb hd (lv_g hl e1) (hκ _ _ _ _ h H locs ls hP hS hl)
  case lload_n i =>
    simp only [Bool.and_eq_true, beq_iff_eq] at he
    obtain ⟨rfl, rfl⟩ := he
    obtain ⟨x, e1, h⟩ := xL_e h
    exact lv_lload_n hx hb hd rfl (lv_g hl e1) (hκ _ _ _ _ h H locs ls hP hS hl)
  case aload i =>
    simp only [Bool.and_eq_true, beq_iff_eq] at he
    obtain ⟨rfl, rfl⟩ := he
    obtain ⟨x, e1, h⟩ := xR_e h
    exact lv_aload hx hb hd (lv_g hl e1) (hκ _ _ _ _ h H locs ls hP hS hl)
  case aload_n i =>
    simp only [Bool.and_eq_true, beq_iff_eq] at he
    obtain ⟨rfl, rfl⟩ := he
    obtain ⟨x, e1, h⟩ := xR_e h
    exact lv_aload_n hx hb hd rfl (lv_g hl e1) (hκ _ _ _ _ h H locs ls hP hS hl)
  case istore i =>
    simp only [Bool.and_eq_true, beq_iff_eq] at he
    obtain ⟨rfl, rfl⟩ := he
    obtain ⟨x, r, rfl, h⟩ := s1I_e h
    exact lv_istore hx hb hd hl (of_decide_eq_true hn) rfl (fun ls1 hl1 => hκ _ _ _ _ h H locs ls1 hP hS (lv_mono hl1 (lrm_s1 ρ _ (.int x) lv)))
  case istore_n i =>
    simp only [Bool.and_eq_true, beq_iff_eq] at he
    obtain ⟨rfl, rfl⟩ := he
    obtain ⟨x, r, rfl, h⟩ := s1I_e h
    exact lv_istore_n hx hb hd rfl hl (of_decide_eq_true hn) rfl (fun ls1 hl1 => hκ _ _ _ _ h H locs ls1 hP hS (lv_mono hl1 (lrm_s1 ρ _ (.int x) lv)))
  case lstore i =>
    simp only [Bool.and_eq_true, beq_iff_eq] at he
    obtain ⟨rfl, rfl⟩ := he
    obtain ⟨x, r, rfl, h⟩ := s1L_e h
    exact lv_lstore hx hb hd hl (of_decide_eq_true hn) rfl (fun ls1 hl1 => hκ _ _ _ _ h H locs ls1 hP hS (lv_mono hl1 (lrm_s2 ρ _ (.long x) lv)))
  case lstore_n i =>
    simp only [Bool.and_eq_true, beq_iff_eq] at he
    obtain ⟨rfl, rfl⟩ := he
    obtain ⟨x, r, rfl, h⟩ := s1L_e h
    exact lv_lstore_n hx hb hd rfl hl (of_decide_eq_true hn) rfl (fun ls1 hl1 => hκ _ _ _ _ h H locs ls1 hP hS (lv_mono hl1 (lrm_s2 ρ _ (.long x) lv)))
  case astore i =>
    simp only [Bool.and_eq_true, beq_iff_eq] at he
    obtain ⟨rfl, rfl⟩ := he
    obtain ⟨x, r, rfl, h⟩ := s1R_e h
    exact lv_astore hx hb hd hl (of_decide_eq_true hn) rfl (fun ls1 hl1 => hκ _ _ _ _ h H locs ls1 hP hS (lv_mono hl1 (lrm_s1 ρ _ (.ref x) lv)))
  case astore_n i =>
    simp only [Bool.and_eq_true, beq_iff_eq] at he
    obtain ⟨rfl, rfl⟩ := he
    obtain ⟨x, r, rfl, h⟩ := s1R_e h
    exact lv_astore_n hx hb hd rfl hl (of_decide_eq_true hn) rfl (fun ls1 hl1 => hκ _ _ _ _ h H locs ls1 hP hS (lv_mono hl1 (lrm_s1 ρ _ (.ref x) lv)))
  case iinc i n =>
    simp only [Bool.and_eq_true, beq_iff_eq] at he
    obtain ⟨⟨rfl, rfl⟩, rfl⟩ := he
    obtain ⟨x, e1, h⟩ := xI_e h
    obtain ⟨j, hj⟩ := List.getElem?_of_mem (List.mem_map.mpr ⟨(i, .int x), lget_in lv i _ e1, rfl⟩ : (i, Value.int x) ∈ lv.map fun q => (q.1, cv ρ q.2))
    exact lv_iinc hx hb hd hl hj rfl (of_decide_eq_true hn) rfl (fun ls1 hl1 => hκ _ _ _ _ h H locs ls1 hP hS (lv_mono hl1 (lrm_s1 ρ _ (.int _) lv)))
  case iconst n =>
    simp only [Bool.and_eq_true, beq_iff_eq] at he
    obtain ⟨e1, rfl⟩ := he
    exact lv_iconst hx hb hd e1 (hκ _ _ _ _ h H locs ls hP hS hl)
  case bipush n =>
    simp only [Bool.and_eq_true, beq_iff_eq] at he
    obtain ⟨e1, rfl⟩ := he
    exact lv_bipush hx hb hd e1 (hκ _ _ _ _ h H locs ls hP hS hl)
  case sipush n =>
    simp only [Bool.and_eq_true, beq_iff_eq] at he
    obtain ⟨e1, rfl⟩ := he
    exact lv_sipush hx hb hd e1 (hκ _ _ _ _ h H locs ls hP hS hl)
  case lconst n =>
    simp only [Bool.and_eq_true, beq_iff_eq] at he
    obtain ⟨e1, rfl⟩ := he
    exact lv_lconst hx hb hd e1 (hκ _ _ _ _ h H locs ls hP hS hl)
  case ldc i =>
    obtain rfl : len = 2 := by simpa using he
    exact lv_ldc hx hb hown (htB _ hlo) hd (hκ _ _ _ _ h H locs ls hP hS hl)
  case ldc2_w i =>
    obtain rfl : len = 3 := by simpa using he
    exact lv_ldc2 hx hb hown (htB _ hlo) hd (hκ _ _ _ _ h H locs ls hP hS hl)
  case iadd =>
    obtain rfl : len = 1 := by simpa using he
    obtain ⟨x, y, r, rfl, h⟩ := s2I_e h
    exact lv_iadd hx hb hd (hκ _ _ _ _ h H locs ls hP hS hl)
  case isub =>
    obtain rfl : len = 1 := by simpa using he
    obtain ⟨x, y, r, rfl, h⟩ := s2I_e h
    exact lv_isub hx hb hd (hκ _ _ _ _ h H locs ls hP hS hl)
  case imul =>
    obtain rfl : len = 1 := by simpa using he
    obtain ⟨x, y, r, rfl, h⟩ := s2I_e h
    exact lv_imul hx hb hd (hκ _ _ _ _ h H locs ls hP hS hl)
  case iand =>
    obtain rfl : len = 1 := by simpa using he
    obtain ⟨x, y, r, rfl, h⟩ := s2I_e h
    exact lv_iand hx hb hd (hκ _ _ _ _ h H locs ls hP hS hl)
  case ior =>
    obtain rfl : len = 1 := by simpa using he
    obtain ⟨x, y, r, rfl, h⟩ := s2I_e h
    exact lv_ior hx hb hd (hκ _ _ _ _ h H locs ls hP hS hl)
  case ishl =>
    obtain rfl : len = 1 := by simpa using he
    obtain ⟨x, y, r, rfl, h⟩ := s2I_e h
    exact lv_ishl hx hb hd (hκ _ _ _ _ h H locs ls hP hS hl)
  case ishr =>
    obtain rfl : len = 1 := by simpa using he
    obtain ⟨x, y, r, rfl, h⟩ := s2I_e h
    exact lv_ishr hx hb hd (hκ _ _ _ _ h H locs ls hP hS hl)
  case iushr =>
    obtain rfl : len = 1 := by simpa using he
    obtain ⟨x, y, r, rfl, h⟩ := s2I_e h
    exact lv_iushr hx hb hd rfl (hκ _ _ _ _ h H locs ls hP hS hl)
  case idiv =>
    obtain rfl : len = 1 := by simpa using he
    obtain ⟨x, y, r, rfl, h0, h⟩ := s2I_e h
    exact lv_idiv hx hb hd h0 (hκ _ _ _ _ h H locs ls hP hS hl)
  case irem =>
    obtain rfl : len = 1 := by simpa using he
    obtain ⟨x, y, r, rfl, h0, h⟩ := s2I_e h
    exact lv_irem hx hb hd h0 (hκ _ _ _ _ h H locs ls hP hS hl)
  case ladd =>
    obtain rfl : len = 1 := by simpa using he
    obtain ⟨x, y, r, rfl, h⟩ := s2L_e h
    exact lv_ladd hx hb hd (hκ _ _ _ _ h H locs ls hP hS hl)
  case lsub =>
    obtain rfl : len = 1 := by simpa using he
    obtain ⟨x, y, r, rfl, h⟩ := s2L_e h
    exact lv_lsub hx hb hd (hκ _ _ _ _ h H locs ls hP hS hl)
  case lmul =>
    obtain rfl : len = 1 := by simpa using he
    obtain ⟨x, y, r, rfl, h⟩ := s2L_e h
    exact lv_lmul hx hb hd (hκ _ _ _ _ h H locs ls hP hS hl)
  case land =>
    obtain rfl : len = 1 := by simpa using he
    obtain ⟨x, y, r, rfl, h⟩ := s2L_e h
    exact lv_land hx hb hd (hκ _ _ _ _ h H locs ls hP hS hl)
  case lor =>
    obtain rfl : len = 1 := by simpa using he
    obtain ⟨x, y, r, rfl, h⟩ := s2L_e h
    exact lv_lor hx hb hd (hκ _ _ _ _ h H locs ls hP hS hl)
  case ldiv =>
    obtain rfl : len = 1 := by simpa using he
    obtain ⟨x, y, r, rfl, h0, h⟩ := s2L_e h
    exact lv_ldiv hx hb hd h0 (hκ _ _ _ _ h H locs ls hP hS hl)
  case lcmp =>
    obtain rfl : len = 1 := by simpa using he
    obtain ⟨x, y, r, rfl, h⟩ := s2L_e h
    exact W.lcmp hx hb hd (hκ _ _ _ _ h H locs ls hP hS hl)
  case lshl =>
    obtain rfl : len = 1 := by simpa using he
    obtain ⟨x, y, r, rfl, h⟩ := sLI_e h
    exact lv_lshl hx hb hd rfl (hκ _ _ _ _ h H locs ls hP hS hl)
  case lushr =>
    obtain rfl : len = 1 := by simpa using he
    obtain ⟨x, y, r, rfl, h⟩ := sLI_e h
    exact lv_lushr hx hb hd rfl (hκ _ _ _ _ h H locs ls hP hS hl)
  case i2l =>
    obtain rfl : len = 1 := by simpa using he
    obtain ⟨x, r, rfl, h⟩ := s1I_e h
    exact lv_i2l hx hb hd rfl (hκ _ _ _ _ h H locs ls hP hS hl)
  case l2i =>
    obtain rfl : len = 1 := by simpa using he
    obtain ⟨x, r, rfl, h⟩ := s1L_e h
    exact lv_l2i hx hb hd rfl (hκ _ _ _ _ h H locs ls hP hS hl)
  case dup =>
    obtain rfl : len = 1 := by simpa using he
    match st, h with
    | v :: r, h =>
      obtain ⟨h0, h⟩ := h
      exact lv_dup hx hb hd ((cv_cat ρ v).trans h0) (hκ _ _ _ _ h H locs ls hP hS hl)
  case pop =>
    obtain rfl : len = 1 := by simpa using he
    match st, h with
    | v :: r, h =>
      obtain ⟨h0, h⟩ := h
      exact lv_pop hx hb hd ((cv_cat ρ v).trans h0) (hκ _ _ _ _ h H locs ls hP hS hl)
  case dup2 =>
    obtain rfl : len = 1 := by simpa using he
    match st, h with
    | v :: u :: r, h =>
      obtain ⟨⟨h0, h1⟩, h⟩ := h
      exact lv_dup2_11 hx hb hd ((cv_cat ρ v).trans h0) ((cv_cat ρ u).trans h1) (hκ _ _ _ _ h H locs ls hP hS hl)
  case ifCond q o =>
    simp only [Bool.and_eq_true, beq_iff_eq] at he
    obtain ⟨e1, rfl⟩ := he
    cases q
    case eq => (obtain ⟨x, r, rfl, h⟩ := s1I_e h; exact lv_if_eq hx hb hd e1 (fun z => hκ _ _ _ _ (h.1 z) H locs ls hP hS hl) (fun z => hκ _ _ _ _ (h.2 z) H locs ls hP hS hl))
    case ne => (obtain ⟨x, r, rfl, h⟩ := s1I_e h; exact lv_if_ne hx hb hd e1 (fun z => hκ _ _ _ _ (h.1 z) H locs ls hP hS hl) (fun z => hκ _ _ _ _ (h.2 z) H locs ls hP hS hl))
    case lt => (obtain ⟨x, r, rfl, h⟩ := s1I_e h; exact lv_if_lt hx hb hd e1 (fun z => hκ _ _ _ _ (h.1 z) H locs ls hP hS hl) (fun z => hκ _ _ _ _ (h.2 z) H locs ls hP hS hl))
    case ge => (obtain ⟨x, r, rfl, h⟩ := s1I_e h; exact lv_if_ge hx hb hd e1 (fun z => hκ _ _ _ _ (h.1 z) H locs ls hP hS hl) (fun z => hκ _ _ _ _ (h.2 z) H locs ls hP hS hl))
    case gt => (obtain ⟨x, r, rfl, h⟩ := s1I_e h; exact lv_if_gt hx hb hd e1 (fun z => hκ _ _ _ _ (h.1 z) H locs ls hP hS hl) (fun z => hκ _ _ _ _ (h.2 z) H locs ls hP hS hl))
    case le => (obtain ⟨x, r, rfl, h⟩ := s1I_e h; exact lv_if_le hx hb hd e1 (fun z => hκ _ _ _ _ (h.1 z) H locs ls hP hS hl) (fun z => hκ _ _ _ _ (h.2 z) H locs ls hP hS hl))
  case if_icmp q o =>
    simp only [Bool.and_eq_true, beq_iff_eq] at he
    obtain ⟨e1, rfl⟩ := he
    cases q
    case eq => (obtain ⟨x, y, r, rfl, h⟩ := s2I_e h; exact lv_icmp_eq hx hb hd e1 (fun z => hκ _ _ _ _ (h.1 z) H locs ls hP hS hl) (fun z => hκ _ _ _ _ (h.2 z) H locs ls hP hS hl))
    case ne => (obtain ⟨x, y, r, rfl, h⟩ := s2I_e h; exact lv_icmp_ne hx hb hd e1 (fun z => hκ _ _ _ _ (h.1 z) H locs ls hP hS hl) (fun z => hκ _ _ _ _ (h.2 z) H locs ls hP hS hl))
    case lt => (obtain ⟨x, y, r, rfl, h⟩ := s2I_e h; exact lv_icmp_lt hx hb hd e1 (fun z => hκ _ _ _ _ (h.1 z) H locs ls hP hS hl) (fun z => hκ _ _ _ _ (h.2 z) H locs ls hP hS hl))
    case ge => (obtain ⟨x, y, r, rfl, h⟩ := s2I_e h; exact lv_icmp_ge hx hb hd e1 (fun z => hκ _ _ _ _ (h.1 z) H locs ls hP hS hl) (fun z => hκ _ _ _ _ (h.2 z) H locs ls hP hS hl))
    case gt => (obtain ⟨x, y, r, rfl, h⟩ := s2I_e h; exact lv_icmp_gt hx hb hd e1 (fun z => hκ _ _ _ _ (h.1 z) H locs ls hP hS hl) (fun z => hκ _ _ _ _ (h.2 z) H locs ls hP hS hl))
    case le => (obtain ⟨x, y, r, rfl, h⟩ := s2I_e h; exact lv_icmp_le hx hb hd e1 (fun z => hκ _ _ _ _ (h.1 z) H locs ls hP hS hl) (fun z => hκ _ _ _ _ (h.2 z) H locs ls hP hS hl))
  case goto o =>
    simp only [Bool.and_eq_true, beq_iff_eq] at he
    obtain ⟨e1, rfl⟩ := he
    exact lv_goto hx hb hd e1 (hκ _ _ _ _ h H locs ls hP hS hl)
  case tableswitch d lo hi offs =>
    simp only [Bool.and_eq_true, decide_eq_true_eq] at he
    obtain ⟨⟨e1, e2⟩, e3⟩ := he
    obtain ⟨x, r, rfl, hg⟩ := s1I_e h
    unfold tsw at hg
    by_cases z : x.toInt < lo ∨ hi < x.toInt
    · rw [if_pos z] at hg
      exact lv_tableOut hx hb hd z (Int.toNat_of_nonneg e1).symm (hκ _ _ _ _ hg H locs ls hP hS hl)
    · rw [if_neg z] at hg
      have z1 : ¬ x.toInt < lo := fun q => z (Or.inl q)
      have z2 : ¬ hi < x.toInt := fun q => z (Or.inr q)
      have z3 : (x.toInt - lo).toNat < offs.size := by omega
      have z4 : offs[(x.toInt - lo).toNat]? = some (offs.getD (x.toInt - lo).toNat 0) := by simp [Array.getD, z3]
      have z5 : 0 ≤ (pc : Int) + offs.getD (x.toInt - lo).toNat 0 := of_decide_eq_true (List.all_eq_true.mp e2 _ (Array.mem_toList_iff.mpr (Array.mem_of_getElem? z4)))
      exact lv_tableIn hx hb hd z1 z2 z4 (Int.toNat_of_nonneg z5).symm (hκ _ _ _ _ hg H locs ls hP hS hl)
  case getfield i =>
    obtain rfl : len = 3 := by simpa using he
    obtain ⟨q, r, rfl, ⟨g1, g2⟩, h⟩ := s1R_e h
    obtain ⟨C, T, N, f1, f2, f3⟩ := fldB_e hlo
    obtain ⟨u1, u2, u3, u4, u5⟩ := cl_facts a _ f1
    have hr := hκ _ _ _ _ h H locs ls hP hS hl
    rw [List.map_cons, cv_fvA] at hr
    have f4 : b < nf a := (show N = nf a from u4) ▸ f2
    rcases f3 with f3 | f3
    · exact va_get (v := fv ρ X a q b) hx hb hts (fun w hw => hBW w (u1 w hw)) hown hK hP q (obj_at g1 g2 u5) f1 b f2 (htB _ f3) (fun _ z => z) (fs_at f4) hd hr
    · exact va_getN (v := fv ρ X a q b) hx hb hts (fun w hw => hBW w (u1 w hw)) hown hK hP q (obj_at g1 g2 u5) f1 b f2 (va_Nw.use rfl (hN.1 _ f3)) (fun _ z => z) (fs_at f4) hd hr
  case putfield i =>
    obtain rfl : len = 3 := by simpa using he
    obtain ⟨C, T, N, f1, f2, f3⟩ := fldB_e hlo
    obtain ⟨u1, u2, u3, u4, u5⟩ := cl_facts a _ f1
    have f4 : b < nf a := (show N = nf a from u4) ▸ f2
    obtain ⟨dI, dJ⟩ := fk_desc f1 f2
    rcases pfA_e h with ⟨x, q, r, rfl, g0, g1, g2, g3, h⟩ | ⟨x, q, r, rfl, g0, g1, g2, h⟩
    · obtain ⟨d1, d2⟩ := dI g0
      by_cases z : zf a b = true
      · rw [if_pos z] at d2
        have f5 : b < ((List.range (nf a)).map (fv ρ X a q)).length := by simpa using f4
        rcases f3 with f3 | f3
        · exact va_put (v := .int x) (ty := .boolean) hx hb hts (fun w hw => hBW w (u1 w hw)) (tyG a) u2 u3 hown hK hP hD hS q (obj_at g1 g2 u5) f1 b f2 (htB _ f3) (fun _ z => z) d1 (by rw [d2]; exact desc_Z) (nar_bl (g3 z)).1 (nar_bl (g3 z)).2.1 f5 hd (fun H1 locs1 hP1 hD1 hS1 => hκ _ _ _ _ h H1 locs1 ls (by rw [← cells_putI γ ρ X g1 g2 u5 b g0 x]; exact hP1) hS1 hl)
        · exact va_putN (v := .int x) (ty := .boolean) hx hb hts (fun w hw => hBW w (u1 w hw)) (tyG a) u2 u3 hown hK hP hD hS q (obj_at g1 g2 u5) f1 b f2 (va_Nw.use rfl (hN.1 _ f3)) (fun _ z => z) d1 (by rw [d2]; exact desc_Z) (nar_bl (g3 z)).1 (nar_bl (g3 z)).2.1 f5 hd (fun H1 locs1 hP1 hD1 hS1 => hκ _ _ _ _ h H1 locs1 ls (by rw [← cells_putI γ ρ X g1 g2 u5 b g0 x]; exact hP1) hS1 hl)
      · rw [if_neg z] at d2
        have f5 : b < ((List.range (nf a)).map (fv ρ X a q)).length := by simpa using f4
        rcases f3 with f3 | f3
        · exact va_put (v := .int x) (ty := .int) hx hb hts (fun w hw => hBW w (u1 w hw)) (tyG a) u2 u3 hown hK hP hD hS q (obj_at g1 g2 u5) f1 b f2 (htB _ f3) (fun _ z => z) d1 (by rw [d2]; exact desc_I) rfl rfl f5 hd (fun H1 locs1 hP1 hD1 hS1 => hκ _ _ _ _ h H1 locs1 ls (by rw [← cells_putI γ ρ X g1 g2 u5 b g0 x]; exact hP1) hS1 hl)
        · exact va_putN (v := .int x) (ty := .int) hx hb hts (fun w hw => hBW w (u1 w hw)) (tyG a) u2 u3 hown hK hP hD hS q (obj_at g1 g2 u5) f1 b f2 (va_Nw.use rfl (hN.1 _ f3)) (fun _ z => z) d1 (by rw [d2]; exact desc_I) rfl rfl f5 hd (fun H1 locs1 hP1 hD1 hS1 => hκ _ _ _ _ h H1 locs1 ls (by rw [← cells_putI γ ρ X g1 g2 u5 b g0 x]; exact hP1) hS1 hl)
    · obtain ⟨d1, d2⟩ := dJ g0
      have f5 : b < ((List.range (nf a)).map (fv ρ X a q)).length := by simpa using f4
      rcases f3 with f3 | f3
      · exact va_put (v := .long x) (ty := .long) hx hb hts (fun w hw => hBW w (u1 w hw)) (tyG a) u2 u3 hown hK hP hD hS q (obj_at g1 g2 u5) f1 b f2 (htB _ f3) (fun _ z => z) d1 (by rw [d2]; exact desc_J) rfl rfl f5 hd (fun H1 locs1 hP1 hD1 hS1 => hκ _ _ _ _ h H1 locs1 ls (by rw [← cells_putL γ ρ X g1 g2 u5 b g0 x]; exact hP1) hS1 hl)
      · exact va_putN (v := .long x) (ty := .long) hx hb hts (fun w hw => hBW w (u1 w hw)) (tyG a) u2 u3 hown hK hP hD hS q (obj_at g1 g2 u5) f1 b f2 (va_Nw.use rfl (hN.1 _ f3)) (fun _ z => z) d1 (by rw [d2]; exact desc_J) rfl rfl f5 hd (fun H1 locs1 hP1 hD1 hS1 => hκ _ _ _ _ h H1 locs1 ls (by rw [← cells_putL γ ρ X g1 g2 u5 b g0 x]; exact hP1) hS1 hl)
  case iaload =>
    obtain rfl : len = 1 := by simpa using he
    obtain ⟨q, i, r, rfl, hg⟩ := sRI_e h
    unfold scrR at hg
    have nor : ((q < NC ∧ (shp q).1 = 5 ∧ vp_in i (shp q).2) ∧ κ (pc + 1) lv (.int (X.1 q i.toNatClampNeg) :: r) X) → W p l e R s m args below meth c H locs kc ks Q (F0 m pc ls ((.int i :: .ref q :: r : List Value).map (cv ρ))) := by
      rintro ⟨⟨g1, g2, g3⟩, hg⟩
      exact va_iald hx hb hK hP q 0 ((cells_at γ ρ X g1).trans (by rw [cellE_arrI γ ρ X g2])) rfl g3 hd (hκ _ _ _ _ hg H locs ls hP hS hl)
    split at hg
    next => exact nor hg
    next xs =>
      split at hg
      next hq =>
        obtain ⟨a1, a2, a3⟩ := hscr xs rfl
        subst hq
        exact va_sld hx hb a1 a2 a3 hS hg.1 hd (hκ _ _ _ _ hg.2 H locs ls hP hS hl)
      next => exact nor hg
  case baload =>
    obtain rfl : len = 1 := by simpa using he
    obtain ⟨q, i, r, rfl, ⟨g1, g2, g3⟩, h⟩ := sRI_e h
    exact va_zald hx hb hK hP q 2 ((cells_at γ ρ X g1).trans (by rw [cellE_arrZ γ ρ X g2])) rfl g3 hd (hκ _ _ _ _ h H locs ls hP hS hl)
  case laload =>
    obtain rfl : len = 1 := by simpa using he
    obtain ⟨q, i, r, rfl, ⟨g1, g2, g3⟩, h⟩ := sRI_e h
    exact va_lald hx hb hK hP q 1 ((cells_at γ ρ X g1).trans (by rw [cellE_arrL γ ρ X g2])) rfl g3 hd (hκ _ _ _ _ h H locs ls hP hS hl)
  case aaload =>
    obtain rfl : len = 1 := by simpa using he
    obtain ⟨q, i, r, rfl, ⟨g1, g2, g3⟩, h⟩ := sRI_e h
    exact va_aldq (f := fun j => some (ρ (X.2.2 j))) hx hb hK hP q 3 ((cells_at γ ρ X g1).trans (by rw [cellE_arrR γ ρ X g2])) rfl g3 hd (hκ _ _ _ _ h H locs ls hP hS hl)
  case iastore =>
    obtain rfl : len = 1 := by simpa using he
    obtain ⟨q, i, x, r, rfl, ⟨g1, g2, g3⟩, h⟩ := sRII_e h
    exact va_iast hx hb hK hP hD hS q 0 ((cells_at γ ρ X g1).trans (by rw [cellE_arrI γ ρ X g2])) rfl g3 hd (fun H1 locs1 hP1 hD1 hS1 => hκ _ _ _ _ h H1 locs1 ls (by rw [← cells_setI γ ρ X g1 g2]; exact hP1) hS1 hl)
  case bastore =>
    obtain rfl : len = 1 := by simpa using he
    obtain ⟨q, i, x, r, rfl, ⟨g1, g2, g3, g4⟩, h⟩ := sRII_e h
    exact va_zast hx hb hK hP hD hS q 2 ((cells_at γ ρ X g1).trans (by rw [cellE_arrZ γ ρ X g2])) rfl g3 hd (fun H1 locs1 hP1 hD1 hS1 => hκ _ _ _ _ h H1 locs1 ls (by rw [← cells_setZ γ ρ X g1 g2]; rw [(nar_bl g4).2.2] at hP1; exact hP1) hS1 hl)
  case lastore =>
    obtain rfl : len = 1 := by simpa using he
    obtain ⟨q, i, x, r, rfl, ⟨g1, g2, g3⟩, h⟩ := sRIL_e h
    exact va_last hx hb hK hP hD hS q 1 ((cells_at γ ρ X g1).trans (by rw [cellE_arrL γ ρ X g2])) rfl g3 hd (fun H1 locs1 hP1 hD1 hS1 => hκ _ _ _ _ h H1 locs1 ls (by rw [← cells_setL γ ρ X g1 g2]; exact hP1) hS1 hl)
  case aastore =>
    obtain rfl : len = 1 := by simpa using he
    obtain ⟨q, i, x, r, rfl, ⟨g1, g2, g3, g4, g5⟩, h⟩ := sRIR_e h
    exact va_astq hx hb hK hP hD hS q 3 x 0 (r := (RX0, TX0, 8)) ((cells_at γ ρ X g1).trans (by rw [cellE_arrR γ ρ X g2])) rfl (obj_at g4 g5 (by decide)) rfl g3 hd (fun H1 locs1 hP1 hD1 hS1 => hκ _ _ _ _ h H1 locs1 ls (by rw [← cells_setR γ ρ X g1 g2]; exact hP1) hS1 hl)
  case arraylength =>
    obtain rfl : len = 1 := by simpa using he
    obtain ⟨q, r, rfl, hg⟩ := s1R_e h
    unfold scrN at hg
    have nor : ((q < NC ∧ 5 ≤ (shp q).1 ∧ (shp q).1 ≤ 8) ∧ κ (pc + 1) lv (.int (nI (shp q).2) :: r) X) → W p l e R s m args below meth c H locs kc ks Q (F0 m pc ls ((.ref q :: r : List Value).map (cv ρ))) := by
      rintro ⟨⟨g1, g2, g3⟩, hg⟩
      rcases (by omega : (shp q).1 = 5 ∨ (shp q).1 = 6 ∨ (shp q).1 = 7 ∨ (shp q).1 = 8) with g2 | g2 | g2 | g2
      · exact va_alen (x := ((shp q).2, .inl (X.1 q))) hx hb hK hP q 0 ((cells_at γ ρ X g1).trans (by rw [cellE_arrI γ ρ X g2])) rfl rfl hd (hκ _ _ _ _ hg H locs ls hP hS hl)
      · exact va_alen (x := ((shp q).2, .inr (.inl (X.2.1 q)))) hx hb hK hP q 1 ((cells_at γ ρ X g1).trans (by rw [cellE_arrL γ ρ X g2])) rfl rfl hd (hκ _ _ _ _ hg H locs ls hP hS hl)
      · exact va_alen (x := ((shp q).2, .inl (X.1 q))) hx hb hK hP q 2 ((cells_at γ ρ X g1).trans (by rw [cellE_arrZ γ ρ X g2])) rfl rfl hd (hκ _ _ _ _ hg H locs ls hP hS hl)
      · exact va_alen (x := ((shp q).2, .inr (.inr (.inr (.inr (fun j => some (ρ (X.2.2 j)))))))) hx hb hK hP q 3 ((cells_at γ ρ X g1).trans (by rw [cellE_arrR γ ρ X g2])) rfl rfl hd (hκ _ _ _ _ hg H locs ls hP hS hl)
    split at hg
    next => exact nor hg
    next xs =>
      split at hg
      next hq =>
        obtain ⟨a1, a2, a3⟩ := hscr xs rfl
        subst hq
        exact va_slen hx hb a1 a2 a3 hS hd (hκ _ _ _ _ hg H locs ls hP hS hl)
      next => exact nor hg
  case invokevirtual i =>
    obtain rfl : len = 3 := by simpa using he
    obtain ⟨n, ci, C, As, r, hm, rfl, h1, h2, h3, h4⟩ := xcall_e h
    exact hcalls _ hm p e s m args below meth c γ ρ A kc ks Q hfix hK hN hρ hcap pc As r X _ h1 h3 h4 h2 hd H locs ls hP hS hl.1 (fun v X1 H1 locs1 k1 k2 k3 => hκ _ _ _ _ k1 H1 locs1 ls k2 k3 hl)
  case invokestatic i =>
    obtain rfl : len = 3 := by simpa using he
    obtain ⟨n, ci, C, As, r, hm, rfl, h1, h2, h3, h4⟩ := xcall_e h
    exact hcalls _ hm p e s m args below meth c γ ρ A kc ks Q hfix hK hN hρ hcap pc As r X _ h1 h3 h4 h2 hd H locs ls hP hS hl.1 (fun v X1 H1 locs1 k1 k2 k3 => hκ _ _ _ _ k1 H1 locs1 ls k2 k3 hl)
  all_goals (obtain rfl : len = 1 := by simpa using he)
  all_goals exact hret _ _ _ _ _ _ _ hd h hP hS
end SOUND2
end
section
/-! Rows of the abstract machine, and its runs. -/
section RUN
def xIg (lv : List (Nat × Value)) (a : Nat) (f : Int32 → Prop) : Prop := xI (lget lv a) f
def xLg (lv : List (Nat × Value)) (a : Nat) (f : Int64 → Prop) : Prop := xL (lget lv a) f
def xRg (lv : List (Nat × Value)) (a : Nat) (f : Nat → Prop) : Prop := xR (lget lv a) f
def lrmK (i : Nat) (two : Bool) (lv : List (Nat × Value)) (f : List (Nat × Value) → Prop) : Prop := f (lrm i two lv)
def lsto (i : Nat) (v : Value) (two : Bool) (lv : List (Nat × Value)) (f : List (Nat × Value) → Prop) : Prop := f ((i, v) :: lrm i two lv)
def gfK (X : XT) (c k j : Nat) (f : Value → Prop) : Prop := f (fvA X c k j)
theorem xIg_c (j a : Nat) (u : Value) (r : List (Nat × Value)) (f : Int32 → Prop) : xIg ((j, u) :: r) a f = if j = a then xI (some u) f else xIg r a f := by
  unfold xIg
  show xI (if j = a then some u else lget r a) f = _
  split <;> rfl
theorem xLg_c (j a : Nat) (u : Value) (r : List (Nat × Value)) (f : Int64 → Prop) : xLg ((j, u) :: r) a f = if j = a then xL (some u) f else xLg r a f := by
  unfold xLg
  show xL (if j = a then some u else lget r a) f = _
  split <;> rfl
theorem xRg_c (j a : Nat) (u : Value) (r : List (Nat × Value)) (f : Nat → Prop) : xRg ((j, u) :: r) a f = if j = a then xR (some u) f else xRg r a f := by
  unfold xRg
  show xR (if j = a then some u else lget r a) f = _
  split <;> rfl
theorem lsto_e (i : Nat) (v : Value) (two : Bool) (lv : List (Nat × Value)) (f : List (Nat × Value) → Prop) : lsto i v two lv f = lrmK i two lv (fun l => f ((i, v) :: l)) := (rfl)
theorem lrmK_n (i : Nat) (two : Bool) (f : List (Nat × Value) → Prop) : lrmK i two [] f = f [] := (rfl)
theorem lrmK_f (i j : Nat) (u : Value) (r : List (Nat × Value)) (f : List (Nat × Value) → Prop) : lrmK i false ((j, u) :: r) f = if j = i then lrmK i false r f else if j + 1 = i ∧ u.category = 2 then lrmK i false r f else lrmK i false r (fun l => f ((j, u) :: l)) := by
  show f (lrm i false ((j, u) :: r)) = _
  unfold lrmK
  have e : lrm i false ((j, u) :: r) = if j = i then lrm i false r else if false = true ∧ j = i + 1 then lrm i false r else if j + 1 = i ∧ u.category = 2 then lrm i false r else (j, u) :: lrm i false r := rfl
  rw [e, if_neg (show ¬ (false = true ∧ j = i + 1) from fun z => by cases z.1)]
  split
  · rfl
  · split <;> rfl
theorem lrmK_t (i j : Nat) (u : Value) (r : List (Nat × Value)) (f : List (Nat × Value) → Prop) : lrmK i true ((j, u) :: r) f = if j = i then lrmK i true r f else if j = i + 1 then lrmK i true r f else if j + 1 = i ∧ u.category = 2 then lrmK i true r f else lrmK i true r (fun l => f ((j, u) :: l)) := by
  show f (lrm i true ((j, u) :: r)) = _
  unfold lrmK
  have e : lrm i true ((j, u) :: r) = if j = i then lrm i true r else if true = true ∧ j = i + 1 then lrm i true r else if j + 1 = i ∧ u.category = 2 then lrm i true r else (j, u) :: lrm i true r := rfl
  rw [e]
  by_cases h1 : j = i
  · simp [h1]
  · by_cases h2 : j = i + 1
    · simp [h2]
    · by_cases h3 : j + 1 = i ∧ u.category = 2 <;> simp [h1, h2, h3]
theorem ex_iload (rt : Nat) (calls : List CE) (sc : Option (Nat → Int32)) (L : Nat) (post : Option Value → XT → Prop) (len a b : Nat) (k : Int32) (w : Int64) (pc : Nat) (lv : List (Nat × Value)) (st : List Value) (X : XT) (κ : KT) (i : Nat) : exec rt calls sc L post (.iload i, len, a, b, k, w) pc lv st X κ = (xIg lv a fun x => κ (pc + 2) lv (.int x :: st) X) := (rfl)
theorem ex_iload_n (rt : Nat) (calls : List CE) (sc : Option (Nat → Int32)) (L : Nat) (post : Option Value → XT → Prop) (len a b : Nat) (k : Int32) (w : Int64) (pc : Nat) (lv : List (Nat × Value)) (st : List Value) (X : XT) (κ : KT) (i : Fin 4) : exec rt calls sc L post (.iload_n i, len, a, b, k, w) pc lv st X κ = (xIg lv a fun x => κ (pc + 1) lv (.int x :: st) X) := (rfl)
theorem ex_lload (rt : Nat) (calls : List CE) (sc : Option (Nat → Int32)) (L : Nat) (post : Option Value → XT → Prop) (len a b : Nat) (k : Int32) (w : Int64) (pc : Nat) (lv : List (Nat × Value)) (st : List Value) (X : XT) (κ : KT) (i : Nat) : exec rt calls sc L post (.lload i, len, a, b, k, w) pc lv st X κ = (xLg lv a fun x => κ (pc + 2) lv (.long x :: st) X) := (rfl)
theorem ex_lload_n (rt : Nat) (calls : List CE) (sc : Option (Nat → Int32)) (L : Nat) (post : Option Value → XT → Prop) (len a b : Nat) (k : Int32) (w : Int64) (pc : Nat) (lv : List (Nat × Value)) (st : List Value) (X : XT) (κ : KT) (i : Fin 4) : exec rt calls sc L post (.lload_n i, len, a, b, k, w) pc lv st X κ = (xLg lv a fun x => κ (pc + 1) lv (.long x :: st) X) := (rfl)
theorem ex_aload (rt : Nat) (calls : List CE) (sc : Option (Nat → Int32)) (L : Nat) (post : Option Value → XT → Prop) (len a b : Nat) (k : Int32) (w : Int64) (pc : Nat) (lv : List (Nat × Value)) (st : List Value) (X : XT) (κ : KT) (i : Nat) : exec rt calls sc L post (.aload i, len, a, b, k, w) pc lv st X κ = (xRg lv a fun x => κ (pc + 2) lv (.ref x :: st) X) := (rfl)
theorem ex_aload_n (rt : Nat) (calls : List CE) (sc : Option (Nat → Int32)) (L : Nat) (post : Option Value → XT → Prop) (len a b : Nat) (k : Int32) (w : Int64) (pc : Nat) (lv : List (Nat × Value)) (st : List Value) (X : XT) (κ : KT) (i : Fin 4) : exec rt calls sc L post (.aload_n i, len, a, b, k, w) pc lv st X κ = (xRg lv a fun x => κ (pc + 1) lv (.ref x :: st) X) := (rfl)
theorem ex_istore (rt : Nat) (calls : List CE) (sc : Option (Nat → Int32)) (L : Nat) (post : Option Value → XT → Prop) (len a b : Nat) (k : Int32) (w : Int64) (pc : Nat) (lv : List (Nat × Value)) (st : List Value) (X : XT) (κ : KT) (i : Nat) : exec rt calls sc L post (.istore i, len, a, b, k, w) pc lv st X κ = (s1I st fun x r => lsto a (.int x) false lv fun lv1 => κ (pc + 2) lv1 r X) := (rfl)
theorem ex_istore_n (rt : Nat) (calls : List CE) (sc : Option (Nat → Int32)) (L : Nat) (post : Option Value → XT → Prop) (len a b : Nat) (k : Int32) (w : Int64) (pc : Nat) (lv : List (Nat × Value)) (st : List Value) (X : XT) (κ : KT) (i : Fin 4) : exec rt calls sc L post (.istore_n i, len, a, b, k, w) pc lv st X κ = (s1I st fun x r => lsto a (.int x) false lv fun lv1 => κ (pc + 1) lv1 r X) := (rfl)
theorem ex_lstore (rt : Nat) (calls : List CE) (sc : Option (Nat → Int32)) (L : Nat) (post : Option Value → XT → Prop) (len a b : Nat) (k : Int32) (w : Int64) (pc : Nat) (lv : List (Nat × Value)) (st : List Value) (X : XT) (κ : KT) (i : Nat) : exec rt calls sc L post (.lstore i, len, a, b, k, w) pc lv st X κ = (s1L st fun x r => lsto a (.long x) true lv fun lv1 => κ (pc + 2) lv1 r X) := (rfl)
theorem ex_lstore_n (rt : Nat) (calls : List CE) (sc : Option (Nat → Int32)) (L : Nat) (post : Option Value → XT → Prop) (len a b : Nat) (k : Int32) (w : Int64) (pc : Nat) (lv : List (Nat × Value)) (st : List Value) (X : XT) (κ : KT) (i : Fin 4) : exec rt calls sc L post (.lstore_n i, len, a, b, k, w) pc lv st X κ = (s1L st fun x r => lsto a (.long x) true lv fun lv1 => κ (pc + 1) lv1 r X) := (rfl)
theorem ex_astore (rt : Nat) (calls : List CE) (sc : Option (Nat → Int32)) (L : Nat) (post : Option Value → XT → Prop) (len a b : Nat) (k : Int32) (w : Int64) (pc : Nat) (lv : List (Nat × Value)) (st : List Value) (X : XT) (κ : KT) (i : Nat) : exec rt calls sc L post (.astore i, len, a, b, k, w) pc lv st X κ = (s1R st fun x r => lsto a (.ref x) false lv fun lv1 => κ (pc + 2) lv1 r X) := (rfl)
theorem ex_astore_n (rt : Nat) (calls : List CE) (sc : Option (Nat → Int32)) (L : Nat) (post : Option Value → XT → Prop) (len a b : Nat) (k : Int32) (w : Int64) (pc : Nat) (lv : List (Nat × Value)) (st : List Value) (X : XT) (κ : KT) (i : Fin 4) : exec rt calls sc L post (.astore_n i, len, a, b, k, w) pc lv st X κ = (s1R st fun x r => lsto a (.ref x) false lv fun lv1 => κ (pc + 1) lv1 r X) := (rfl)
theorem ex_iinc (rt : Nat) (calls : List CE) (sc : Option (Nat → Int32)) (L : Nat) (post : Option Value → XT → Prop) (len a b : Nat) (k : Int32) (w : Int64) (pc : Nat) (lv : List (Nat × Value)) (st : List Value) (X : XT) (κ : KT) (i : Nat) (n : Int) : exec rt calls sc L post (.iinc i n, len, a, b, k, w) pc lv st X κ = (xIg lv a fun x => lsto a (.int (x + k)) false lv fun lv1 => κ (pc + 3) lv1 st X) := (rfl)
theorem ex_iconst (rt : Nat) (calls : List CE) (sc : Option (Nat → Int32)) (L : Nat) (post : Option Value → XT → Prop) (len a b : Nat) (k : Int32) (w : Int64) (pc : Nat) (lv : List (Nat × Value)) (st : List Value) (X : XT) (κ : KT) (n : Int) : exec rt calls sc L post (.iconst n, len, a, b, k, w) pc lv st X κ = (κ (pc + 1) lv (.int k :: st) X) := (rfl)
theorem ex_bipush (rt : Nat) (calls : List CE) (sc : Option (Nat → Int32)) (L : Nat) (post : Option Value → XT → Prop) (len a b : Nat) (k : Int32) (w : Int64) (pc : Nat) (lv : List (Nat × Value)) (st : List Value) (X : XT) (κ : KT) (n : Int) : exec rt calls sc L post (.bipush n, len, a, b, k, w) pc lv st X κ = (κ (pc + 2) lv (.int k :: st) X) := (rfl)
theorem ex_sipush (rt : Nat) (calls : List CE) (sc : Option (Nat → Int32)) (L : Nat) (post : Option Value → XT → Prop) (len a b : Nat) (k : Int32) (w : Int64) (pc : Nat) (lv : List (Nat × Value)) (st : List Value) (X : XT) (κ : KT) (n : Int) : exec rt calls sc L post (.sipush n, len, a, b, k, w) pc lv st X κ = (κ (pc + 3) lv (.int k :: st) X) := (rfl)
theorem ex_ldc (rt : Nat) (calls : List CE) (sc : Option (Nat → Int32)) (L : Nat) (post : Option Value → XT → Prop) (len a b : Nat) (k : Int32) (w : Int64) (pc : Nat) (lv : List (Nat × Value)) (st : List Value) (X : XT) (κ : KT) (i : Nat) : exec rt calls sc L post (.ldc i, len, a, b, k, w) pc lv st X κ = (κ (pc + 2) lv (.int k :: st) X) := (rfl)
theorem ex_lconst (rt : Nat) (calls : List CE) (sc : Option (Nat → Int32)) (L : Nat) (post : Option Value → XT → Prop) (len a b : Nat) (k : Int32) (w : Int64) (pc : Nat) (lv : List (Nat × Value)) (st : List Value) (X : XT) (κ : KT) (n : Fin 2) : exec rt calls sc L post (.lconst n, len, a, b, k, w) pc lv st X κ = (κ (pc + 1) lv (.long w :: st) X) := (rfl)
theorem ex_ldc2_w (rt : Nat) (calls : List CE) (sc : Option (Nat → Int32)) (L : Nat) (post : Option Value → XT → Prop) (len a b : Nat) (k : Int32) (w : Int64) (pc : Nat) (lv : List (Nat × Value)) (st : List Value) (X : XT) (κ : KT) (i : Nat) : exec rt calls sc L post (.ldc2_w i, len, a, b, k, w) pc lv st X κ = (κ (pc + 3) lv (.long w :: st) X) := (rfl)
theorem ex_iadd (rt : Nat) (calls : List CE) (sc : Option (Nat → Int32)) (L : Nat) (post : Option Value → XT → Prop) (len a b : Nat) (k : Int32) (w : Int64) (pc : Nat) (lv : List (Nat × Value)) (st : List Value) (X : XT) (κ : KT)  : exec rt calls sc L post (.iadd, len, a, b, k, w) pc lv st X κ = (s2I st fun x y r => κ (pc + 1) lv (.int (x + y) :: r) X) := (rfl)
theorem ex_isub (rt : Nat) (calls : List CE) (sc : Option (Nat → Int32)) (L : Nat) (post : Option Value → XT → Prop) (len a b : Nat) (k : Int32) (w : Int64) (pc : Nat) (lv : List (Nat × Value)) (st : List Value) (X : XT) (κ : KT)  : exec rt calls sc L post (.isub, len, a, b, k, w) pc lv st X κ = (s2I st fun x y r => κ (pc + 1) lv (.int (x - y) :: r) X) := (rfl)
theorem ex_imul (rt : Nat) (calls : List CE) (sc : Option (Nat → Int32)) (L : Nat) (post : Option Value → XT → Prop) (len a b : Nat) (k : Int32) (w : Int64) (pc : Nat) (lv : List (Nat × Value)) (st : List Value) (X : XT) (κ : KT)  : exec rt calls sc L post (.imul, len, a, b, k, w) pc lv st X κ = (s2I st fun x y r => κ (pc + 1) lv (.int (x * y) :: r) X) := (rfl)
theorem ex_iand (rt : Nat) (calls : List CE) (sc : Option (Nat → Int32)) (L : Nat) (post : Option Value → XT → Prop) (len a b : Nat) (k : Int32) (w : Int64) (pc : Nat) (lv : List (Nat × Value)) (st : List Value) (X : XT) (κ : KT)  : exec rt calls sc L post (.iand, len, a, b, k, w) pc lv st X κ = (s2I st fun x y r => κ (pc + 1) lv (.int (x &&& y) :: r) X) := (rfl)
theorem ex_ior (rt : Nat) (calls : List CE) (sc : Option (Nat → Int32)) (L : Nat) (post : Option Value → XT → Prop) (len a b : Nat) (k : Int32) (w : Int64) (pc : Nat) (lv : List (Nat × Value)) (st : List Value) (X : XT) (κ : KT)  : exec rt calls sc L post (.ior, len, a, b, k, w) pc lv st X κ = (s2I st fun x y r => κ (pc + 1) lv (.int (x ||| y) :: r) X) := (rfl)
theorem ex_ishl (rt : Nat) (calls : List CE) (sc : Option (Nat → Int32)) (L : Nat) (post : Option Value → XT → Prop) (len a b : Nat) (k : Int32) (w : Int64) (pc : Nat) (lv : List (Nat × Value)) (st : List Value) (X : XT) (κ : KT)  : exec rt calls sc L post (.ishl, len, a, b, k, w) pc lv st X κ = (s2I st fun x y r => κ (pc + 1) lv (.int (x <<< (y &&& 31)) :: r) X) := (rfl)
theorem ex_ishr (rt : Nat) (calls : List CE) (sc : Option (Nat → Int32)) (L : Nat) (post : Option Value → XT → Prop) (len a b : Nat) (k : Int32) (w : Int64) (pc : Nat) (lv : List (Nat × Value)) (st : List Value) (X : XT) (κ : KT)  : exec rt calls sc L post (.ishr, len, a, b, k, w) pc lv st X κ = (s2I st fun x y r => κ (pc + 1) lv (.int (x >>> (y &&& 31)) :: r) X) := (rfl)
theorem ex_iushr (rt : Nat) (calls : List CE) (sc : Option (Nat → Int32)) (L : Nat) (post : Option Value → XT → Prop) (len a b : Nat) (k : Int32) (w : Int64) (pc : Nat) (lv : List (Nat × Value)) (st : List Value) (X : XT) (κ : KT)  : exec rt calls sc L post (.iushr, len, a, b, k, w) pc lv st X κ = (s2I st fun x y r => κ (pc + 1) lv (.int (x.toUInt32 >>> (y.toUInt32 &&& Int32.toUInt32 31)).toInt32 :: r) X) := (rfl)
theorem ex_idiv (rt : Nat) (calls : List CE) (sc : Option (Nat → Int32)) (L : Nat) (post : Option Value → XT → Prop) (len a b : Nat) (k : Int32) (w : Int64) (pc : Nat) (lv : List (Nat × Value)) (st : List Value) (X : XT) (κ : KT)  : exec rt calls sc L post (.idiv, len, a, b, k, w) pc lv st X κ = (s2I st fun x y r => ¬ y = 0 ∧ κ (pc + 1) lv (.int (x / y) :: r) X) := (rfl)
theorem ex_irem (rt : Nat) (calls : List CE) (sc : Option (Nat → Int32)) (L : Nat) (post : Option Value → XT → Prop) (len a b : Nat) (k : Int32) (w : Int64) (pc : Nat) (lv : List (Nat × Value)) (st : List Value) (X : XT) (κ : KT)  : exec rt calls sc L post (.irem, len, a, b, k, w) pc lv st X κ = (s2I st fun x y r => ¬ y = 0 ∧ κ (pc + 1) lv (.int (x - x / y * y) :: r) X) := (rfl)
theorem ex_ladd (rt : Nat) (calls : List CE) (sc : Option (Nat → Int32)) (L : Nat) (post : Option Value → XT → Prop) (len a b : Nat) (k : Int32) (w : Int64) (pc : Nat) (lv : List (Nat × Value)) (st : List Value) (X : XT) (κ : KT)  : exec rt calls sc L post (.ladd, len, a, b, k, w) pc lv st X κ = (s2L st fun x y r => κ (pc + 1) lv (.long (x + y) :: r) X) := (rfl)
theorem ex_lsub (rt : Nat) (calls : List CE) (sc : Option (Nat → Int32)) (L : Nat) (post : Option Value → XT → Prop) (len a b : Nat) (k : Int32) (w : Int64) (pc : Nat) (lv : List (Nat × Value)) (st : List Value) (X : XT) (κ : KT)  : exec rt calls sc L post (.lsub, len, a, b, k, w) pc lv st X κ = (s2L st fun x y r => κ (pc + 1) lv (.long (x - y) :: r) X) := (rfl)
theorem ex_lmul (rt : Nat) (calls : List CE) (sc : Option (Nat → Int32)) (L : Nat) (post : Option Value → XT → Prop) (len a b : Nat) (k : Int32) (w : Int64) (pc : Nat) (lv : List (Nat × Value)) (st : List Value) (X : XT) (κ : KT)  : exec rt calls sc L post (.lmul, len, a, b, k, w) pc lv st X κ = (s2L st fun x y r => κ (pc + 1) lv (.long (x * y) :: r) X) := (rfl)
theorem ex_land (rt : Nat) (calls : List CE) (sc : Option (Nat → Int32)) (L : Nat) (post : Option Value → XT → Prop) (len a b : Nat) (k : Int32) (w : Int64) (pc : Nat) (lv : List (Nat × Value)) (st : List Value) (X : XT) (κ : KT)  : exec rt calls sc L post (.land, len, a, b, k, w) pc lv st X κ = (s2L st fun x y r => κ (pc + 1) lv (.long (x &&& y) :: r) X) := (rfl)
theorem ex_lor (rt : Nat) (calls : List CE) (sc : Option (Nat → Int32)) (L : Nat) (post : Option Value → XT → Prop) (len a b : Nat) (k : Int32) (w : Int64) (pc : Nat) (lv : List (Nat × Value)) (st : List Value) (X : XT) (κ : KT)  : exec rt calls sc L post (.lor, len, a, b, k, w) pc lv st X κ = (s2L st fun x y r => κ (pc + 1) lv (.long (x ||| y) :: r) X) := (rfl)
theorem ex_ldiv (rt : Nat) (calls : List CE) (sc : Option (Nat → Int32)) (L : Nat) (post : Option Value → XT → Prop) (len a b : Nat) (k : Int32) (w : Int64) (pc : Nat) (lv : List (Nat × Value)) (st : List Value) (X : XT) (κ : KT)  : exec rt calls sc L post (.ldiv, len, a, b, k, w) pc lv st X κ = (s2L st fun x y r => ¬ y = 0 ∧ κ (pc + 1) lv (.long (x / y) :: r) X) := (rfl)
theorem ex_lcmp (rt : Nat) (calls : List CE) (sc : Option (Nat → Int32)) (L : Nat) (post : Option Value → XT → Prop) (len a b : Nat) (k : Int32) (w : Int64) (pc : Nat) (lv : List (Nat × Value)) (st : List Value) (X : XT) (κ : KT)  : exec rt calls sc L post (.lcmp, len, a, b, k, w) pc lv st X κ = (s2L st fun x y r => κ (pc + 1) lv (.int (lg_cmp x y) :: r) X) := (rfl)
theorem ex_lshl (rt : Nat) (calls : List CE) (sc : Option (Nat → Int32)) (L : Nat) (post : Option Value → XT → Prop) (len a b : Nat) (k : Int32) (w : Int64) (pc : Nat) (lv : List (Nat × Value)) (st : List Value) (X : XT) (κ : KT)  : exec rt calls sc L post (.lshl, len, a, b, k, w) pc lv st X κ = (sLI st fun x y r => κ (pc + 1) lv (.long (x <<< (y.toInt64 &&& 63)) :: r) X) := (rfl)
theorem ex_lushr (rt : Nat) (calls : List CE) (sc : Option (Nat → Int32)) (L : Nat) (post : Option Value → XT → Prop) (len a b : Nat) (k : Int32) (w : Int64) (pc : Nat) (lv : List (Nat × Value)) (st : List Value) (X : XT) (κ : KT)  : exec rt calls sc L post (.lushr, len, a, b, k, w) pc lv st X κ = (sLI st fun x y r => κ (pc + 1) lv (.long (x.toUInt64 >>> (y.toInt64.toUInt64 &&& Int64.toUInt64 63)).toInt64 :: r) X) := (rfl)
theorem ex_i2l (rt : Nat) (calls : List CE) (sc : Option (Nat → Int32)) (L : Nat) (post : Option Value → XT → Prop) (len a b : Nat) (k : Int32) (w : Int64) (pc : Nat) (lv : List (Nat × Value)) (st : List Value) (X : XT) (κ : KT)  : exec rt calls sc L post (.i2l, len, a, b, k, w) pc lv st X κ = (s1I st fun x r => κ (pc + 1) lv (.long x.toInt64 :: r) X) := (rfl)
theorem ex_l2i (rt : Nat) (calls : List CE) (sc : Option (Nat → Int32)) (L : Nat) (post : Option Value → XT → Prop) (len a b : Nat) (k : Int32) (w : Int64) (pc : Nat) (lv : List (Nat × Value)) (st : List Value) (X : XT) (κ : KT)  : exec rt calls sc L post (.l2i, len, a, b, k, w) pc lv st X κ = (s1L st fun x r => κ (pc + 1) lv (.int x.toInt32 :: r) X) := (rfl)
theorem ex_ifCond_eq (rt : Nat) (calls : List CE) (sc : Option (Nat → Int32)) (L : Nat) (post : Option Value → XT → Prop) (len a b : Nat) (k : Int32) (w : Int64) (pc : Nat) (lv : List (Nat × Value)) (st : List Value) (X : XT) (κ : KT) (o : Int) : exec rt calls sc L post (.ifCond .eq o, len, a, b, k, w) pc lv st X κ = (s1I st fun x r => (x = 0 → κ a lv r X) ∧ (¬ x = 0 → κ (pc + 3) lv r X)) := (rfl)
theorem ex_ifCond_ne (rt : Nat) (calls : List CE) (sc : Option (Nat → Int32)) (L : Nat) (post : Option Value → XT → Prop) (len a b : Nat) (k : Int32) (w : Int64) (pc : Nat) (lv : List (Nat × Value)) (st : List Value) (X : XT) (κ : KT) (o : Int) : exec rt calls sc L post (.ifCond .ne o, len, a, b, k, w) pc lv st X κ = (s1I st fun x r => (¬ x = 0 → κ a lv r X) ∧ (x = 0 → κ (pc + 3) lv r X)) := (rfl)
theorem ex_ifCond_lt (rt : Nat) (calls : List CE) (sc : Option (Nat → Int32)) (L : Nat) (post : Option Value → XT → Prop) (len a b : Nat) (k : Int32) (w : Int64) (pc : Nat) (lv : List (Nat × Value)) (st : List Value) (X : XT) (κ : KT) (o : Int) : exec rt calls sc L post (.ifCond .lt o, len, a, b, k, w) pc lv st X κ = (s1I st fun x r => (x < 0 → κ a lv r X) ∧ (¬ x < 0 → κ (pc + 3) lv r X)) := (rfl)
theorem ex_ifCond_ge (rt : Nat) (calls : List CE) (sc : Option (Nat → Int32)) (L : Nat) (post : Option Value → XT → Prop) (len a b : Nat) (k : Int32) (w : Int64) (pc : Nat) (lv : List (Nat × Value)) (st : List Value) (X : XT) (κ : KT) (o : Int) : exec rt calls sc L post (.ifCond .ge o, len, a, b, k, w) pc lv st X κ = (s1I st fun x r => (0 ≤ x → κ a lv r X) ∧ (¬ 0 ≤ x → κ (pc + 3) lv r X)) := (rfl)
theorem ex_ifCond_gt (rt : Nat) (calls : List CE) (sc : Option (Nat → Int32)) (L : Nat) (post : Option Value → XT → Prop) (len a b : Nat) (k : Int32) (w : Int64) (pc : Nat) (lv : List (Nat × Value)) (st : List Value) (X : XT) (κ : KT) (o : Int) : exec rt calls sc L post (.ifCond .gt o, len, a, b, k, w) pc lv st X κ = (s1I st fun x r => (0 < x → κ a lv r X) ∧ (¬ 0 < x → κ (pc + 3) lv r X)) := (rfl)
theorem ex_ifCond_le (rt : Nat) (calls : List CE) (sc : Option (Nat → Int32)) (L : Nat) (post : Option Value → XT → Prop) (len a b : Nat) (k : Int32) (w : Int64) (pc : Nat) (lv : List (Nat × Value)) (st : List Value) (X : XT) (κ : KT) (o : Int) : exec rt calls sc L post (.ifCond .le o, len, a, b, k, w) pc lv st X κ = (s1I st fun x r => (x ≤ 0 → κ a lv r X) ∧ (¬ x ≤ 0 → κ (pc + 3) lv r X)) := (rfl)
theorem ex_if_icmp_eq (rt : Nat) (calls : List CE) (sc : Option (Nat → Int32)) (L : Nat) (post : Option Value → XT → Prop) (len a b : Nat) (k : Int32) (w : Int64) (pc : Nat) (lv : List (Nat × Value)) (st : List Value) (X : XT) (κ : KT) (o : Int) : exec rt calls sc L post (.if_icmp .eq o, len, a, b, k, w) pc lv st X κ = (s2I st fun x y r => (x = y → κ a lv r X) ∧ (¬ x = y → κ (pc + 3) lv r X)) := (rfl)
theorem ex_if_icmp_ne (rt : Nat) (calls : List CE) (sc : Option (Nat → Int32)) (L : Nat) (post : Option Value → XT → Prop) (len a b : Nat) (k : Int32) (w : Int64) (pc : Nat) (lv : List (Nat × Value)) (st : List Value) (X : XT) (κ : KT) (o : Int) : exec rt calls sc L post (.if_icmp .ne o, len, a, b, k, w) pc lv st X κ = (s2I st fun x y r => (¬ x = y → κ a lv r X) ∧ (x = y → κ (pc + 3) lv r X)) := (rfl)
theorem ex_if_icmp_lt (rt : Nat) (calls : List CE) (sc : Option (Nat → Int32)) (L : Nat) (post : Option Value → XT → Prop) (len a b : Nat) (k : Int32) (w : Int64) (pc : Nat) (lv : List (Nat × Value)) (st : List Value) (X : XT) (κ : KT) (o : Int) : exec rt calls sc L post (.if_icmp .lt o, len, a, b, k, w) pc lv st X κ = (s2I st fun x y r => (x < y → κ a lv r X) ∧ (¬ x < y → κ (pc + 3) lv r X)) := (rfl)
theorem ex_if_icmp_ge (rt : Nat) (calls : List CE) (sc : Option (Nat → Int32)) (L : Nat) (post : Option Value → XT → Prop) (len a b : Nat) (k : Int32) (w : Int64) (pc : Nat) (lv : List (Nat × Value)) (st : List Value) (X : XT) (κ : KT) (o : Int) : exec rt calls sc L post (.if_icmp .ge o, len, a, b, k, w) pc lv st X κ = (s2I st fun x y r => (y ≤ x → κ a lv r X) ∧ (¬ y ≤ x → κ (pc + 3) lv r X)) := (rfl)
theorem ex_if_icmp_gt (rt : Nat) (calls : List CE) (sc : Option (Nat → Int32)) (L : Nat) (post : Option Value → XT → Prop) (len a b : Nat) (k : Int32) (w : Int64) (pc : Nat) (lv : List (Nat × Value)) (st : List Value) (X : XT) (κ : KT) (o : Int) : exec rt calls sc L post (.if_icmp .gt o, len, a, b, k, w) pc lv st X κ = (s2I st fun x y r => (y < x → κ a lv r X) ∧ (¬ y < x → κ (pc + 3) lv r X)) := (rfl)
theorem ex_if_icmp_le (rt : Nat) (calls : List CE) (sc : Option (Nat → Int32)) (L : Nat) (post : Option Value → XT → Prop) (len a b : Nat) (k : Int32) (w : Int64) (pc : Nat) (lv : List (Nat × Value)) (st : List Value) (X : XT) (κ : KT) (o : Int) : exec rt calls sc L post (.if_icmp .le o, len, a, b, k, w) pc lv st X κ = (s2I st fun x y r => (x ≤ y → κ a lv r X) ∧ (¬ x ≤ y → κ (pc + 3) lv r X)) := (rfl)
theorem ex_goto (rt : Nat) (calls : List CE) (sc : Option (Nat → Int32)) (L : Nat) (post : Option Value → XT → Prop) (len a b : Nat) (k : Int32) (w : Int64) (pc : Nat) (lv : List (Nat × Value)) (st : List Value) (X : XT) (κ : KT) (o : Int) : exec rt calls sc L post (.goto o, len, a, b, k, w) pc lv st X κ = (κ a lv st X) := (rfl)
theorem ex_tableswitch (rt : Nat) (calls : List CE) (sc : Option (Nat → Int32)) (L : Nat) (post : Option Value → XT → Prop) (len a b : Nat) (k : Int32) (w : Int64) (pc : Nat) (lv : List (Nat × Value)) (st : List Value) (X : XT) (κ : KT) (d lo hi : Int) (offs : Array Int) : exec rt calls sc L post (.tableswitch d lo hi offs, len, a, b, k, w) pc lv st X κ = (s1I st fun x r => κ (tsw pc d lo hi offs x) lv r X) := (rfl)
theorem ex_getfield (rt : Nat) (calls : List CE) (sc : Option (Nat → Int32)) (L : Nat) (post : Option Value → XT → Prop) (len a b : Nat) (k : Int32) (w : Int64) (pc : Nat) (lv : List (Nat × Value)) (st : List Value) (X : XT) (κ : KT) (i : Nat) : exec rt calls sc L post (.getfield i, len, a, b, k, w) pc lv st X κ = (s1R st fun q r => (q < NC ∧ (shp q).1 = a) ∧ gfK X a q b fun v => κ (pc + 3) lv (v :: r) X) := (rfl)
theorem ex_putfield (rt : Nat) (calls : List CE) (sc : Option (Nat → Int32)) (L : Nat) (post : Option Value → XT → Prop) (len a b : Nat) (k : Int32) (w : Int64) (pc : Nat) (lv : List (Nat × Value)) (st : List Value) (X : XT) (κ : KT) (i : Nat) : exec rt calls sc L post (.putfield i, len, a, b, k, w) pc lv st X κ = (pfA X a b st fun r X' => κ (pc + 3) lv r X') := (rfl)
theorem ex_iaload (rt : Nat) (calls : List CE) (sc : Option (Nat → Int32)) (L : Nat) (post : Option Value → XT → Prop) (len a b : Nat) (k : Int32) (w : Int64) (pc : Nat) (lv : List (Nat × Value)) (st : List Value) (X : XT) (κ : KT)  : exec rt calls sc L post (.iaload, len, a, b, k, w) pc lv st X κ = (sRI st fun q i r => scrR sc L q i (fun x => κ (pc + 1) lv (.int x :: r) X) ((q < NC ∧ (shp q).1 = 5 ∧ vp_in i (shp q).2) ∧ κ (pc + 1) lv (.int (X.1 q i.toNatClampNeg) :: r) X)) := (rfl)
theorem ex_baload (rt : Nat) (calls : List CE) (sc : Option (Nat → Int32)) (L : Nat) (post : Option Value → XT → Prop) (len a b : Nat) (k : Int32) (w : Int64) (pc : Nat) (lv : List (Nat × Value)) (st : List Value) (X : XT) (κ : KT)  : exec rt calls sc L post (.baload, len, a, b, k, w) pc lv st X κ = (sRI st fun q i r => (q < NC ∧ (shp q).1 = 7 ∧ vp_in i (shp q).2) ∧ κ (pc + 1) lv (.int (X.1 q i.toNatClampNeg) :: r) X) := (rfl)
theorem ex_laload (rt : Nat) (calls : List CE) (sc : Option (Nat → Int32)) (L : Nat) (post : Option Value → XT → Prop) (len a b : Nat) (k : Int32) (w : Int64) (pc : Nat) (lv : List (Nat × Value)) (st : List Value) (X : XT) (κ : KT)  : exec rt calls sc L post (.laload, len, a, b, k, w) pc lv st X κ = (sRI st fun q i r => (q < NC ∧ (shp q).1 = 6 ∧ vp_in i (shp q).2) ∧ κ (pc + 1) lv (.long (X.2.1 q i.toNatClampNeg) :: r) X) := (rfl)
theorem ex_aaload (rt : Nat) (calls : List CE) (sc : Option (Nat → Int32)) (L : Nat) (post : Option Value → XT → Prop) (len a b : Nat) (k : Int32) (w : Int64) (pc : Nat) (lv : List (Nat × Value)) (st : List Value) (X : XT) (κ : KT)  : exec rt calls sc L post (.aaload, len, a, b, k, w) pc lv st X κ = (sRI st fun q i r => (q < NC ∧ (shp q).1 = 8 ∧ vp_in i (shp q).2) ∧ κ (pc + 1) lv (.ref (X.2.2 i.toNatClampNeg) :: r) X) := (rfl)
theorem ex_iastore (rt : Nat) (calls : List CE) (sc : Option (Nat → Int32)) (L : Nat) (post : Option Value → XT → Prop) (len a b : Nat) (k : Int32) (w : Int64) (pc : Nat) (lv : List (Nat × Value)) (st : List Value) (X : XT) (κ : KT)  : exec rt calls sc L post (.iastore, len, a, b, k, w) pc lv st X κ = (sRII st fun q i x r => (q < NC ∧ (shp q).1 = 5 ∧ vp_in i (shp q).2) ∧ κ (pc + 1) lv r (sI X q i.toNatClampNeg x)) := (rfl)
theorem ex_bastore (rt : Nat) (calls : List CE) (sc : Option (Nat → Int32)) (L : Nat) (post : Option Value → XT → Prop) (len a b : Nat) (k : Int32) (w : Int64) (pc : Nat) (lv : List (Nat × Value)) (st : List Value) (X : XT) (κ : KT)  : exec rt calls sc L post (.bastore, len, a, b, k, w) pc lv st X κ = (sRII st fun q i x r => (q < NC ∧ (shp q).1 = 7 ∧ vp_in i (shp q).2 ∧ bl x) ∧ κ (pc + 1) lv r (sI X q i.toNatClampNeg x)) := (rfl)
theorem ex_lastore (rt : Nat) (calls : List CE) (sc : Option (Nat → Int32)) (L : Nat) (post : Option Value → XT → Prop) (len a b : Nat) (k : Int32) (w : Int64) (pc : Nat) (lv : List (Nat × Value)) (st : List Value) (X : XT) (κ : KT)  : exec rt calls sc L post (.lastore, len, a, b, k, w) pc lv st X κ = (sRIL st fun q i x r => (q < NC ∧ (shp q).1 = 6 ∧ vp_in i (shp q).2) ∧ κ (pc + 1) lv r (sL X q i.toNatClampNeg x)) := (rfl)
theorem ex_aastore (rt : Nat) (calls : List CE) (sc : Option (Nat → Int32)) (L : Nat) (post : Option Value → XT → Prop) (len a b : Nat) (k : Int32) (w : Int64) (pc : Nat) (lv : List (Nat × Value)) (st : List Value) (X : XT) (κ : KT)  : exec rt calls sc L post (.aastore, len, a, b, k, w) pc lv st X κ = (sRIR st fun q i x r => (q < NC ∧ (shp q).1 = 8 ∧ vp_in i (shp q).2 ∧ x < NC ∧ (shp x).1 = 0) ∧ κ (pc + 1) lv r (sR X i.toNatClampNeg x)) := (rfl)
theorem ex_arraylength (rt : Nat) (calls : List CE) (sc : Option (Nat → Int32)) (L : Nat) (post : Option Value → XT → Prop) (len a b : Nat) (k : Int32) (w : Int64) (pc : Nat) (lv : List (Nat × Value)) (st : List Value) (X : XT) (κ : KT)  : exec rt calls sc L post (.arraylength, len, a, b, k, w) pc lv st X κ = (s1R st fun q r => scrN sc L q (fun x => κ (pc + 1) lv (.int x :: r) X) ((q < NC ∧ 5 ≤ (shp q).1 ∧ (shp q).1 ≤ 8) ∧ κ (pc + 1) lv (.int (nI (shp q).2) :: r) X)) := (rfl)
theorem ex_invokevirtual (rt : Nat) (calls : List CE) (sc : Option (Nat → Int32)) (L : Nat) (post : Option Value → XT → Prop) (len a b : Nat) (k : Int32) (w : Int64) (pc : Nat) (lv : List (Nat × Value)) (st : List Value) (X : XT) (κ : KT) (i : Nat) : exec rt calls sc L post (.invokevirtual i, len, a, b, k, w) pc lv st X κ = (xcall calls a i false st X fun r X' => κ (pc + 3) lv r X') := (rfl)
theorem ex_invokestatic (rt : Nat) (calls : List CE) (sc : Option (Nat → Int32)) (L : Nat) (post : Option Value → XT → Prop) (len a b : Nat) (k : Int32) (w : Int64) (pc : Nat) (lv : List (Nat × Value)) (st : List Value) (X : XT) (κ : KT) (i : Nat) : exec rt calls sc L post (.invokestatic i, len, a, b, k, w) pc lv st X κ = (xcall calls a i true st X fun r X' => κ (pc + 3) lv r X') := (rfl)
theorem ex_dup (rt : Nat) (calls : List CE) (sc : Option (Nat → Int32)) (L : Nat) (post : Option Value → XT → Prop) (len a b : Nat) (k : Int32) (w : Int64) (pc : Nat) (lv : List (Nat × Value)) (X : XT) (κ : KT) (v : Value) (r : List Value) : exec rt calls sc L post (.dup, len, a, b, k, w) pc lv (v :: r) X κ = (v.category = 1 ∧ κ (pc + 1) lv (v :: v :: r) X) := (rfl)
theorem ex_pop (rt : Nat) (calls : List CE) (sc : Option (Nat → Int32)) (L : Nat) (post : Option Value → XT → Prop) (len a b : Nat) (k : Int32) (w : Int64) (pc : Nat) (lv : List (Nat × Value)) (X : XT) (κ : KT) (v : Value) (r : List Value) : exec rt calls sc L post (.pop, len, a, b, k, w) pc lv (v :: r) X κ = (v.category = 1 ∧ κ (pc + 1) lv r X) := (rfl)
theorem ex_dup2 (rt : Nat) (calls : List CE) (sc : Option (Nat → Int32)) (L : Nat) (post : Option Value → XT → Prop) (len a b : Nat) (k : Int32) (w : Int64) (pc : Nat) (lv : List (Nat × Value)) (X : XT) (κ : KT) (v u : Value) (r : List Value) : exec rt calls sc L post (.dup2, len, a, b, k, w) pc lv (v :: u :: r) X κ = ((v.category = 1 ∧ u.category = 1) ∧ κ (pc + 1) lv (v :: u :: v :: u :: r) X) := (rfl)
theorem ex_ireturn (rt : Nat) (calls : List CE) (sc : Option (Nat → Int32)) (L : Nat) (post : Option Value → XT → Prop) (len a b : Nat) (k : Int32) (w : Int64) (pc : Nat) (lv : List (Nat × Value)) (st : List Value) (X : XT) (κ : KT) : exec rt calls sc L post (.ireturn, len, a, b, k, w) pc lv st X κ = retx rt post .ireturn st X := (rfl)
theorem ex_lreturn (rt : Nat) (calls : List CE) (sc : Option (Nat → Int32)) (L : Nat) (post : Option Value → XT → Prop) (len a b : Nat) (k : Int32) (w : Int64) (pc : Nat) (lv : List (Nat × Value)) (st : List Value) (X : XT) (κ : KT) : exec rt calls sc L post (.lreturn, len, a, b, k, w) pc lv st X κ = retx rt post .lreturn st X := (rfl)
theorem ex_return_ (rt : Nat) (calls : List CE) (sc : Option (Nat → Int32)) (L : Nat) (post : Option Value → XT → Prop) (len a b : Nat) (k : Int32) (w : Int64) (pc : Nat) (lv : List (Nat × Value)) (st : List Value) (X : XT) (κ : KT) : exec rt calls sc L post (.return_, len, a, b, k, w) pc lv st X κ = retx rt post .return_ st X := (rfl)
theorem xI_i (x : Int32) (κ : Int32 → Prop) : xI (some (.int x)) κ = κ x := (rfl)
theorem xL_l (x : Int64) (κ : Int64 → Prop) : xL (some (.long x)) κ = κ x := (rfl)
theorem xR_r (x : Nat) (κ : Nat → Prop) : xR (some (.ref x)) κ = κ x := (rfl)
theorem s1I_c (x : Int32) (r : List Value) (κ : Int32 → List Value → Prop) : s1I (.int x :: r) κ = κ x r := (rfl)
theorem s1L_c (x : Int64) (r : List Value) (κ : Int64 → List Value → Prop) : s1L (.long x :: r) κ = κ x r := (rfl)
theorem s1R_c (x : Nat) (r : List Value) (κ : Nat → List Value → Prop) : s1R (.ref x :: r) κ = κ x r := (rfl)
theorem s2I_c (x y : Int32) (r : List Value) (κ : Int32 → Int32 → List Value → Prop) : s2I (.int y :: .int x :: r) κ = κ x y r := (rfl)
theorem s2L_c (x y : Int64) (r : List Value) (κ : Int64 → Int64 → List Value → Prop) : s2L (.long y :: .long x :: r) κ = κ x y r := (rfl)
theorem sLI_c (x : Int64) (y : Int32) (r : List Value) (κ : Int64 → Int32 → List Value → Prop) : sLI (.int y :: .long x :: r) κ = κ x y r := (rfl)
theorem sRI_c (q : Nat) (i : Int32) (r : List Value) (κ : Nat → Int32 → List Value → Prop) : sRI (.int i :: .ref q :: r) κ = κ q i r := (rfl)
theorem sRII_c (q : Nat) (i x : Int32) (r : List Value) (κ : Nat → Int32 → Int32 → List Value → Prop) : sRII (.int x :: .int i :: .ref q :: r) κ = κ q i x r := (rfl)
theorem sRIL_c (q : Nat) (i : Int32) (x : Int64) (r : List Value) (κ : Nat → Int32 → Int64 → List Value → Prop) : sRIL (.long x :: .int i :: .ref q :: r) κ = κ q i x r := (rfl)
theorem sRIR_c (q : Nat) (i : Int32) (x : Nat) (r : List Value) (κ : Nat → Int32 → Nat → List Value → Prop) : sRIR (.ref x :: .int i :: .ref q :: r) κ = κ q i x r := (rfl)
theorem lget_c (j i : Nat) (u : Value) (r : List (Nat × Value)) : lget ((j, u) :: r) i = if j = i then some u else lget r i := (rfl)
theorem ct_i (x : Int32) : (Value.int x).category = 1 := (rfl)
theorem ct_l (x : Int64) : (Value.long x).category = 2 := (rfl)
theorem ct_r (x : Nat) : (Value.ref x).category = 1 := (rfl)
theorem catS_n : catS [] = 0 := (rfl)
theorem catS_c (v : Value) (r : List Value) : catS (v :: r) = v.category + catS r := by
  unfold catS; simp
theorem rOk_c (q c : Nat) (r : List Value) : recvOk (.ref q :: r) c = (q < NC ∧ (shp q).1 = c) := (rfl)
theorem scrR_n (L k : Nat) (i : Int32) (κ : Int32 → Prop) (o : Prop) : scrR none L k i κ o = o := (rfl)
theorem scrN_n (L k : Nat) (κ : Int32 → Prop) (o : Prop) : scrN none L k κ o = o := (rfl)
theorem rt_i (rt : Nat) (post : Option Value → XT → Prop) (x : Int32) (X : XT) : retx rt post .ireturn [.int x] X = ((rt = 0 ∨ (rt = 1 ∧ bl x)) ∧ post (some (.int x)) X) := (rfl)
theorem rt_l (rt : Nat) (post : Option Value → XT → Prop) (x : Int64) (X : XT) : retx rt post .lreturn [.long x] X = (rt = 2 ∧ post (some (.long x)) X) := (rfl)
theorem rt_v (rt : Nat) (post : Option Value → XT → Prop) (X : XT) : retx rt post .return_ [] X = (rt = 3 ∧ post none X) := (rfl)
def xcall1 (q : CE) (i : Nat) (sta : Bool) (st : List Value) (X : XT) (κ : List Value → XT → Prop) : Prop := match q with
  | (i', sta', n, c, C) => (i' = i ∧ sta' = sta) ∧ (match popA n [] st with
    | some (As, r) => catS r ≤ 8 ∧ (sta = false → recvOk As c) ∧ C As X (fun v X' => κ (v.toList ++ r) X')
    | none => False)
theorem xc_0 (q : CE) (r : List CE) (i : Nat) (sta : Bool) (st : List Value) (X : XT) (κ : List Value → XT → Prop) : xcall (q :: r) 0 i sta st X κ = xcall1 q i sta st X κ := (rfl)
theorem xc_s (q : CE) (r : List CE) (n i : Nat) (sta : Bool) (st : List Value) (X : XT) (κ : List Value → XT → Prop) : xcall (q :: r) (n + 1) i sta st X κ = xcall r n i sta st X κ := by
  unfold xcall
  rw [List.getElem?_cons_succ]
def kont (κ : List Value → XT → Prop) (v : Option Value) (r : List Value) (X : XT) : Prop := κ (v.toList ++ r) X
def pcallK (n : Nat) (acc st : List Value) (sta : Bool) (c : Nat) (C : CT) (X : XT) (κ : List Value → XT → Prop) : Prop := match popA n acc st with
  | some (As, r) => catS r ≤ 8 ∧ (sta = false → recvOk As c) ∧ C As X (fun v X' => kont κ v r X')
  | none => False
theorem k_s (κ : List Value → XT → Prop) (v : Value) (r : List Value) (X : XT) : kont κ (some v) r X = κ (v :: r) X := (rfl)
theorem k_n (κ : List Value → XT → Prop) (r : List Value) (X : XT) : kont κ none r X = κ r X := (rfl)
theorem xc_1 (i' : Nat) (sta' : Bool) (n c : Nat) (C : CT) (i : Nat) (sta : Bool) (st : List Value) (X : XT) (κ : List Value → XT → Prop) : xcall1 (i', sta', n, c, C) i sta st X κ = ((i' = i ∧ sta' = sta) ∧ pcallK n [] st sta c C X κ) := (rfl)
theorem pk_s (n : Nat) (v : Value) (acc st : List Value) (sta : Bool) (c : Nat) (C : CT) (X : XT) (κ : List Value → XT → Prop) : pcallK (n + 1) acc (v :: st) sta c C X κ = pcallK n (v :: acc) st sta c C X κ := (rfl)
theorem pk_f (acc st : List Value) (c : Nat) (C : CT) (X : XT) (κ : List Value → XT → Prop) : pcallK 0 acc st false c C X κ = (catS st ≤ 8 ∧ recvOk acc c ∧ C acc X (fun v X' => kont κ v st X')) := by
  show (catS st ≤ 8 ∧ (false = false → recvOk acc c) ∧ C acc X (fun v X' => kont κ v st X')) = _
  simp
theorem pk_t (acc st : List Value) (c : Nat) (C : CT) (X : XT) (κ : List Value → XT → Prop) : pcallK 0 acc st true c C X κ = (catS st ≤ 8 ∧ C acc X (fun v X' => kont κ v st X')) := by
  show (catS st ≤ 8 ∧ (true = false → recvOk acc c) ∧ C acc X (fun v X' => kont κ v st X')) = _
  simp
theorem fv_0_0 (X : XT) (k : Nat) (f : Value → Prop) : gfK X 0 k 0 f = f (.ref (k + 1)) := (rfl)
theorem fv_0_1 (X : XT) (k : Nat) (f : Value → Prop) : gfK X 0 k 1 f = f (.ref (k + 2)) := (rfl)
theorem fv_0_2 (X : XT) (k : Nat) (f : Value → Prop) : gfK X 0 k 2 f = f (.ref (k + 3)) := (rfl)
theorem fv_0_3 (X : XT) (k : Nat) (f : Value → Prop) : gfK X 0 k 3 f = f (.ref (k + 4)) := (rfl)
theorem fv_0_4 (X : XT) (k : Nat) (f : Value → Prop) : gfK X 0 k 4 f = f (.int (X.1 k 4)) := (rfl)
theorem pf_0_4 (X : XT) (x : Int32) (k : Nat) (r : List Value) (κ : List Value → XT → Prop) : pfA X 0 4 (.int x :: .ref k :: r) κ = ((k < NC ∧ (shp k).1 = 0) ∧ κ r (sI X k 4 x)) := by
  show (k < NC ∧ (shp k).1 = 0 ∧ (false = true → bl x) ∧ κ r (sI X k 4 x)) = _
  simp [and_assoc]
theorem fv_0_5 (X : XT) (k : Nat) (f : Value → Prop) : gfK X 0 k 5 f = f (.int (X.1 k 5)) := (rfl)
theorem pf_0_5 (X : XT) (x : Int32) (k : Nat) (r : List Value) (κ : List Value → XT → Prop) : pfA X 0 5 (.int x :: .ref k :: r) κ = ((k < NC ∧ (shp k).1 = 0) ∧ κ r (sI X k 5 x)) := by
  show (k < NC ∧ (shp k).1 = 0 ∧ (false = true → bl x) ∧ κ r (sI X k 5 x)) = _
  simp [and_assoc]
theorem fv_0_6 (X : XT) (k : Nat) (f : Value → Prop) : gfK X 0 k 6 f = f (.ref (k + 5)) := (rfl)
theorem fv_0_7 (X : XT) (k : Nat) (f : Value → Prop) : gfK X 0 k 7 f = f (.int (X.1 k 7)) := (rfl)
theorem pf_0_7 (X : XT) (x : Int32) (k : Nat) (r : List Value) (κ : List Value → XT → Prop) : pfA X 0 7 (.int x :: .ref k :: r) κ = ((k < NC ∧ (shp k).1 = 0) ∧ κ r (sI X k 7 x)) := by
  show (k < NC ∧ (shp k).1 = 0 ∧ (false = true → bl x) ∧ κ r (sI X k 7 x)) = _
  simp [and_assoc]
theorem fv_1_0 (X : XT) (k : Nat) (f : Value → Prop) : gfK X 1 k 0 f = f (.ref (k + 1)) := (rfl)
theorem fv_1_1 (X : XT) (k : Nat) (f : Value → Prop) : gfK X 1 k 1 f = f (.ref (k + 2)) := (rfl)
theorem fv_1_2 (X : XT) (k : Nat) (f : Value → Prop) : gfK X 1 k 2 f = f (.long (X.2.1 k 2)) := (rfl)
theorem pf_1_2 (X : XT) (x : Int64) (k : Nat) (r : List Value) (κ : List Value → XT → Prop) : pfA X 1 2 (.long x :: .ref k :: r) κ = ((k < NC ∧ (shp k).1 = 1) ∧ κ r (sL X k 2 x)) := by
  show (k < NC ∧ (shp k).1 = 1 ∧ κ r (sL X k 2 x)) = _
  simp [and_assoc]
theorem fv_1_3 (X : XT) (k : Nat) (f : Value → Prop) : gfK X 1 k 3 f = f (.long (X.2.1 k 3)) := (rfl)
theorem pf_1_3 (X : XT) (x : Int64) (k : Nat) (r : List Value) (κ : List Value → XT → Prop) : pfA X 1 3 (.long x :: .ref k :: r) κ = ((k < NC ∧ (shp k).1 = 1) ∧ κ r (sL X k 3 x)) := by
  show (k < NC ∧ (shp k).1 = 1 ∧ κ r (sL X k 3 x)) = _
  simp [and_assoc]
theorem fv_1_4 (X : XT) (k : Nat) (f : Value → Prop) : gfK X 1 k 4 f = f (.long (X.2.1 k 4)) := (rfl)
theorem pf_1_4 (X : XT) (x : Int64) (k : Nat) (r : List Value) (κ : List Value → XT → Prop) : pfA X 1 4 (.long x :: .ref k :: r) κ = ((k < NC ∧ (shp k).1 = 1) ∧ κ r (sL X k 4 x)) := by
  show (k < NC ∧ (shp k).1 = 1 ∧ κ r (sL X k 4 x)) = _
  simp [and_assoc]
theorem fv_1_5 (X : XT) (k : Nat) (f : Value → Prop) : gfK X 1 k 5 f = f (.int (X.1 k 5)) := (rfl)
theorem pf_1_5 (X : XT) (x : Int32) (k : Nat) (r : List Value) (κ : List Value → XT → Prop) : pfA X 1 5 (.int x :: .ref k :: r) κ = ((k < NC ∧ (shp k).1 = 1) ∧ κ r (sI X k 5 x)) := by
  show (k < NC ∧ (shp k).1 = 1 ∧ (false = true → bl x) ∧ κ r (sI X k 5 x)) = _
  simp [and_assoc]
theorem fv_1_6 (X : XT) (k : Nat) (f : Value → Prop) : gfK X 1 k 6 f = f (.ref (k + 3)) := (rfl)
theorem fv_1_7 (X : XT) (k : Nat) (f : Value → Prop) : gfK X 1 k 7 f = f (.int (X.1 k 7)) := (rfl)
theorem pf_1_7 (X : XT) (x : Int32) (k : Nat) (r : List Value) (κ : List Value → XT → Prop) : pfA X 1 7 (.int x :: .ref k :: r) κ = ((k < NC ∧ (shp k).1 = 1) ∧ bl x ∧ κ r (sI X k 7 x)) := by
  show (k < NC ∧ (shp k).1 = 1 ∧ (true = true → bl x) ∧ κ r (sI X k 7 x)) = _
  simp [and_assoc]
theorem fv_2_0 (X : XT) (k : Nat) (f : Value → Prop) : gfK X 2 k 0 f = f (.ref (k + 1)) := (rfl)
theorem fv_2_1 (X : XT) (k : Nat) (f : Value → Prop) : gfK X 2 k 1 f = f (.int (X.1 k 1)) := (rfl)
theorem pf_2_1 (X : XT) (x : Int32) (k : Nat) (r : List Value) (κ : List Value → XT → Prop) : pfA X 2 1 (.int x :: .ref k :: r) κ = ((k < NC ∧ (shp k).1 = 2) ∧ κ r (sI X k 1 x)) := by
  show (k < NC ∧ (shp k).1 = 2 ∧ (false = true → bl x) ∧ κ r (sI X k 1 x)) = _
  simp [and_assoc]
theorem fv_2_2 (X : XT) (k : Nat) (f : Value → Prop) : gfK X 2 k 2 f = f (.ref (k + 2)) := (rfl)
theorem fv_2_3 (X : XT) (k : Nat) (f : Value → Prop) : gfK X 2 k 3 f = f (.int (X.1 k 3)) := (rfl)
theorem pf_2_3 (X : XT) (x : Int32) (k : Nat) (r : List Value) (κ : List Value → XT → Prop) : pfA X 2 3 (.int x :: .ref k :: r) κ = ((k < NC ∧ (shp k).1 = 2) ∧ κ r (sI X k 3 x)) := by
  show (k < NC ∧ (shp k).1 = 2 ∧ (false = true → bl x) ∧ κ r (sI X k 3 x)) = _
  simp [and_assoc]
theorem fv_2_4 (X : XT) (k : Nat) (f : Value → Prop) : gfK X 2 k 4 f = f (.int (X.1 k 4)) := (rfl)
theorem pf_2_4 (X : XT) (x : Int32) (k : Nat) (r : List Value) (κ : List Value → XT → Prop) : pfA X 2 4 (.int x :: .ref k :: r) κ = ((k < NC ∧ (shp k).1 = 2) ∧ κ r (sI X k 4 x)) := by
  show (k < NC ∧ (shp k).1 = 2 ∧ (false = true → bl x) ∧ κ r (sI X k 4 x)) = _
  simp [and_assoc]
theorem fv_3_0 (X : XT) (k : Nat) (f : Value → Prop) : gfK X 3 k 0 f = f (.ref (k + 1)) := (rfl)
theorem fv_3_1 (X : XT) (k : Nat) (f : Value → Prop) : gfK X 3 k 1 f = f (.ref (k + 7)) := (rfl)
theorem fv_3_2 (X : XT) (k : Nat) (f : Value → Prop) : gfK X 3 k 2 f = f (.ref (k + 8)) := (rfl)
theorem fv_3_3 (X : XT) (k : Nat) (f : Value → Prop) : gfK X 3 k 3 f = f (.ref (k + 12)) := (rfl)
theorem fv_3_4 (X : XT) (k : Nat) (f : Value → Prop) : gfK X 3 k 4 f = f (.ref (k + 20)) := (rfl)
theorem fv_3_5 (X : XT) (k : Nat) (f : Value → Prop) : gfK X 3 k 5 f = f (.int (X.1 k 5)) := (rfl)
theorem pf_3_5 (X : XT) (x : Int32) (k : Nat) (r : List Value) (κ : List Value → XT → Prop) : pfA X 3 5 (.int x :: .ref k :: r) κ = ((k < NC ∧ (shp k).1 = 3) ∧ κ r (sI X k 5 x)) := by
  show (k < NC ∧ (shp k).1 = 3 ∧ (false = true → bl x) ∧ κ r (sI X k 5 x)) = _
  simp [and_assoc]
theorem fv_4_0 (X : XT) (k : Nat) (f : Value → Prop) : gfK X 4 k 0 f = f (.ref (k + 1)) := (rfl)
theorem fv_4_1 (X : XT) (k : Nat) (f : Value → Prop) : gfK X 4 k 1 f = f (.int (X.1 k 1)) := (rfl)
theorem pf_4_1 (X : XT) (x : Int32) (k : Nat) (r : List Value) (κ : List Value → XT → Prop) : pfA X 4 1 (.int x :: .ref k :: r) κ = ((k < NC ∧ (shp k).1 = 4) ∧ κ r (sI X k 1 x)) := by
  show (k < NC ∧ (shp k).1 = 4 ∧ (false = true → bl x) ∧ κ r (sI X k 1 x)) = _
  simp [and_assoc]
theorem fv_4_2 (X : XT) (k : Nat) (f : Value → Prop) : gfK X 4 k 2 f = f (.int (X.1 k 2)) := (rfl)
theorem pf_4_2 (X : XT) (x : Int32) (k : Nat) (r : List Value) (κ : List Value → XT → Prop) : pfA X 4 2 (.int x :: .ref k :: r) κ = ((k < NC ∧ (shp k).1 = 4) ∧ bl x ∧ κ r (sI X k 2 x)) := by
  show (k < NC ∧ (shp k).1 = 4 ∧ (true = true → bl x) ∧ κ r (sI X k 2 x)) = _
  simp [and_assoc]
theorem fv_4_3 (X : XT) (k : Nat) (f : Value → Prop) : gfK X 4 k 3 f = f (.ref (k + 2)) := (rfl)
theorem fv_4_4 (X : XT) (k : Nat) (f : Value → Prop) : gfK X 4 k 4 f = f (.ref (k + 3)) := (rfl)
theorem fv_4_5 (X : XT) (k : Nat) (f : Value → Prop) : gfK X 4 k 5 f = f (.ref (k + 4)) := (rfl)
theorem fv_4_6 (X : XT) (k : Nat) (f : Value → Prop) : gfK X 4 k 6 f = f (.ref (k + 5)) := (rfl)
theorem fv_4_7 (X : XT) (k : Nat) (f : Value → Prop) : gfK X 4 k 7 f = f (.int (X.1 k 7)) := (rfl)
theorem pf_4_7 (X : XT) (x : Int32) (k : Nat) (r : List Value) (κ : List Value → XT → Prop) : pfA X 4 7 (.int x :: .ref k :: r) κ = ((k < NC ∧ (shp k).1 = 4) ∧ κ r (sI X k 7 x)) := by
  show (k < NC ∧ (shp k).1 = 4 ∧ (false = true → bl x) ∧ κ r (sI X k 7 x)) = _
  simp [and_assoc]
theorem fv_4_8 (X : XT) (k : Nat) (f : Value → Prop) : gfK X 4 k 8 f = f (.int (X.1 k 8)) := (rfl)
theorem pf_4_8 (X : XT) (x : Int32) (k : Nat) (r : List Value) (κ : List Value → XT → Prop) : pfA X 4 8 (.int x :: .ref k :: r) κ = ((k < NC ∧ (shp k).1 = 4) ∧ κ r (sI X k 8 x)) := by
  show (k < NC ∧ (shp k).1 = 4 ∧ (false = true → bl x) ∧ κ r (sI X k 8 x)) = _
  simp [and_assoc]
theorem fv_4_9 (X : XT) (k : Nat) (f : Value → Prop) : gfK X 4 k 9 f = f (.ref (k + 6)) := (rfl)
theorem fv_4_10 (X : XT) (k : Nat) (f : Value → Prop) : gfK X 4 k 10 f = f (.int (X.1 k 10)) := (rfl)
theorem pf_4_10 (X : XT) (x : Int32) (k : Nat) (r : List Value) (κ : List Value → XT → Prop) : pfA X 4 10 (.int x :: .ref k :: r) κ = ((k < NC ∧ (shp k).1 = 4) ∧ κ r (sI X k 10 x)) := by
  show (k < NC ∧ (shp k).1 = 4 ∧ (false = true → bl x) ∧ κ r (sI X k 10 x)) = _
  simp [and_assoc]
theorem fv_4_11 (X : XT) (k : Nat) (f : Value → Prop) : gfK X 4 k 11 f = f (.long (X.2.1 k 11)) := (rfl)
theorem pf_4_11 (X : XT) (x : Int64) (k : Nat) (r : List Value) (κ : List Value → XT → Prop) : pfA X 4 11 (.long x :: .ref k :: r) κ = ((k < NC ∧ (shp k).1 = 4) ∧ κ r (sL X k 11 x)) := by
  show (k < NC ∧ (shp k).1 = 4 ∧ κ r (sL X k 11 x)) = _
  simp [and_assoc]
theorem sh_0 : shp 0 = (3, 0) := (rfl)
theorem sh_1 : shp 1 = (0, 0) := (rfl)
theorem sh_2 : shp 2 = (5, 12) := (rfl)
theorem sh_3 : shp 3 = (5, 12) := (rfl)
theorem sh_4 : shp 4 = (5, 12) := (rfl)
theorem sh_5 : shp 5 = (5, 12) := (rfl)
theorem sh_6 : shp 6 = (5, 8) := (rfl)
theorem sh_7 : shp 7 = (8, 5) := (rfl)
theorem sh_8 : shp 8 = (1, 0) := (rfl)
theorem sh_9 : shp 9 = (5, 8) := (rfl)
theorem sh_10 : shp 10 = (5, 8) := (rfl)
theorem sh_11 : shp 11 = (6, 8) := (rfl)
theorem sh_12 : shp 12 = (2, 0) := (rfl)
theorem sh_13 : shp 13 = (5, 120) := (rfl)
theorem sh_14 : shp 14 = (0, 0) := (rfl)
theorem sh_15 : shp 15 = (5, 12) := (rfl)
theorem sh_16 : shp 16 = (5, 12) := (rfl)
theorem sh_17 : shp 17 = (5, 12) := (rfl)
theorem sh_18 : shp 18 = (5, 12) := (rfl)
theorem sh_19 : shp 19 = (5, 8) := (rfl)
theorem sh_20 : shp 20 = (6, 8) := (rfl)
theorem sh_21 : shp 21 = (0, 0) := (rfl)
theorem sh_22 : shp 22 = (5, 12) := (rfl)
theorem sh_23 : shp 23 = (5, 12) := (rfl)
theorem sh_24 : shp 24 = (5, 12) := (rfl)
theorem sh_25 : shp 25 = (5, 12) := (rfl)
theorem sh_26 : shp 26 = (5, 8) := (rfl)
theorem sh_27 : shp 27 = (0, 0) := (rfl)
theorem sh_28 : shp 28 = (5, 12) := (rfl)
theorem sh_29 : shp 29 = (5, 12) := (rfl)
theorem sh_30 : shp 30 = (5, 12) := (rfl)
theorem sh_31 : shp 31 = (5, 12) := (rfl)
theorem sh_32 : shp 32 = (5, 8) := (rfl)
theorem sh_33 : shp 33 = (0, 0) := (rfl)
theorem sh_34 : shp 34 = (5, 12) := (rfl)
theorem sh_35 : shp 35 = (5, 12) := (rfl)
theorem sh_36 : shp 36 = (5, 12) := (rfl)
theorem sh_37 : shp 37 = (5, 12) := (rfl)
theorem sh_38 : shp 38 = (5, 8) := (rfl)
theorem sh_39 : shp 39 = (0, 0) := (rfl)
theorem sh_40 : shp 40 = (5, 12) := (rfl)
theorem sh_41 : shp 41 = (5, 12) := (rfl)
theorem sh_42 : shp 42 = (5, 12) := (rfl)
theorem sh_43 : shp 43 = (5, 12) := (rfl)
theorem sh_44 : shp 44 = (5, 8) := (rfl)
theorem sh_45 : shp 45 = (0, 0) := (rfl)
theorem sh_46 : shp 46 = (5, 12) := (rfl)
theorem sh_47 : shp 47 = (5, 12) := (rfl)
theorem sh_48 : shp 48 = (5, 12) := (rfl)
theorem sh_49 : shp 49 = (5, 12) := (rfl)
theorem sh_50 : shp 50 = (5, 8) := (rfl)
theorem sh_51 : shp 51 = (4, 0) := (rfl)
theorem sh_52 : shp 52 = (5, 354) := (rfl)
theorem sh_53 : shp 53 = (5, 8) := (rfl)
theorem sh_54 : shp 54 = (6, 8) := (rfl)
theorem sh_55 : shp 55 = (7, 32) := (rfl)
theorem sh_56 : shp 56 = (5, 120) := (rfl)
theorem sh_57 : shp 57 = (7, 64) := (rfl)
def stepX (t : List (Nat × TE)) (rt : Nat) (calls : List CE) (sc : Option (Nat → Int32)) (L : Nat) (post : Option Value → XT → Prop) (pc : Nat) (lv : List (Nat × Value)) (st : List Value) (X : XT) (κ : KT) : Prop := ∃ te, fetch t pc = some te ∧ exec rt calls sc L post te pc lv st X κ
def fx (o : Option TE) (rt : Nat) (calls : List CE) (sc : Option (Nat → Int32)) (L : Nat) (post : Option Value → XT → Prop) (pc : Nat) (lv : List (Nat × Value)) (st : List Value) (X : XT) (κ : KT) : Prop := match o with
  | some te => exec rt calls sc L post te pc lv st X κ
  | none => False
def lsel (lv : List (Nat × Value)) : List Nat → Option (List (Nat × Value))
  | [] => some []
  | i :: r => match lget lv i, lsel lv r with
    | some v, some q => some ((i, v) :: q)
    | _, _ => none
theorem lsel_in (lv : List (Nat × Value)) : ∀ (l : List Nat) (lv' : List (Nat × Value)), lsel lv l = some lv' → ∀ q ∈ lv', q ∈ lv
  | [], lv', h, q, hq => by cases h; cases hq
  | i :: r, lv', h, q, hq => by
    unfold lsel at h
    split at h
    next v q' h1 h2 =>
      cases h
      rcases List.mem_cons.mp hq with e | e
      · rw [e]; exact lget_in lv i v h1
      · exact lsel_in lv r q' h2 q e
    next => cases h
def atStop (o : Option (List (Nat × Value))) (R : KT) (pc : Nat) (st : List Value) (X : XT) : Prop := match o with
  | some lv' => R pc lv' st X
  | none => False
def rstop (R : KT) (pc : Nat) (lv : List (Nat × Value)) (st : List Value) (X : XT) (n : Prop) : List (Nat × List Nat) → Prop
  | [] => n
  | (q, l) :: r => if q = pc then atStop (lsel lv l) R pc st X else rstop R pc lv st X n r
def run (t : List (Nat × TE)) (rt : Nat) (calls : List CE) (sc : Option (Nat → Int32)) (L : Nat) (post : Option Value → XT → Prop) (stops : List (Nat × List Nat)) (R : KT) : Nat → KT
  | 0 => R
  | n + 1 => fun pc lv st X => rstop R pc lv st X (fx (fetch t pc) rt calls sc L post pc lv st X (run t rt calls sc L post stops R n)) stops
def Clo (t : List (Nat × TE)) (rt : Nat) (calls : List CE) (sc : Option (Nat → Int32)) (L : Nat) (post : Option Value → XT → Prop) (R : KT) : Prop :=
  (∀ (κ : KT), (∀ pc lv st X, κ pc lv st X → R pc lv st X) → ∀ pc lv st X te, fetch t pc = some te → exec rt calls sc L post te pc lv st X κ → R pc lv st X) ∧
  ∀ pc lv lv' st X, (∀ q ∈ lv', q ∈ lv) → R pc lv' st X → R pc lv st X
section GO
variable {t : List (Nat × TE)} {rt : Nat} {calls : List CE} {sc : Option (Nat → Int32)} {L : Nat} {post : Option Value → XT → Prop} {R : KT}
theorem fx_R (h : Clo t rt calls sc L post R) {κ : KT} (hκ : ∀ pc lv st X, κ pc lv st X → R pc lv st X) {pc : Nat} {lv : List (Nat × Value)} {st : List Value} {X : XT} (hx : fx (fetch t pc) rt calls sc L post pc lv st X κ) : R pc lv st X := by
  unfold fx at hx
  split at hx
  next te hf => exact h.1 κ hκ pc lv st X te hf hx
  next => exact hx.elim
theorem run_R (h : Clo t rt calls sc L post R) (stops : List (Nat × List Nat)) : ∀ (n pc : Nat) (lv : List (Nat × Value)) (st : List Value) (X : XT), run t rt calls sc L post stops R n pc lv st X → R pc lv st X
  | 0, _, _, _, _, hr => hr
  | n + 1, pc, lv, st, X, hr => by
    have aux : ∀ (q : List (Nat × List Nat)) (N : Prop), (N → R pc lv st X) → rstop R pc lv st X N q → R pc lv st X := by
      intro q
      induction q with
      | nil => exact fun N hN hq => hN hq
      | cons p r ih =>
        obtain ⟨p1, p2⟩ := p
        intro N hN hq
        unfold rstop at hq
        split at hq
        next =>
          unfold atStop at hq
          split at hq
          next lv' hl => exact h.2 pc lv lv' st X (lsel_in lv p2 lv' hl) hq
          next => exact hq.elim
        next => exact ih N hN hq
    exact aux stops _ (fun hx => fx_R h (run_R h stops n) hx) hr
/-- go on from here, through at most n instructions, to the stops -/
theorem go (h : Clo t rt calls sc L post R) (stops : List (Nat × List Nat)) (n : Nat) {pc : Nat} {lv : List (Nat × Value)} {st : List Value} {X : XT} (hx : fx (fetch t pc) rt calls sc L post pc lv st X (run t rt calls sc L post stops R n)) : R pc lv st X := fx_R h (run_R h stops n) hx
end GO
def szA (As : List Value) : Nat := (lg_sl As).length
theorem szA_cv (ρ : Nat → Nat) (As : List Value) : (lg_sl (As.map (cv ρ))).length = szA As := by
  unfold szA lg_sl
  induction As with
  | nil => rfl
  | cons v r ih =>
    rw [List.map_cons, List.flatMap_cons, List.flatMap_cons, List.length_append, List.length_append, ih, cv_cat]
    by_cases h : v.category = 2 <;> simp [h]
theorem args_cv (ρ : Nat → Nat) : ∀ (As : List Value) (i : Nat), lv_args i (As.map (cv ρ)) = (lv_args i As).map fun q => (q.1, cv ρ q.2)
  | [], _ => rfl
  | v :: r, i => by
    rw [List.map_cons]
    unfold lv_args
    rw [List.map_cons, cv_cat, args_cv ρ r]
def retT : Nat → Option FieldType
  | 0 => some .int
  | 1 => some .boolean
  | 2 => some .long
  | _ => none
theorem retOk_MQ {p : Program} {l : Launch} {e : Env} {R : Room} {s : State} {m : MethodId} {args : Array Value} {below : List Frame} {meth : Method} {c : Code} {γ : GT} {ρ : Nat → Nat} {cc : ByteArray} {rt : Nat} {post : Option Value → XT → Prop} (hx : p.tables.exec = Jvm.exec) (hb : c.code = cc) (hr : meth.sig.returnType = retT rt) (hlocks : meth.locks = false) :
    RetOk p l e R s m args below meth c γ ρ (Ar ρ) 0 0 (MQ below (QX γ ρ post) args s 0 0 (Ar ρ)) cc rt post := by
  intro ins pc st X H locs ls hd h hP hS
  have hQ : ∀ v : Option Value, post v X → ∀ t : State, t.heap = H → s.WarmedH t.vm → QX γ ρ post args s (.returned (v.map (cv ρ))) t := fun v hv t ht hW => ⟨⟨v, X, rfl, hv, by rw [ht]; exact hP⟩, hS.F ht⟩
  unfold retx at h
  split at h
  next x =>
    obtain ⟨h1 | ⟨h1, h2⟩, h3⟩ := h
    · rw [h1] at hr
      exact W.iret (v := x) hx hb hr (hQ (some (.int x)) h3) hS.2.2 hd hlocks
    · rw [h1] at hr
      exact W.zret (v := x) (ty := .boolean) hx hb hr (nar_bl h2).1 (hQ (some (.int x)) h3) hS.2.2 hd hlocks
  next x =>
    obtain ⟨h1, h3⟩ := h
    rw [h1] at hr
    exact W.lret (v := x) hx hb hr (hQ (some (.long x)) h3) hS.2.2 hd hlocks
  next =>
    obtain ⟨h1, h3⟩ := h
    rw [h1] at hr
    exact W.vret hx hb hr (hQ none h3) hS.2.2 hd hlocks
  next => exact h.elim
/-- a method does what its table's runs show -/
theorem does_of {l : Launch} {y : MethodName} {cc : ByteArray} {maxL : Nat} {rt : Nat} {rm : Room} {t : List (Nat × TE)} {calls : List CE} {C : CT} (hy : plainName y.cls = true) (htk : tOk cc y.cls maxL t = true) (hcalls : ∀ q ∈ calls, CallRule l y.cls cc (wY y cc maxL (retT rt)) maxL rm q)
    (hbody : ∀ As X post, C As X post → szA As ≤ maxL ∧ ∀ R, Clo t rt calls none 0 post R → R 0 (lv_args 0 As) [] X) : Does l y (wY y cc maxL (retT rt)) rm C := by
  intro γ ρ As X post hρ hC
  obtain ⟨hsz, hrun⟩ := hbody As X post hC
  refine Met.ofW (cc := cc) (maxL := maxL) (ret := retT rt) hy rfl ?_
  intro p e s m args below meth c s₁ B hml hv
  obtain ⟨rfl, hP, hK, hN⟩ := hv
  have hts := atoms_spec (ws := wY y cc maxL (retT rt)) B.pre
  have hown : s.vm.findClass y.cls = some m.cls := findClass_of_methodNamed B.named
  have hfix : CallFix p m c cc maxL s ((As.map (cv ρ)).toArray) (wY y cc maxL (retT rt)) y.cls := ⟨B.exec, B.bytes, hml, hown, hts⟩
  have hl := lv_entry (As.map (cv ρ)) (n := maxL) (by rw [szA_cv]; exact hsz)
  rw [args_cv] at hl
  rw [lg_entry_eq]
  have hclo : Clo t rt calls none 0 post (RX p l e rm s m ((As.map (cv ρ)).toArray) below meth c γ ρ (Ar ρ) maxL 0 0 (MQ below (QX γ ρ post) ((As.map (cv ρ)).toArray) s 0 0 (Ar ρ))) :=
    ⟨exec_sound hfix (fun w hw => List.mem_cons_of_mem _ hw) hK hN hρ ⟨Nat.zero_le _, Nat.zero_le _⟩ hcalls (retOk_MQ B.exec B.bytes B.returns B.notSynchronized) (fun xs h => by cases h) htk,
     fun pc lv lv' st X hs hR H locs ls hP hS hl => hR H locs ls hP hS (lv_mono hl (fun q hq => by
       obtain ⟨q0, h0, rfl⟩ := List.mem_map.mp hq
       exact List.mem_map.mpr ⟨q0, hs q0 h0, rfl⟩))⟩
  exact hrun _ hclo s.heap [] _ hP va_S.rf hl
theorem fx_s (te : TE) (rt : Nat) (calls : List CE) (sc : Option (Nat → Int32)) (L : Nat) (post : Option Value → XT → Prop) (pc : Nat) (lv : List (Nat × Value)) (st : List Value) (X : XT) (κ : KT) : fx (some te) rt calls sc L post pc lv st X κ = exec rt calls sc L post te pc lv st X κ := (rfl)
theorem run_s (t : List (Nat × TE)) (rt : Nat) (calls : List CE) (sc : Option (Nat → Int32)) (L : Nat) (post : Option Value → XT → Prop) (stops : List (Nat × List Nat)) (R : KT) (n pc : Nat) (lv : List (Nat × Value)) (st : List Value) (X : XT) : run t rt calls sc L post stops R (n + 1) pc lv st X = rstop R pc lv st X (fx (fetch t pc) rt calls sc L post pc lv st X (run t rt calls sc L post stops R n)) stops := (rfl)
theorem run_0 (t : List (Nat × TE)) (rt : Nat) (calls : List CE) (sc : Option (Nat → Int32)) (L : Nat) (post : Option Value → XT → Prop) (stops : List (Nat × List Nat)) (R : KT) : run t rt calls sc L post stops R 0 = R := (rfl)
theorem rs_n (R : KT) (pc : Nat) (lv : List (Nat × Value)) (st : List Value) (X : XT) (n : Prop) : rstop R pc lv st X n [] = n := (rfl)
theorem rs_c (R : KT) (pc : Nat) (lv : List (Nat × Value)) (st : List Value) (X : XT) (n : Prop) (q : Nat) (l : List Nat) (r : List (Nat × List Nat)) : rstop R pc lv st X n ((q, l) :: r) = if q = pc then atStop (lsel lv l) R pc st X else rstop R pc lv st X n r := (rfl)
theorem as_s (lv : List (Nat × Value)) (R : KT) (pc : Nat) (st : List Value) (X : XT) : atStop (some lv) R pc st X = R pc lv st X := (rfl)
theorem ls_n (lv : List (Nat × Value)) : lsel lv [] = some [] := (rfl)
def lcons (i : Nat) (a : Option Value) (b : Option (List (Nat × Value))) : Option (List (Nat × Value)) := match a, b with
  | some v, some q => some ((i, v) :: q)
  | _, _ => none
theorem ls_c (lv : List (Nat × Value)) (i : Nat) (r : List Nat) : lsel lv (i :: r) = lcons i (lget lv i) (lsel lv r) := (rfl)
theorem lc_s (i : Nat) (v : Value) (q : List (Nat × Value)) : lcons i (some v) (some q) = some ((i, v) :: q) := (rfl)
end RUN
end
section
section TABS
def tX0_copyFrom : List (Nat × TE) := [(0, .iconst 0, 1, 0, 0, 0, 0), (1, .istore_n 2, 1, 2, 0, 0, 0), (2, .iload_n 2, 1, 2, 0, 0, 0), (3, .bipush 12, 2, 0, 0, 12, 0), (5, .if_icmp .ge 57, 3, 62, 0, 0, 0), (8, .aload_n 0, 1, 0, 0, 0, 0), (9, .getfield 9, 3, 0, 0, 0, 0), (12, .iload_n 2, 1, 2, 0, 0, 0), (13, .aload_n 1, 1, 1, 0, 0, 0), (14, .getfield 9, 3, 0, 0, 0, 0), (17, .iload_n 2, 1, 2, 0, 0, 0), (18, .iaload, 1, 0, 0, 0, 0), (19, .iastore, 1, 0, 0, 0, 0), (20, .aload_n 0, 1, 0, 0, 0, 0), (21, .getfield 15, 3, 0, 1, 0, 0), (24, .iload_n 2, 1, 2, 0, 0, 0), (25, .aload_n 1, 1, 1, 0, 0, 0), (26, .getfield 15, 3, 0, 1, 0, 0), (29, .iload_n 2, 1, 2, 0, 0, 0), (30, .iaload, 1, 0, 0, 0, 0), (31, .iastore, 1, 0, 0, 0, 0), (32, .aload_n 0, 1, 0, 0, 0, 0), (33, .getfield 18, 3, 0, 2, 0, 0), (36, .iload_n 2, 1, 2, 0, 0, 0), (37, .aload_n 1, 1, 1, 0, 0, 0), (38, .getfield 18, 3, 0, 2, 0, 0), (41, .iload_n 2, 1, 2, 0, 0, 0), (42, .iaload, 1, 0, 0, 0, 0), (43, .iastore, 1, 0, 0, 0, 0), (44, .aload_n 0, 1, 0, 0, 0, 0), (45, .getfield 21, 3, 0, 3, 0, 0), (48, .iload_n 2, 1, 2, 0, 0, 0), (49, .aload_n 1, 1, 1, 0, 0, 0), (50, .getfield 21, 3, 0, 3, 0, 0), (53, .iload_n 2, 1, 2, 0, 0, 0), (54, .iaload, 1, 0, 0, 0, 0), (55, .iastore, 1, 0, 0, 0, 0), (56, .iinc 2 1, 3, 2, 0, 1, 0), (59, .goto (-57), 3, 2, 0, 0, 0), (62, .iconst 0, 1, 0, 0, 0, 0), (63, .istore_n 2, 1, 2, 0, 0, 0), (64, .iload_n 2, 1, 2, 0, 0, 0), (65, .bipush 8, 2, 0, 0, 8, 0), (67, .if_icmp .ge 21, 3, 88, 0, 0, 0), (70, .aload_n 0, 1, 0, 0, 0, 0), (71, .getfield 31, 3, 0, 6, 0, 0), (74, .iload_n 2, 1, 2, 0, 0, 0), (75, .aload_n 1, 1, 1, 0, 0, 0), (76, .getfield 31, 3, 0, 6, 0, 0), (79, .iload_n 2, 1, 2, 0, 0, 0), (80, .iaload, 1, 0, 0, 0, 0), (81, .iastore, 1, 0, 0, 0, 0), (82, .iinc 2 1, 3, 2, 0, 1, 0), (85, .goto (-21), 3, 64, 0, 0, 0), (88, .aload_n 0, 1, 0, 0, 0, 0), (89, .aload_n 1, 1, 1, 0, 0, 0), (90, .getfield 24, 3, 0, 4, 0, 0), (93, .putfield 24, 3, 0, 4, 0, 0), (96, .aload_n 0, 1, 0, 0, 0, 0), (97, .aload_n 1, 1, 1, 0, 0, 0), (98, .getfield 28, 3, 0, 5, 0, 0), (101, .putfield 28, 3, 0, 5, 0, 0), (104, .aload_n 0, 1, 0, 0, 0, 0), (105, .aload_n 1, 1, 1, 0, 0, 0), (106, .getfield 34, 3, 0, 7, 0, 0), (109, .putfield 34, 3, 0, 7, 0, 0), (112, .return_, 1, 0, 0, 0, 0)]
theorem tkX0_copyFrom : tOk cX0_copyFrom "RumourSource$Scene" 3 tX0_copyFrom = true := by decide +kernel
theorem fX0_copyFrom_0 : fetch tX0_copyFrom 0 = some (.iconst 0, 1, 0, 0, 0, 0) := rfl
theorem fX0_copyFrom_1 : fetch tX0_copyFrom 1 = some (.istore_n 2, 1, 2, 0, 0, 0) := rfl
theorem fX0_copyFrom_2 : fetch tX0_copyFrom 2 = some (.iload_n 2, 1, 2, 0, 0, 0) := rfl
theorem fX0_copyFrom_3 : fetch tX0_copyFrom 3 = some (.bipush 12, 2, 0, 0, 12, 0) := rfl
theorem fX0_copyFrom_5 : fetch tX0_copyFrom 5 = some (.if_icmp .ge 57, 3, 62, 0, 0, 0) := rfl
theorem fX0_copyFrom_8 : fetch tX0_copyFrom 8 = some (.aload_n 0, 1, 0, 0, 0, 0) := rfl
theorem fX0_copyFrom_9 : fetch tX0_copyFrom 9 = some (.getfield 9, 3, 0, 0, 0, 0) := rfl
theorem fX0_copyFrom_12 : fetch tX0_copyFrom 12 = some (.iload_n 2, 1, 2, 0, 0, 0) := rfl
theorem fX0_copyFrom_13 : fetch tX0_copyFrom 13 = some (.aload_n 1, 1, 1, 0, 0, 0) := rfl
theorem fX0_copyFrom_14 : fetch tX0_copyFrom 14 = some (.getfield 9, 3, 0, 0, 0, 0) := rfl
theorem fX0_copyFrom_17 : fetch tX0_copyFrom 17 = some (.iload_n 2, 1, 2, 0, 0, 0) := rfl
theorem fX0_copyFrom_18 : fetch tX0_copyFrom 18 = some (.iaload, 1, 0, 0, 0, 0) := rfl
theorem fX0_copyFrom_19 : fetch tX0_copyFrom 19 = some (.iastore, 1, 0, 0, 0, 0) := rfl
theorem fX0_copyFrom_20 : fetch tX0_copyFrom 20 = some (.aload_n 0, 1, 0, 0, 0, 0) := rfl
theorem fX0_copyFrom_21 : fetch tX0_copyFrom 21 = some (.getfield 15, 3, 0, 1, 0, 0) := rfl
theorem fX0_copyFrom_24 : fetch tX0_copyFrom 24 = some (.iload_n 2, 1, 2, 0, 0, 0) := rfl
theorem fX0_copyFrom_25 : fetch tX0_copyFrom 25 = some (.aload_n 1, 1, 1, 0, 0, 0) := rfl
theorem fX0_copyFrom_26 : fetch tX0_copyFrom 26 = some (.getfield 15, 3, 0, 1, 0, 0) := rfl
theorem fX0_copyFrom_29 : fetch tX0_copyFrom 29 = some (.iload_n 2, 1, 2, 0, 0, 0) := rfl
theorem fX0_copyFrom_30 : fetch tX0_copyFrom 30 = some (.iaload, 1, 0, 0, 0, 0) := rfl
theorem fX0_copyFrom_31 : fetch tX0_copyFrom 31 = some (.iastore, 1, 0, 0, 0, 0) := rfl
theorem fX0_copyFrom_32 : fetch tX0_copyFrom 32 = some (.aload_n 0, 1, 0, 0, 0, 0) := rfl
theorem fX0_copyFrom_33 : fetch tX0_copyFrom 33 = some (.getfield 18, 3, 0, 2, 0, 0) := rfl
theorem fX0_copyFrom_36 : fetch tX0_copyFrom 36 = some (.iload_n 2, 1, 2, 0, 0, 0) := rfl
theorem fX0_copyFrom_37 : fetch tX0_copyFrom 37 = some (.aload_n 1, 1, 1, 0, 0, 0) := rfl
theorem fX0_copyFrom_38 : fetch tX0_copyFrom 38 = some (.getfield 18, 3, 0, 2, 0, 0) := rfl
theorem fX0_copyFrom_41 : fetch tX0_copyFrom 41 = some (.iload_n 2, 1, 2, 0, 0, 0) := rfl
theorem fX0_copyFrom_42 : fetch tX0_copyFrom 42 = some (.iaload, 1, 0, 0, 0, 0) := rfl
theorem fX0_copyFrom_43 : fetch tX0_copyFrom 43 = some (.iastore, 1, 0, 0, 0, 0) := rfl
theorem fX0_copyFrom_44 : fetch tX0_copyFrom 44 = some (.aload_n 0, 1, 0, 0, 0, 0) := rfl
theorem fX0_copyFrom_45 : fetch tX0_copyFrom 45 = some (.getfield 21, 3, 0, 3, 0, 0) := rfl
theorem fX0_copyFrom_48 : fetch tX0_copyFrom 48 = some (.iload_n 2, 1, 2, 0, 0, 0) := rfl
theorem fX0_copyFrom_49 : fetch tX0_copyFrom 49 = some (.aload_n 1, 1, 1, 0, 0, 0) := rfl
theorem fX0_copyFrom_50 : fetch tX0_copyFrom 50 = some (.getfield 21, 3, 0, 3, 0, 0) := rfl
theorem fX0_copyFrom_53 : fetch tX0_copyFrom 53 = some (.iload_n 2, 1, 2, 0, 0, 0) := rfl
theorem fX0_copyFrom_54 : fetch tX0_copyFrom 54 = some (.iaload, 1, 0, 0, 0, 0) := rfl
theorem fX0_copyFrom_55 : fetch tX0_copyFrom 55 = some (.iastore, 1, 0, 0, 0, 0) := rfl
theorem fX0_copyFrom_56 : fetch tX0_copyFrom 56 = some (.iinc 2 1, 3, 2, 0, 1, 0) := rfl
theorem fX0_copyFrom_59 : fetch tX0_copyFrom 59 = some (.goto (-57), 3, 2, 0, 0, 0) := rfl
theorem fX0_copyFrom_62 : fetch tX0_copyFrom 62 = some (.iconst 0, 1, 0, 0, 0, 0) := rfl
theorem fX0_copyFrom_63 : fetch tX0_copyFrom 63 = some (.istore_n 2, 1, 2, 0, 0, 0) := rfl
theorem fX0_copyFrom_64 : fetch tX0_copyFrom 64 = some (.iload_n 2, 1, 2, 0, 0, 0) := rfl
theorem fX0_copyFrom_65 : fetch tX0_copyFrom 65 = some (.bipush 8, 2, 0, 0, 8, 0) := rfl
theorem fX0_copyFrom_67 : fetch tX0_copyFrom 67 = some (.if_icmp .ge 21, 3, 88, 0, 0, 0) := rfl
theorem fX0_copyFrom_70 : fetch tX0_copyFrom 70 = some (.aload_n 0, 1, 0, 0, 0, 0) := rfl
theorem fX0_copyFrom_71 : fetch tX0_copyFrom 71 = some (.getfield 31, 3, 0, 6, 0, 0) := rfl
theorem fX0_copyFrom_74 : fetch tX0_copyFrom 74 = some (.iload_n 2, 1, 2, 0, 0, 0) := rfl
theorem fX0_copyFrom_75 : fetch tX0_copyFrom 75 = some (.aload_n 1, 1, 1, 0, 0, 0) := rfl
theorem fX0_copyFrom_76 : fetch tX0_copyFrom 76 = some (.getfield 31, 3, 0, 6, 0, 0) := rfl
theorem fX0_copyFrom_79 : fetch tX0_copyFrom 79 = some (.iload_n 2, 1, 2, 0, 0, 0) := rfl
theorem fX0_copyFrom_80 : fetch tX0_copyFrom 80 = some (.iaload, 1, 0, 0, 0, 0) := rfl
theorem fX0_copyFrom_81 : fetch tX0_copyFrom 81 = some (.iastore, 1, 0, 0, 0, 0) := rfl
theorem fX0_copyFrom_82 : fetch tX0_copyFrom 82 = some (.iinc 2 1, 3, 2, 0, 1, 0) := rfl
theorem fX0_copyFrom_85 : fetch tX0_copyFrom 85 = some (.goto (-21), 3, 64, 0, 0, 0) := rfl
theorem fX0_copyFrom_88 : fetch tX0_copyFrom 88 = some (.aload_n 0, 1, 0, 0, 0, 0) := rfl
theorem fX0_copyFrom_89 : fetch tX0_copyFrom 89 = some (.aload_n 1, 1, 1, 0, 0, 0) := rfl
theorem fX0_copyFrom_90 : fetch tX0_copyFrom 90 = some (.getfield 24, 3, 0, 4, 0, 0) := rfl
theorem fX0_copyFrom_93 : fetch tX0_copyFrom 93 = some (.putfield 24, 3, 0, 4, 0, 0) := rfl
theorem fX0_copyFrom_96 : fetch tX0_copyFrom 96 = some (.aload_n 0, 1, 0, 0, 0, 0) := rfl
theorem fX0_copyFrom_97 : fetch tX0_copyFrom 97 = some (.aload_n 1, 1, 1, 0, 0, 0) := rfl
theorem fX0_copyFrom_98 : fetch tX0_copyFrom 98 = some (.getfield 28, 3, 0, 5, 0, 0) := rfl
theorem fX0_copyFrom_101 : fetch tX0_copyFrom 101 = some (.putfield 28, 3, 0, 5, 0, 0) := rfl
theorem fX0_copyFrom_104 : fetch tX0_copyFrom 104 = some (.aload_n 0, 1, 0, 0, 0, 0) := rfl
theorem fX0_copyFrom_105 : fetch tX0_copyFrom 105 = some (.aload_n 1, 1, 1, 0, 0, 0) := rfl
theorem fX0_copyFrom_106 : fetch tX0_copyFrom 106 = some (.getfield 34, 3, 0, 7, 0, 0) := rfl
theorem fX0_copyFrom_109 : fetch tX0_copyFrom 109 = some (.putfield 34, 3, 0, 7, 0, 0) := rfl
theorem fX0_copyFrom_112 : fetch tX0_copyFrom 112 = some (.return_, 1, 0, 0, 0, 0) := rfl
def tX0_hasEdge : List (Nat × TE) := [(0, .iload_n 1, 1, 1, 0, 0, 0), (1, .ifCond .lt 15, 3, 16, 0, 0, 0), (4, .iload_n 1, 1, 1, 0, 0, 0), (5, .aload_n 0, 1, 0, 0, 0, 0), (6, .getfield 24, 3, 0, 4, 0, 0), (9, .if_icmp .ge 7, 3, 16, 0, 0, 0), (12, .iconst 1, 1, 0, 0, 1, 0), (13, .goto 4, 3, 17, 0, 0, 0), (16, .iconst 0, 1, 0, 0, 0, 0), (17, .ireturn, 1, 0, 0, 0, 0)]
theorem tkX0_hasEdge : tOk cX0_hasEdge "RumourSource$Scene" 2 tX0_hasEdge = true := by decide +kernel
theorem fX0_hasEdge_0 : fetch tX0_hasEdge 0 = some (.iload_n 1, 1, 1, 0, 0, 0) := rfl
theorem fX0_hasEdge_1 : fetch tX0_hasEdge 1 = some (.ifCond .lt 15, 3, 16, 0, 0, 0) := rfl
theorem fX0_hasEdge_4 : fetch tX0_hasEdge 4 = some (.iload_n 1, 1, 1, 0, 0, 0) := rfl
theorem fX0_hasEdge_5 : fetch tX0_hasEdge 5 = some (.aload_n 0, 1, 0, 0, 0, 0) := rfl
theorem fX0_hasEdge_6 : fetch tX0_hasEdge 6 = some (.getfield 24, 3, 0, 4, 0, 0) := rfl
theorem fX0_hasEdge_9 : fetch tX0_hasEdge 9 = some (.if_icmp .ge 7, 3, 16, 0, 0, 0) := rfl
theorem fX0_hasEdge_12 : fetch tX0_hasEdge 12 = some (.iconst 1, 1, 0, 0, 1, 0) := rfl
theorem fX0_hasEdge_13 : fetch tX0_hasEdge 13 = some (.goto 4, 3, 17, 0, 0, 0) := rfl
theorem fX0_hasEdge_16 : fetch tX0_hasEdge 16 = some (.iconst 0, 1, 0, 0, 0, 0) := rfl
theorem fX0_hasEdge_17 : fetch tX0_hasEdge 17 = some (.ireturn, 1, 0, 0, 0, 0) := rfl
def tX0_isFull : List (Nat × TE) := [(0, .aload_n 0, 1, 0, 0, 0, 0), (1, .getfield 24, 3, 0, 4, 0, 0), (4, .bipush 12, 2, 0, 0, 12, 0), (6, .if_icmp .lt 7, 3, 13, 0, 0, 0), (9, .iconst 1, 1, 0, 0, 1, 0), (10, .goto 4, 3, 14, 0, 0, 0), (13, .iconst 0, 1, 0, 0, 0, 0), (14, .ireturn, 1, 0, 0, 0, 0)]
theorem tkX0_isFull : tOk cX0_isFull "RumourSource$Scene" 1 tX0_isFull = true := by decide +kernel
theorem fX0_isFull_0 : fetch tX0_isFull 0 = some (.aload_n 0, 1, 0, 0, 0, 0) := rfl
theorem fX0_isFull_1 : fetch tX0_isFull 1 = some (.getfield 24, 3, 0, 4, 0, 0) := rfl
theorem fX0_isFull_4 : fetch tX0_isFull 4 = some (.bipush 12, 2, 0, 0, 12, 0) := rfl
theorem fX0_isFull_6 : fetch tX0_isFull 6 = some (.if_icmp .lt 7, 3, 13, 0, 0, 0) := rfl
theorem fX0_isFull_9 : fetch tX0_isFull 9 = some (.iconst 1, 1, 0, 0, 1, 0) := rfl
theorem fX0_isFull_10 : fetch tX0_isFull 10 = some (.goto 4, 3, 14, 0, 0, 0) := rfl
theorem fX0_isFull_13 : fetch tX0_isFull 13 = some (.iconst 0, 1, 0, 0, 0, 0) := rfl
theorem fX0_isFull_14 : fetch tX0_isFull 14 = some (.ireturn, 1, 0, 0, 0, 0) := rfl
def tX0_find : List (Nat × TE) := [(0, .iconst 0, 1, 0, 0, 0, 0), (1, .istore_n 3, 1, 3, 0, 0, 0), (2, .iload_n 3, 1, 3, 0, 0, 0), (3, .aload_n 0, 1, 0, 0, 0, 0), (4, .getfield 24, 3, 0, 4, 0, 0), (7, .if_icmp .ge 31, 3, 38, 0, 0, 0), (10, .aload_n 0, 1, 0, 0, 0, 0), (11, .getfield 9, 3, 0, 0, 0, 0), (14, .iload_n 3, 1, 3, 0, 0, 0), (15, .iaload, 1, 0, 0, 0, 0), (16, .iload_n 1, 1, 1, 0, 0, 0), (17, .if_icmp .ne 15, 3, 32, 0, 0, 0), (20, .aload_n 0, 1, 0, 0, 0, 0), (21, .getfield 15, 3, 0, 1, 0, 0), (24, .iload_n 3, 1, 3, 0, 0, 0), (25, .iaload, 1, 0, 0, 0, 0), (26, .iload_n 2, 1, 2, 0, 0, 0), (27, .if_icmp .ne 5, 3, 32, 0, 0, 0), (30, .iload_n 3, 1, 3, 0, 0, 0), (31, .ireturn, 1, 0, 0, 0, 0), (32, .iinc 3 1, 3, 3, 0, 1, 0), (35, .goto (-33), 3, 2, 0, 0, 0), (38, .iconst (-1), 1, 0, 0, (-1), 0), (39, .ireturn, 1, 0, 0, 0, 0)]
theorem tkX0_find : tOk cX0_find "RumourSource$Scene" 4 tX0_find = true := by decide +kernel
theorem fX0_find_0 : fetch tX0_find 0 = some (.iconst 0, 1, 0, 0, 0, 0) := rfl
theorem fX0_find_1 : fetch tX0_find 1 = some (.istore_n 3, 1, 3, 0, 0, 0) := rfl
theorem fX0_find_2 : fetch tX0_find 2 = some (.iload_n 3, 1, 3, 0, 0, 0) := rfl
theorem fX0_find_3 : fetch tX0_find 3 = some (.aload_n 0, 1, 0, 0, 0, 0) := rfl
theorem fX0_find_4 : fetch tX0_find 4 = some (.getfield 24, 3, 0, 4, 0, 0) := rfl
theorem fX0_find_7 : fetch tX0_find 7 = some (.if_icmp .ge 31, 3, 38, 0, 0, 0) := rfl
theorem fX0_find_10 : fetch tX0_find 10 = some (.aload_n 0, 1, 0, 0, 0, 0) := rfl
theorem fX0_find_11 : fetch tX0_find 11 = some (.getfield 9, 3, 0, 0, 0, 0) := rfl
theorem fX0_find_14 : fetch tX0_find 14 = some (.iload_n 3, 1, 3, 0, 0, 0) := rfl
theorem fX0_find_15 : fetch tX0_find 15 = some (.iaload, 1, 0, 0, 0, 0) := rfl
theorem fX0_find_16 : fetch tX0_find 16 = some (.iload_n 1, 1, 1, 0, 0, 0) := rfl
theorem fX0_find_17 : fetch tX0_find 17 = some (.if_icmp .ne 15, 3, 32, 0, 0, 0) := rfl
theorem fX0_find_20 : fetch tX0_find 20 = some (.aload_n 0, 1, 0, 0, 0, 0) := rfl
theorem fX0_find_21 : fetch tX0_find 21 = some (.getfield 15, 3, 0, 1, 0, 0) := rfl
theorem fX0_find_24 : fetch tX0_find 24 = some (.iload_n 3, 1, 3, 0, 0, 0) := rfl
theorem fX0_find_25 : fetch tX0_find 25 = some (.iaload, 1, 0, 0, 0, 0) := rfl
theorem fX0_find_26 : fetch tX0_find 26 = some (.iload_n 2, 1, 2, 0, 0, 0) := rfl
theorem fX0_find_27 : fetch tX0_find 27 = some (.if_icmp .ne 5, 3, 32, 0, 0, 0) := rfl
theorem fX0_find_30 : fetch tX0_find 30 = some (.iload_n 3, 1, 3, 0, 0, 0) := rfl
theorem fX0_find_31 : fetch tX0_find 31 = some (.ireturn, 1, 0, 0, 0, 0) := rfl
theorem fX0_find_32 : fetch tX0_find 32 = some (.iinc 3 1, 3, 3, 0, 1, 0) := rfl
theorem fX0_find_35 : fetch tX0_find 35 = some (.goto (-33), 3, 2, 0, 0, 0) := rfl
theorem fX0_find_38 : fetch tX0_find 38 = some (.iconst (-1), 1, 0, 0, (-1), 0) := rfl
theorem fX0_find_39 : fetch tX0_find 39 = some (.ireturn, 1, 0, 0, 0, 0) := rfl
def tX0_put : List (Nat × TE) := [(0, .aload_n 0, 1, 0, 0, 0, 0), (1, .iload_n 1, 1, 1, 0, 0, 0), (2, .iload_n 2, 1, 2, 0, 0, 0), (3, .invokevirtual 37, 3, 0, 0, 0, 0), (6, .istore 5, 2, 5, 0, 0, 0), (8, .iload 5, 2, 5, 0, 0, 0), (10, .iconst (-1), 1, 0, 0, (-1), 0), (11, .if_icmp .ne 58, 3, 69, 0, 0, 0), (14, .aload_n 0, 1, 0, 0, 0, 0), (15, .invokevirtual 41, 3, 1, 0, 0, 0), (18, .ifCond .ne 17, 3, 35, 0, 0, 0), (21, .iload_n 1, 1, 1, 0, 0, 0), (22, .invokestatic 45, 3, 2, 3, 0, 0), (25, .ifCond .eq 10, 3, 35, 0, 0, 0), (28, .iload_n 2, 1, 2, 0, 0, 0), (29, .invokestatic 45, 3, 2, 3, 0, 0), (32, .ifCond .ne 5, 3, 37, 0, 0, 0), (35, .iconst (-1), 1, 0, 0, (-1), 0), (36, .ireturn, 1, 0, 0, 0, 0), (37, .aload_n 0, 1, 0, 0, 0, 0), (38, .getfield 24, 3, 0, 4, 0, 0), (41, .istore 5, 2, 5, 0, 0, 0), (43, .aload_n 0, 1, 0, 0, 0, 0), (44, .getfield 9, 3, 0, 0, 0, 0), (47, .iload 5, 2, 5, 0, 0, 0), (49, .iload_n 1, 1, 1, 0, 0, 0), (50, .iastore, 1, 0, 0, 0, 0), (51, .aload_n 0, 1, 0, 0, 0, 0), (52, .getfield 15, 3, 0, 1, 0, 0), (55, .iload 5, 2, 5, 0, 0, 0), (57, .iload_n 2, 1, 2, 0, 0, 0), (58, .iastore, 1, 0, 0, 0, 0), (59, .aload_n 0, 1, 0, 0, 0, 0), (60, .dup, 1, 0, 0, 0, 0), (61, .getfield 24, 3, 0, 4, 0, 0), (64, .iconst 1, 1, 0, 0, 1, 0), (65, .iadd, 1, 0, 0, 0, 0), (66, .putfield 24, 3, 0, 4, 0, 0), (69, .aload_n 0, 1, 0, 0, 0, 0), (70, .getfield 18, 3, 0, 2, 0, 0), (73, .iload 5, 2, 5, 0, 0, 0), (75, .iload_n 3, 1, 3, 0, 0, 0), (76, .iastore, 1, 0, 0, 0, 0), (77, .aload_n 0, 1, 0, 0, 0, 0), (78, .getfield 21, 3, 0, 3, 0, 0), (81, .iload 5, 2, 5, 0, 0, 0), (83, .iload 4, 2, 4, 0, 0, 0), (85, .iastore, 1, 0, 0, 0, 0), (86, .iload 5, 2, 5, 0, 0, 0), (88, .ireturn, 1, 0, 0, 0, 0)]
theorem tkX0_put : tOk cX0_put "RumourSource$Scene" 6 tX0_put = true := by decide +kernel
theorem fX0_put_0 : fetch tX0_put 0 = some (.aload_n 0, 1, 0, 0, 0, 0) := rfl
theorem fX0_put_1 : fetch tX0_put 1 = some (.iload_n 1, 1, 1, 0, 0, 0) := rfl
theorem fX0_put_2 : fetch tX0_put 2 = some (.iload_n 2, 1, 2, 0, 0, 0) := rfl
theorem fX0_put_3 : fetch tX0_put 3 = some (.invokevirtual 37, 3, 0, 0, 0, 0) := rfl
theorem fX0_put_6 : fetch tX0_put 6 = some (.istore 5, 2, 5, 0, 0, 0) := rfl
theorem fX0_put_8 : fetch tX0_put 8 = some (.iload 5, 2, 5, 0, 0, 0) := rfl
theorem fX0_put_10 : fetch tX0_put 10 = some (.iconst (-1), 1, 0, 0, (-1), 0) := rfl
theorem fX0_put_11 : fetch tX0_put 11 = some (.if_icmp .ne 58, 3, 69, 0, 0, 0) := rfl
theorem fX0_put_14 : fetch tX0_put 14 = some (.aload_n 0, 1, 0, 0, 0, 0) := rfl
theorem fX0_put_15 : fetch tX0_put 15 = some (.invokevirtual 41, 3, 1, 0, 0, 0) := rfl
theorem fX0_put_18 : fetch tX0_put 18 = some (.ifCond .ne 17, 3, 35, 0, 0, 0) := rfl
theorem fX0_put_21 : fetch tX0_put 21 = some (.iload_n 1, 1, 1, 0, 0, 0) := rfl
theorem fX0_put_22 : fetch tX0_put 22 = some (.invokestatic 45, 3, 2, 3, 0, 0) := rfl
theorem fX0_put_25 : fetch tX0_put 25 = some (.ifCond .eq 10, 3, 35, 0, 0, 0) := rfl
theorem fX0_put_28 : fetch tX0_put 28 = some (.iload_n 2, 1, 2, 0, 0, 0) := rfl
theorem fX0_put_29 : fetch tX0_put 29 = some (.invokestatic 45, 3, 2, 3, 0, 0) := rfl
theorem fX0_put_32 : fetch tX0_put 32 = some (.ifCond .ne 5, 3, 37, 0, 0, 0) := rfl
theorem fX0_put_35 : fetch tX0_put 35 = some (.iconst (-1), 1, 0, 0, (-1), 0) := rfl
theorem fX0_put_36 : fetch tX0_put 36 = some (.ireturn, 1, 0, 0, 0, 0) := rfl
theorem fX0_put_37 : fetch tX0_put 37 = some (.aload_n 0, 1, 0, 0, 0, 0) := rfl
theorem fX0_put_38 : fetch tX0_put 38 = some (.getfield 24, 3, 0, 4, 0, 0) := rfl
theorem fX0_put_41 : fetch tX0_put 41 = some (.istore 5, 2, 5, 0, 0, 0) := rfl
theorem fX0_put_43 : fetch tX0_put 43 = some (.aload_n 0, 1, 0, 0, 0, 0) := rfl
theorem fX0_put_44 : fetch tX0_put 44 = some (.getfield 9, 3, 0, 0, 0, 0) := rfl
theorem fX0_put_47 : fetch tX0_put 47 = some (.iload 5, 2, 5, 0, 0, 0) := rfl
theorem fX0_put_49 : fetch tX0_put 49 = some (.iload_n 1, 1, 1, 0, 0, 0) := rfl
theorem fX0_put_50 : fetch tX0_put 50 = some (.iastore, 1, 0, 0, 0, 0) := rfl
theorem fX0_put_51 : fetch tX0_put 51 = some (.aload_n 0, 1, 0, 0, 0, 0) := rfl
theorem fX0_put_52 : fetch tX0_put 52 = some (.getfield 15, 3, 0, 1, 0, 0) := rfl
theorem fX0_put_55 : fetch tX0_put 55 = some (.iload 5, 2, 5, 0, 0, 0) := rfl
theorem fX0_put_57 : fetch tX0_put 57 = some (.iload_n 2, 1, 2, 0, 0, 0) := rfl
theorem fX0_put_58 : fetch tX0_put 58 = some (.iastore, 1, 0, 0, 0, 0) := rfl
theorem fX0_put_59 : fetch tX0_put 59 = some (.aload_n 0, 1, 0, 0, 0, 0) := rfl
theorem fX0_put_60 : fetch tX0_put 60 = some (.dup, 1, 0, 0, 0, 0) := rfl
theorem fX0_put_61 : fetch tX0_put 61 = some (.getfield 24, 3, 0, 4, 0, 0) := rfl
theorem fX0_put_64 : fetch tX0_put 64 = some (.iconst 1, 1, 0, 0, 1, 0) := rfl
theorem fX0_put_65 : fetch tX0_put 65 = some (.iadd, 1, 0, 0, 0, 0) := rfl
theorem fX0_put_66 : fetch tX0_put 66 = some (.putfield 24, 3, 0, 4, 0, 0) := rfl
theorem fX0_put_69 : fetch tX0_put 69 = some (.aload_n 0, 1, 0, 0, 0, 0) := rfl
theorem fX0_put_70 : fetch tX0_put 70 = some (.getfield 18, 3, 0, 2, 0, 0) := rfl
theorem fX0_put_73 : fetch tX0_put 73 = some (.iload 5, 2, 5, 0, 0, 0) := rfl
theorem fX0_put_75 : fetch tX0_put 75 = some (.iload_n 3, 1, 3, 0, 0, 0) := rfl
theorem fX0_put_76 : fetch tX0_put 76 = some (.iastore, 1, 0, 0, 0, 0) := rfl
theorem fX0_put_77 : fetch tX0_put 77 = some (.aload_n 0, 1, 0, 0, 0, 0) := rfl
theorem fX0_put_78 : fetch tX0_put 78 = some (.getfield 21, 3, 0, 3, 0, 0) := rfl
theorem fX0_put_81 : fetch tX0_put 81 = some (.iload 5, 2, 5, 0, 0, 0) := rfl
theorem fX0_put_83 : fetch tX0_put 83 = some (.iload 4, 2, 4, 0, 0, 0) := rfl
theorem fX0_put_85 : fetch tX0_put 85 = some (.iastore, 1, 0, 0, 0, 0) := rfl
theorem fX0_put_86 : fetch tX0_put 86 = some (.iload 5, 2, 5, 0, 0, 0) := rfl
theorem fX0_put_88 : fetch tX0_put 88 = some (.ireturn, 1, 0, 0, 0, 0) := rfl
def tX0_drop : List (Nat × TE) := [(0, .aload_n 0, 1, 0, 0, 0, 0), (1, .iload_n 1, 1, 1, 0, 0, 0), (2, .invokevirtual 49, 3, 0, 0, 0, 0), (5, .ifCond .ne 4, 3, 9, 0, 0, 0), (8, .return_, 1, 0, 0, 0, 0), (9, .aload_n 0, 1, 0, 0, 0, 0), (10, .dup, 1, 0, 0, 0, 0), (11, .getfield 24, 3, 0, 4, 0, 0), (14, .iconst 1, 1, 0, 0, 1, 0), (15, .isub, 1, 0, 0, 0, 0), (16, .putfield 24, 3, 0, 4, 0, 0), (19, .iload_n 1, 1, 1, 0, 0, 0), (20, .istore_n 2, 1, 2, 0, 0, 0), (21, .iload_n 2, 1, 2, 0, 0, 0), (22, .aload_n 0, 1, 0, 0, 0, 0), (23, .getfield 24, 3, 0, 4, 0, 0), (26, .if_icmp .ge 65, 3, 91, 0, 0, 0), (29, .aload_n 0, 1, 0, 0, 0, 0), (30, .getfield 9, 3, 0, 0, 0, 0), (33, .iload_n 2, 1, 2, 0, 0, 0), (34, .aload_n 0, 1, 0, 0, 0, 0), (35, .getfield 9, 3, 0, 0, 0, 0), (38, .iload_n 2, 1, 2, 0, 0, 0), (39, .iconst 1, 1, 0, 0, 1, 0), (40, .iadd, 1, 0, 0, 0, 0), (41, .iaload, 1, 0, 0, 0, 0), (42, .iastore, 1, 0, 0, 0, 0), (43, .aload_n 0, 1, 0, 0, 0, 0), (44, .getfield 15, 3, 0, 1, 0, 0), (47, .iload_n 2, 1, 2, 0, 0, 0), (48, .aload_n 0, 1, 0, 0, 0, 0), (49, .getfield 15, 3, 0, 1, 0, 0), (52, .iload_n 2, 1, 2, 0, 0, 0), (53, .iconst 1, 1, 0, 0, 1, 0), (54, .iadd, 1, 0, 0, 0, 0), (55, .iaload, 1, 0, 0, 0, 0), (56, .iastore, 1, 0, 0, 0, 0), (57, .aload_n 0, 1, 0, 0, 0, 0), (58, .getfield 18, 3, 0, 2, 0, 0), (61, .iload_n 2, 1, 2, 0, 0, 0), (62, .aload_n 0, 1, 0, 0, 0, 0), (63, .getfield 18, 3, 0, 2, 0, 0), (66, .iload_n 2, 1, 2, 0, 0, 0), (67, .iconst 1, 1, 0, 0, 1, 0), (68, .iadd, 1, 0, 0, 0, 0), (69, .iaload, 1, 0, 0, 0, 0), (70, .iastore, 1, 0, 0, 0, 0), (71, .aload_n 0, 1, 0, 0, 0, 0), (72, .getfield 21, 3, 0, 3, 0, 0), (75, .iload_n 2, 1, 2, 0, 0, 0), (76, .aload_n 0, 1, 0, 0, 0, 0), (77, .getfield 21, 3, 0, 3, 0, 0), (80, .iload_n 2, 1, 2, 0, 0, 0), (81, .iconst 1, 1, 0, 0, 1, 0), (82, .iadd, 1, 0, 0, 0, 0), (83, .iaload, 1, 0, 0, 0, 0), (84, .iastore, 1, 0, 0, 0, 0), (85, .iinc 2 1, 3, 2, 0, 1, 0), (88, .goto (-67), 3, 21, 0, 0, 0), (91, .return_, 1, 0, 0, 0, 0)]
theorem tkX0_drop : tOk cX0_drop "RumourSource$Scene" 3 tX0_drop = true := by decide +kernel
theorem fX0_drop_0 : fetch tX0_drop 0 = some (.aload_n 0, 1, 0, 0, 0, 0) := rfl
theorem fX0_drop_1 : fetch tX0_drop 1 = some (.iload_n 1, 1, 1, 0, 0, 0) := rfl
theorem fX0_drop_2 : fetch tX0_drop 2 = some (.invokevirtual 49, 3, 0, 0, 0, 0) := rfl
theorem fX0_drop_5 : fetch tX0_drop 5 = some (.ifCond .ne 4, 3, 9, 0, 0, 0) := rfl
theorem fX0_drop_8 : fetch tX0_drop 8 = some (.return_, 1, 0, 0, 0, 0) := rfl
theorem fX0_drop_9 : fetch tX0_drop 9 = some (.aload_n 0, 1, 0, 0, 0, 0) := rfl
theorem fX0_drop_10 : fetch tX0_drop 10 = some (.dup, 1, 0, 0, 0, 0) := rfl
theorem fX0_drop_11 : fetch tX0_drop 11 = some (.getfield 24, 3, 0, 4, 0, 0) := rfl
theorem fX0_drop_14 : fetch tX0_drop 14 = some (.iconst 1, 1, 0, 0, 1, 0) := rfl
theorem fX0_drop_15 : fetch tX0_drop 15 = some (.isub, 1, 0, 0, 0, 0) := rfl
theorem fX0_drop_16 : fetch tX0_drop 16 = some (.putfield 24, 3, 0, 4, 0, 0) := rfl
theorem fX0_drop_19 : fetch tX0_drop 19 = some (.iload_n 1, 1, 1, 0, 0, 0) := rfl
theorem fX0_drop_20 : fetch tX0_drop 20 = some (.istore_n 2, 1, 2, 0, 0, 0) := rfl
theorem fX0_drop_21 : fetch tX0_drop 21 = some (.iload_n 2, 1, 2, 0, 0, 0) := rfl
theorem fX0_drop_22 : fetch tX0_drop 22 = some (.aload_n 0, 1, 0, 0, 0, 0) := rfl
theorem fX0_drop_23 : fetch tX0_drop 23 = some (.getfield 24, 3, 0, 4, 0, 0) := rfl
theorem fX0_drop_26 : fetch tX0_drop 26 = some (.if_icmp .ge 65, 3, 91, 0, 0, 0) := rfl
theorem fX0_drop_29 : fetch tX0_drop 29 = some (.aload_n 0, 1, 0, 0, 0, 0) := rfl
theorem fX0_drop_30 : fetch tX0_drop 30 = some (.getfield 9, 3, 0, 0, 0, 0) := rfl
theorem fX0_drop_33 : fetch tX0_drop 33 = some (.iload_n 2, 1, 2, 0, 0, 0) := rfl
theorem fX0_drop_34 : fetch tX0_drop 34 = some (.aload_n 0, 1, 0, 0, 0, 0) := rfl
theorem fX0_drop_35 : fetch tX0_drop 35 = some (.getfield 9, 3, 0, 0, 0, 0) := rfl
theorem fX0_drop_38 : fetch tX0_drop 38 = some (.iload_n 2, 1, 2, 0, 0, 0) := rfl
theorem fX0_drop_39 : fetch tX0_drop 39 = some (.iconst 1, 1, 0, 0, 1, 0) := rfl
theorem fX0_drop_40 : fetch tX0_drop 40 = some (.iadd, 1, 0, 0, 0, 0) := rfl
theorem fX0_drop_41 : fetch tX0_drop 41 = some (.iaload, 1, 0, 0, 0, 0) := rfl
theorem fX0_drop_42 : fetch tX0_drop 42 = some (.iastore, 1, 0, 0, 0, 0) := rfl
theorem fX0_drop_43 : fetch tX0_drop 43 = some (.aload_n 0, 1, 0, 0, 0, 0) := rfl
theorem fX0_drop_44 : fetch tX0_drop 44 = some (.getfield 15, 3, 0, 1, 0, 0) := rfl
theorem fX0_drop_47 : fetch tX0_drop 47 = some (.iload_n 2, 1, 2, 0, 0, 0) := rfl
theorem fX0_drop_48 : fetch tX0_drop 48 = some (.aload_n 0, 1, 0, 0, 0, 0) := rfl
theorem fX0_drop_49 : fetch tX0_drop 49 = some (.getfield 15, 3, 0, 1, 0, 0) := rfl
theorem fX0_drop_52 : fetch tX0_drop 52 = some (.iload_n 2, 1, 2, 0, 0, 0) := rfl
theorem fX0_drop_53 : fetch tX0_drop 53 = some (.iconst 1, 1, 0, 0, 1, 0) := rfl
theorem fX0_drop_54 : fetch tX0_drop 54 = some (.iadd, 1, 0, 0, 0, 0) := rfl
theorem fX0_drop_55 : fetch tX0_drop 55 = some (.iaload, 1, 0, 0, 0, 0) := rfl
theorem fX0_drop_56 : fetch tX0_drop 56 = some (.iastore, 1, 0, 0, 0, 0) := rfl
theorem fX0_drop_57 : fetch tX0_drop 57 = some (.aload_n 0, 1, 0, 0, 0, 0) := rfl
theorem fX0_drop_58 : fetch tX0_drop 58 = some (.getfield 18, 3, 0, 2, 0, 0) := rfl
theorem fX0_drop_61 : fetch tX0_drop 61 = some (.iload_n 2, 1, 2, 0, 0, 0) := rfl
theorem fX0_drop_62 : fetch tX0_drop 62 = some (.aload_n 0, 1, 0, 0, 0, 0) := rfl
theorem fX0_drop_63 : fetch tX0_drop 63 = some (.getfield 18, 3, 0, 2, 0, 0) := rfl
theorem fX0_drop_66 : fetch tX0_drop 66 = some (.iload_n 2, 1, 2, 0, 0, 0) := rfl
theorem fX0_drop_67 : fetch tX0_drop 67 = some (.iconst 1, 1, 0, 0, 1, 0) := rfl
theorem fX0_drop_68 : fetch tX0_drop 68 = some (.iadd, 1, 0, 0, 0, 0) := rfl
theorem fX0_drop_69 : fetch tX0_drop 69 = some (.iaload, 1, 0, 0, 0, 0) := rfl
theorem fX0_drop_70 : fetch tX0_drop 70 = some (.iastore, 1, 0, 0, 0, 0) := rfl
theorem fX0_drop_71 : fetch tX0_drop 71 = some (.aload_n 0, 1, 0, 0, 0, 0) := rfl
theorem fX0_drop_72 : fetch tX0_drop 72 = some (.getfield 21, 3, 0, 3, 0, 0) := rfl
theorem fX0_drop_75 : fetch tX0_drop 75 = some (.iload_n 2, 1, 2, 0, 0, 0) := rfl
theorem fX0_drop_76 : fetch tX0_drop 76 = some (.aload_n 0, 1, 0, 0, 0, 0) := rfl
theorem fX0_drop_77 : fetch tX0_drop 77 = some (.getfield 21, 3, 0, 3, 0, 0) := rfl
theorem fX0_drop_80 : fetch tX0_drop 80 = some (.iload_n 2, 1, 2, 0, 0, 0) := rfl
theorem fX0_drop_81 : fetch tX0_drop 81 = some (.iconst 1, 1, 0, 0, 1, 0) := rfl
theorem fX0_drop_82 : fetch tX0_drop 82 = some (.iadd, 1, 0, 0, 0, 0) := rfl
theorem fX0_drop_83 : fetch tX0_drop 83 = some (.iaload, 1, 0, 0, 0, 0) := rfl
theorem fX0_drop_84 : fetch tX0_drop 84 = some (.iastore, 1, 0, 0, 0, 0) := rfl
theorem fX0_drop_85 : fetch tX0_drop 85 = some (.iinc 2 1, 3, 2, 0, 1, 0) := rfl
theorem fX0_drop_88 : fetch tX0_drop 88 = some (.goto (-67), 3, 21, 0, 0, 0) := rfl
theorem fX0_drop_91 : fetch tX0_drop 91 = some (.return_, 1, 0, 0, 0, 0) := rfl
def tX1_wantNothing : List (Nat × TE) := [(0, .iconst 0, 1, 0, 0, 0, 0), (1, .istore_n 1, 1, 1, 0, 0, 0), (2, .iload_n 1, 1, 1, 0, 0, 0), (3, .bipush 8, 2, 0, 0, 8, 0), (5, .if_icmp .ge 17, 3, 22, 0, 0, 0), (8, .aload_n 0, 1, 0, 0, 0, 0), (9, .getfield 15, 3, 1, 1, 0, 0), (12, .iload_n 1, 1, 1, 0, 0, 0), (13, .bipush 100, 2, 0, 0, 100, 0), (15, .iastore, 1, 0, 0, 0, 0), (16, .iinc 1 1, 3, 1, 0, 1, 0), (19, .goto (-17), 3, 2, 0, 0, 0), (22, .return_, 1, 0, 0, 0, 0)]
theorem tkX1_wantNothing : tOk cX1_wantNothing "RumourSource$Spread" 2 tX1_wantNothing = true := by decide +kernel
theorem fX1_wantNothing_0 : fetch tX1_wantNothing 0 = some (.iconst 0, 1, 0, 0, 0, 0) := rfl
theorem fX1_wantNothing_1 : fetch tX1_wantNothing 1 = some (.istore_n 1, 1, 1, 0, 0, 0) := rfl
theorem fX1_wantNothing_2 : fetch tX1_wantNothing 2 = some (.iload_n 1, 1, 1, 0, 0, 0) := rfl
theorem fX1_wantNothing_3 : fetch tX1_wantNothing 3 = some (.bipush 8, 2, 0, 0, 8, 0) := rfl
theorem fX1_wantNothing_5 : fetch tX1_wantNothing 5 = some (.if_icmp .ge 17, 3, 22, 0, 0, 0) := rfl
theorem fX1_wantNothing_8 : fetch tX1_wantNothing 8 = some (.aload_n 0, 1, 0, 0, 0, 0) := rfl
theorem fX1_wantNothing_9 : fetch tX1_wantNothing 9 = some (.getfield 15, 3, 1, 1, 0, 0) := rfl
theorem fX1_wantNothing_12 : fetch tX1_wantNothing 12 = some (.iload_n 1, 1, 1, 0, 0, 0) := rfl
theorem fX1_wantNothing_13 : fetch tX1_wantNothing 13 = some (.bipush 100, 2, 0, 0, 100, 0) := rfl
theorem fX1_wantNothing_15 : fetch tX1_wantNothing 15 = some (.iastore, 1, 0, 0, 0, 0) := rfl
theorem fX1_wantNothing_16 : fetch tX1_wantNothing 16 = some (.iinc 1 1, 3, 1, 0, 1, 0) := rfl
theorem fX1_wantNothing_19 : fetch tX1_wantNothing 19 = some (.goto (-17), 3, 2, 0, 0, 0) := rfl
theorem fX1_wantNothing_22 : fetch tX1_wantNothing 22 = some (.return_, 1, 0, 0, 0, 0) := rfl
def tX1_wantOnly : List (Nat × TE) := [(0, .aload_n 0, 1, 0, 0, 0, 0), (1, .invokevirtual 40, 3, 0, 1, 0, 0), (4, .iload_n 1, 1, 1, 0, 0, 0), (5, .invokestatic 43, 3, 1, 3, 0, 0), (8, .ifCond .eq 20, 3, 28, 0, 0, 0), (11, .aload_n 0, 1, 0, 0, 0, 0), (12, .getfield 15, 3, 1, 1, 0, 0), (15, .iload_n 1, 1, 1, 0, 0, 0), (16, .iload_n 2, 1, 2, 0, 0, 0), (17, .iconst (-1), 1, 0, 0, (-1), 0), (18, .if_icmp .ne 8, 3, 26, 0, 0, 0), (21, .bipush 31, 2, 0, 0, 31, 0), (23, .goto 4, 3, 27, 0, 0, 0), (26, .iload_n 2, 1, 2, 0, 0, 0), (27, .iastore, 1, 0, 0, 0, 0), (28, .return_, 1, 0, 0, 0, 0)]
theorem tkX1_wantOnly : tOk cX1_wantOnly "RumourSource$Spread" 3 tX1_wantOnly = true := by decide +kernel
theorem fX1_wantOnly_0 : fetch tX1_wantOnly 0 = some (.aload_n 0, 1, 0, 0, 0, 0) := rfl
theorem fX1_wantOnly_1 : fetch tX1_wantOnly 1 = some (.invokevirtual 40, 3, 0, 1, 0, 0) := rfl
theorem fX1_wantOnly_4 : fetch tX1_wantOnly 4 = some (.iload_n 1, 1, 1, 0, 0, 0) := rfl
theorem fX1_wantOnly_5 : fetch tX1_wantOnly 5 = some (.invokestatic 43, 3, 1, 3, 0, 0) := rfl
theorem fX1_wantOnly_8 : fetch tX1_wantOnly 8 = some (.ifCond .eq 20, 3, 28, 0, 0, 0) := rfl
theorem fX1_wantOnly_11 : fetch tX1_wantOnly 11 = some (.aload_n 0, 1, 0, 0, 0, 0) := rfl
theorem fX1_wantOnly_12 : fetch tX1_wantOnly 12 = some (.getfield 15, 3, 1, 1, 0, 0) := rfl
theorem fX1_wantOnly_15 : fetch tX1_wantOnly 15 = some (.iload_n 1, 1, 1, 0, 0, 0) := rfl
theorem fX1_wantOnly_16 : fetch tX1_wantOnly 16 = some (.iload_n 2, 1, 2, 0, 0, 0) := rfl
theorem fX1_wantOnly_17 : fetch tX1_wantOnly 17 = some (.iconst (-1), 1, 0, 0, (-1), 0) := rfl
theorem fX1_wantOnly_18 : fetch tX1_wantOnly 18 = some (.if_icmp .ne 8, 3, 26, 0, 0, 0) := rfl
theorem fX1_wantOnly_21 : fetch tX1_wantOnly 21 = some (.bipush 31, 2, 0, 0, 31, 0) := rfl
theorem fX1_wantOnly_23 : fetch tX1_wantOnly 23 = some (.goto 4, 3, 27, 0, 0, 0) := rfl
theorem fX1_wantOnly_26 : fetch tX1_wantOnly 26 = some (.iload_n 2, 1, 2, 0, 0, 0) := rfl
theorem fX1_wantOnly_27 : fetch tX1_wantOnly 27 = some (.iastore, 1, 0, 0, 0, 0) := rfl
theorem fX1_wantOnly_28 : fetch tX1_wantOnly 28 = some (.return_, 1, 0, 0, 0, 0) := rfl
def tX1_wantAsSeen : List (Nat × TE) := [(0, .iconst 0, 1, 0, 0, 0, 0), (1, .istore_n 2, 1, 2, 0, 0, 0), (2, .iload_n 2, 1, 2, 0, 0, 0), (3, .bipush 8, 2, 0, 0, 8, 0), (5, .if_icmp .ge 33, 3, 38, 0, 0, 0), (8, .aload_n 1, 1, 1, 0, 0, 0), (9, .getfield 47, 3, 0, 6, 0, 0), (12, .iload_n 2, 1, 2, 0, 0, 0), (13, .iaload, 1, 0, 0, 0, 0), (14, .istore_n 3, 1, 3, 0, 0, 0), (15, .aload_n 0, 1, 0, 0, 0, 0), (16, .getfield 15, 3, 1, 1, 0, 0), (19, .iload_n 2, 1, 2, 0, 0, 0), (20, .iload_n 3, 1, 3, 0, 0, 0), (21, .iconst (-1), 1, 0, 0, (-1), 0), (22, .if_icmp .ne 8, 3, 30, 0, 0, 0), (25, .bipush 31, 2, 0, 0, 31, 0), (27, .goto 4, 3, 31, 0, 0, 0), (30, .iload_n 3, 1, 3, 0, 0, 0), (31, .iastore, 1, 0, 0, 0, 0), (32, .iinc 2 1, 3, 2, 0, 1, 0), (35, .goto (-33), 3, 2, 0, 0, 0), (38, .return_, 1, 0, 0, 0, 0)]
theorem tkX1_wantAsSeen : tOk cX1_wantAsSeen "RumourSource$Spread" 4 tX1_wantAsSeen = true := by decide +kernel
theorem fX1_wantAsSeen_0 : fetch tX1_wantAsSeen 0 = some (.iconst 0, 1, 0, 0, 0, 0) := rfl
theorem fX1_wantAsSeen_1 : fetch tX1_wantAsSeen 1 = some (.istore_n 2, 1, 2, 0, 0, 0) := rfl
theorem fX1_wantAsSeen_2 : fetch tX1_wantAsSeen 2 = some (.iload_n 2, 1, 2, 0, 0, 0) := rfl
theorem fX1_wantAsSeen_3 : fetch tX1_wantAsSeen 3 = some (.bipush 8, 2, 0, 0, 8, 0) := rfl
theorem fX1_wantAsSeen_5 : fetch tX1_wantAsSeen 5 = some (.if_icmp .ge 33, 3, 38, 0, 0, 0) := rfl
theorem fX1_wantAsSeen_8 : fetch tX1_wantAsSeen 8 = some (.aload_n 1, 1, 1, 0, 0, 0) := rfl
theorem fX1_wantAsSeen_9 : fetch tX1_wantAsSeen 9 = some (.getfield 47, 3, 0, 6, 0, 0) := rfl
theorem fX1_wantAsSeen_12 : fetch tX1_wantAsSeen 12 = some (.iload_n 2, 1, 2, 0, 0, 0) := rfl
theorem fX1_wantAsSeen_13 : fetch tX1_wantAsSeen 13 = some (.iaload, 1, 0, 0, 0, 0) := rfl
theorem fX1_wantAsSeen_14 : fetch tX1_wantAsSeen 14 = some (.istore_n 3, 1, 3, 0, 0, 0) := rfl
theorem fX1_wantAsSeen_15 : fetch tX1_wantAsSeen 15 = some (.aload_n 0, 1, 0, 0, 0, 0) := rfl
theorem fX1_wantAsSeen_16 : fetch tX1_wantAsSeen 16 = some (.getfield 15, 3, 1, 1, 0, 0) := rfl
theorem fX1_wantAsSeen_19 : fetch tX1_wantAsSeen 19 = some (.iload_n 2, 1, 2, 0, 0, 0) := rfl
theorem fX1_wantAsSeen_20 : fetch tX1_wantAsSeen 20 = some (.iload_n 3, 1, 3, 0, 0, 0) := rfl
theorem fX1_wantAsSeen_21 : fetch tX1_wantAsSeen 21 = some (.iconst (-1), 1, 0, 0, (-1), 0) := rfl
theorem fX1_wantAsSeen_22 : fetch tX1_wantAsSeen 22 = some (.if_icmp .ne 8, 3, 30, 0, 0, 0) := rfl
theorem fX1_wantAsSeen_25 : fetch tX1_wantAsSeen 25 = some (.bipush 31, 2, 0, 0, 31, 0) := rfl
theorem fX1_wantAsSeen_27 : fetch tX1_wantAsSeen 27 = some (.goto 4, 3, 31, 0, 0, 0) := rfl
theorem fX1_wantAsSeen_30 : fetch tX1_wantAsSeen 30 = some (.iload_n 3, 1, 3, 0, 0, 0) := rfl
theorem fX1_wantAsSeen_31 : fetch tX1_wantAsSeen 31 = some (.iastore, 1, 0, 0, 0, 0) := rfl
theorem fX1_wantAsSeen_32 : fetch tX1_wantAsSeen 32 = some (.iinc 2 1, 3, 2, 0, 1, 0) := rfl
theorem fX1_wantAsSeen_35 : fetch tX1_wantAsSeen 35 = some (.goto (-33), 3, 2, 0, 0, 0) := rfl
theorem fX1_wantAsSeen_38 : fetch tX1_wantAsSeen 38 = some (.return_, 1, 0, 0, 0, 0) := rfl
def tX1_begin : List (Nat × TE) := [(0, .iconst 0, 1, 0, 0, 0, 0), (1, .istore_n 2, 1, 2, 0, 0, 0), (2, .iload_n 2, 1, 2, 0, 0, 0), (3, .bipush 8, 2, 0, 0, 8, 0), (5, .if_icmp .ge 30, 3, 35, 0, 0, 0), (8, .aload_n 0, 1, 0, 0, 0, 0), (9, .getfield 9, 3, 1, 0, 0, 0), (12, .iload_n 2, 1, 2, 0, 0, 0), (13, .iload_n 1, 1, 1, 0, 0, 0), (14, .iload_n 2, 1, 2, 0, 0, 0), (15, .ishr, 1, 0, 0, 0, 0), (16, .iconst 1, 1, 0, 0, 1, 0), (17, .iand, 1, 0, 0, 0, 0), (18, .iconst 1, 1, 0, 0, 1, 0), (19, .if_icmp .ne 7, 3, 26, 0, 0, 0), (22, .iconst 0, 1, 0, 0, 0, 0), (23, .goto 5, 3, 28, 0, 0, 0), (26, .bipush 31, 2, 0, 0, 31, 0), (28, .iastore, 1, 0, 0, 0, 0), (29, .iinc 2 1, 3, 2, 0, 1, 0), (32, .goto (-30), 3, 2, 0, 0, 0), (35, .return_, 1, 0, 0, 0, 0)]
theorem tkX1_begin : tOk cX1_begin "RumourSource$Spread" 3 tX1_begin = true := by decide +kernel
theorem fX1_begin_0 : fetch tX1_begin 0 = some (.iconst 0, 1, 0, 0, 0, 0) := rfl
theorem fX1_begin_1 : fetch tX1_begin 1 = some (.istore_n 2, 1, 2, 0, 0, 0) := rfl
theorem fX1_begin_2 : fetch tX1_begin 2 = some (.iload_n 2, 1, 2, 0, 0, 0) := rfl
theorem fX1_begin_3 : fetch tX1_begin 3 = some (.bipush 8, 2, 0, 0, 8, 0) := rfl
theorem fX1_begin_5 : fetch tX1_begin 5 = some (.if_icmp .ge 30, 3, 35, 0, 0, 0) := rfl
theorem fX1_begin_8 : fetch tX1_begin 8 = some (.aload_n 0, 1, 0, 0, 0, 0) := rfl
theorem fX1_begin_9 : fetch tX1_begin 9 = some (.getfield 9, 3, 1, 0, 0, 0) := rfl
theorem fX1_begin_12 : fetch tX1_begin 12 = some (.iload_n 2, 1, 2, 0, 0, 0) := rfl
theorem fX1_begin_13 : fetch tX1_begin 13 = some (.iload_n 1, 1, 1, 0, 0, 0) := rfl
theorem fX1_begin_14 : fetch tX1_begin 14 = some (.iload_n 2, 1, 2, 0, 0, 0) := rfl
theorem fX1_begin_15 : fetch tX1_begin 15 = some (.ishr, 1, 0, 0, 0, 0) := rfl
theorem fX1_begin_16 : fetch tX1_begin 16 = some (.iconst 1, 1, 0, 0, 1, 0) := rfl
theorem fX1_begin_17 : fetch tX1_begin 17 = some (.iand, 1, 0, 0, 0, 0) := rfl
theorem fX1_begin_18 : fetch tX1_begin 18 = some (.iconst 1, 1, 0, 0, 1, 0) := rfl
theorem fX1_begin_19 : fetch tX1_begin 19 = some (.if_icmp .ne 7, 3, 26, 0, 0, 0) := rfl
theorem fX1_begin_22 : fetch tX1_begin 22 = some (.iconst 0, 1, 0, 0, 0, 0) := rfl
theorem fX1_begin_23 : fetch tX1_begin 23 = some (.goto 5, 3, 28, 0, 0, 0) := rfl
theorem fX1_begin_26 : fetch tX1_begin 26 = some (.bipush 31, 2, 0, 0, 31, 0) := rfl
theorem fX1_begin_28 : fetch tX1_begin 28 = some (.iastore, 1, 0, 0, 0, 0) := rfl
theorem fX1_begin_29 : fetch tX1_begin 29 = some (.iinc 2 1, 3, 2, 0, 1, 0) := rfl
theorem fX1_begin_32 : fetch tX1_begin 32 = some (.goto (-30), 3, 2, 0, 0, 0) := rfl
theorem fX1_begin_35 : fetch tX1_begin 35 = some (.return_, 1, 0, 0, 0, 0) := rfl
def tX1_follow : List (Nat × TE) := [(0, .aload_n 0, 1, 0, 0, 0, 0), (1, .iload_n 2, 1, 2, 0, 0, 0), (2, .invokevirtual 52, 3, 0, 1, 0, 0), (5, .iconst 1, 1, 0, 0, 1, 0), (6, .istore 4, 2, 4, 0, 0, 0), (8, .iload 4, 2, 4, 0, 0, 0), (10, .bipush 8, 2, 0, 0, 8, 0), (12, .if_icmp .ge 89, 3, 101, 0, 0, 0), (15, .iconst 0, 1, 0, 0, 0, 0), (16, .istore 5, 2, 5, 0, 0, 0), (18, .iload 5, 2, 5, 0, 0, 0), (20, .aload_n 1, 1, 1, 0, 0, 0), (21, .getfield 56, 3, 0, 4, 0, 0), (24, .if_icmp .ge 71, 3, 95, 0, 0, 0), (27, .aload_n 1, 1, 1, 0, 0, 0), (28, .getfield 59, 3, 0, 1, 0, 0), (31, .iload 5, 2, 5, 0, 0, 0), (33, .iaload, 1, 0, 0, 0, 0), (34, .istore 6, 2, 6, 0, 0, 0), (36, .iload_n 3, 1, 3, 0, 0, 0), (37, .iload 5, 2, 5, 0, 0, 0), (39, .ishr, 1, 0, 0, 0, 0), (40, .iconst 1, 1, 0, 0, 1, 0), (41, .iand, 1, 0, 0, 0, 0), (42, .iconst 1, 1, 0, 0, 1, 0), (43, .if_icmp .ne 13, 3, 56, 0, 0, 0), (46, .aload_n 0, 1, 0, 0, 0, 0), (47, .aload_n 1, 1, 1, 0, 0, 0), (48, .iload 5, 2, 5, 0, 0, 0), (50, .invokevirtual 62, 3, 1, 1, 0, 0), (53, .goto 5, 3, 58, 0, 0, 0), (56, .bipush 31, 2, 0, 0, 31, 0), (58, .istore 7, 2, 7, 0, 0, 0), (60, .iload 6, 2, 6, 0, 0, 0), (62, .invokestatic 43, 3, 2, 3, 0, 0), (65, .ifCond .eq 24, 3, 89, 0, 0, 0), (68, .iload 7, 2, 7, 0, 0, 0), (70, .aload_n 0, 1, 0, 0, 0, 0), (71, .getfield 9, 3, 1, 0, 0, 0), (74, .iload 6, 2, 6, 0, 0, 0), (76, .iaload, 1, 0, 0, 0, 0), (77, .if_icmp .ge 12, 3, 89, 0, 0, 0), (80, .aload_n 0, 1, 0, 0, 0, 0), (81, .getfield 9, 3, 1, 0, 0, 0), (84, .iload 6, 2, 6, 0, 0, 0), (86, .iload 7, 2, 7, 0, 0, 0), (88, .iastore, 1, 0, 0, 0, 0), (89, .iinc 5 1, 3, 5, 0, 1, 0), (92, .goto (-74), 3, 18, 0, 0, 0), (95, .iinc 4 1, 3, 4, 0, 1, 0), (98, .goto (-90), 3, 8, 0, 0, 0), (101, .return_, 1, 0, 0, 0, 0)]
theorem tkX1_follow : tOk cX1_follow "RumourSource$Spread" 8 tX1_follow = true := by decide +kernel
theorem fX1_follow_0 : fetch tX1_follow 0 = some (.aload_n 0, 1, 0, 0, 0, 0) := rfl
theorem fX1_follow_1 : fetch tX1_follow 1 = some (.iload_n 2, 1, 2, 0, 0, 0) := rfl
theorem fX1_follow_2 : fetch tX1_follow 2 = some (.invokevirtual 52, 3, 0, 1, 0, 0) := rfl
theorem fX1_follow_5 : fetch tX1_follow 5 = some (.iconst 1, 1, 0, 0, 1, 0) := rfl
theorem fX1_follow_6 : fetch tX1_follow 6 = some (.istore 4, 2, 4, 0, 0, 0) := rfl
theorem fX1_follow_8 : fetch tX1_follow 8 = some (.iload 4, 2, 4, 0, 0, 0) := rfl
theorem fX1_follow_10 : fetch tX1_follow 10 = some (.bipush 8, 2, 0, 0, 8, 0) := rfl
theorem fX1_follow_12 : fetch tX1_follow 12 = some (.if_icmp .ge 89, 3, 101, 0, 0, 0) := rfl
theorem fX1_follow_15 : fetch tX1_follow 15 = some (.iconst 0, 1, 0, 0, 0, 0) := rfl
theorem fX1_follow_16 : fetch tX1_follow 16 = some (.istore 5, 2, 5, 0, 0, 0) := rfl
theorem fX1_follow_18 : fetch tX1_follow 18 = some (.iload 5, 2, 5, 0, 0, 0) := rfl
theorem fX1_follow_20 : fetch tX1_follow 20 = some (.aload_n 1, 1, 1, 0, 0, 0) := rfl
theorem fX1_follow_21 : fetch tX1_follow 21 = some (.getfield 56, 3, 0, 4, 0, 0) := rfl
theorem fX1_follow_24 : fetch tX1_follow 24 = some (.if_icmp .ge 71, 3, 95, 0, 0, 0) := rfl
theorem fX1_follow_27 : fetch tX1_follow 27 = some (.aload_n 1, 1, 1, 0, 0, 0) := rfl
theorem fX1_follow_28 : fetch tX1_follow 28 = some (.getfield 59, 3, 0, 1, 0, 0) := rfl
theorem fX1_follow_31 : fetch tX1_follow 31 = some (.iload 5, 2, 5, 0, 0, 0) := rfl
theorem fX1_follow_33 : fetch tX1_follow 33 = some (.iaload, 1, 0, 0, 0, 0) := rfl
theorem fX1_follow_34 : fetch tX1_follow 34 = some (.istore 6, 2, 6, 0, 0, 0) := rfl
theorem fX1_follow_36 : fetch tX1_follow 36 = some (.iload_n 3, 1, 3, 0, 0, 0) := rfl
theorem fX1_follow_37 : fetch tX1_follow 37 = some (.iload 5, 2, 5, 0, 0, 0) := rfl
theorem fX1_follow_39 : fetch tX1_follow 39 = some (.ishr, 1, 0, 0, 0, 0) := rfl
theorem fX1_follow_40 : fetch tX1_follow 40 = some (.iconst 1, 1, 0, 0, 1, 0) := rfl
theorem fX1_follow_41 : fetch tX1_follow 41 = some (.iand, 1, 0, 0, 0, 0) := rfl
theorem fX1_follow_42 : fetch tX1_follow 42 = some (.iconst 1, 1, 0, 0, 1, 0) := rfl
theorem fX1_follow_43 : fetch tX1_follow 43 = some (.if_icmp .ne 13, 3, 56, 0, 0, 0) := rfl
theorem fX1_follow_46 : fetch tX1_follow 46 = some (.aload_n 0, 1, 0, 0, 0, 0) := rfl
theorem fX1_follow_47 : fetch tX1_follow 47 = some (.aload_n 1, 1, 1, 0, 0, 0) := rfl
theorem fX1_follow_48 : fetch tX1_follow 48 = some (.iload 5, 2, 5, 0, 0, 0) := rfl
theorem fX1_follow_50 : fetch tX1_follow 50 = some (.invokevirtual 62, 3, 1, 1, 0, 0) := rfl
theorem fX1_follow_53 : fetch tX1_follow 53 = some (.goto 5, 3, 58, 0, 0, 0) := rfl
theorem fX1_follow_56 : fetch tX1_follow 56 = some (.bipush 31, 2, 0, 0, 31, 0) := rfl
theorem fX1_follow_58 : fetch tX1_follow 58 = some (.istore 7, 2, 7, 0, 0, 0) := rfl
theorem fX1_follow_60 : fetch tX1_follow 60 = some (.iload 6, 2, 6, 0, 0, 0) := rfl
theorem fX1_follow_62 : fetch tX1_follow 62 = some (.invokestatic 43, 3, 2, 3, 0, 0) := rfl
theorem fX1_follow_65 : fetch tX1_follow 65 = some (.ifCond .eq 24, 3, 89, 0, 0, 0) := rfl
theorem fX1_follow_68 : fetch tX1_follow 68 = some (.iload 7, 2, 7, 0, 0, 0) := rfl
theorem fX1_follow_70 : fetch tX1_follow 70 = some (.aload_n 0, 1, 0, 0, 0, 0) := rfl
theorem fX1_follow_71 : fetch tX1_follow 71 = some (.getfield 9, 3, 1, 0, 0, 0) := rfl
theorem fX1_follow_74 : fetch tX1_follow 74 = some (.iload 6, 2, 6, 0, 0, 0) := rfl
theorem fX1_follow_76 : fetch tX1_follow 76 = some (.iaload, 1, 0, 0, 0, 0) := rfl
theorem fX1_follow_77 : fetch tX1_follow 77 = some (.if_icmp .ge 12, 3, 89, 0, 0, 0) := rfl
theorem fX1_follow_80 : fetch tX1_follow 80 = some (.aload_n 0, 1, 0, 0, 0, 0) := rfl
theorem fX1_follow_81 : fetch tX1_follow 81 = some (.getfield 9, 3, 1, 0, 0, 0) := rfl
theorem fX1_follow_84 : fetch tX1_follow 84 = some (.iload 6, 2, 6, 0, 0, 0) := rfl
theorem fX1_follow_86 : fetch tX1_follow 86 = some (.iload 7, 2, 7, 0, 0, 0) := rfl
theorem fX1_follow_88 : fetch tX1_follow 88 = some (.iastore, 1, 0, 0, 0, 0) := rfl
theorem fX1_follow_89 : fetch tX1_follow 89 = some (.iinc 5 1, 3, 5, 0, 1, 0) := rfl
theorem fX1_follow_92 : fetch tX1_follow 92 = some (.goto (-74), 3, 18, 0, 0, 0) := rfl
theorem fX1_follow_95 : fetch tX1_follow 95 = some (.iinc 4 1, 3, 4, 0, 1, 0) := rfl
theorem fX1_follow_98 : fetch tX1_follow 98 = some (.goto (-90), 3, 8, 0, 0, 0) := rfl
theorem fX1_follow_101 : fetch tX1_follow 101 = some (.return_, 1, 0, 0, 0, 0) := rfl
def tX1_arrivalBy : List (Nat × TE) := [(0, .aload_n 1, 1, 1, 0, 0, 0), (1, .getfield 66, 3, 0, 0, 0, 0), (4, .iload_n 2, 1, 2, 0, 0, 0), (5, .iaload, 1, 0, 0, 0, 0), (6, .istore_n 3, 1, 3, 0, 0, 0), (7, .iload_n 3, 1, 3, 0, 0, 0), (8, .invokestatic 43, 3, 0, 3, 0, 0), (11, .ifCond .eq 14, 3, 25, 0, 0, 0), (14, .aload_n 0, 1, 0, 0, 0, 0), (15, .getfield 9, 3, 1, 0, 0, 0), (18, .iload_n 3, 1, 3, 0, 0, 0), (19, .iaload, 1, 0, 0, 0, 0), (20, .bipush 31, 2, 0, 0, 31, 0), (22, .if_icmp .ne 6, 3, 28, 0, 0, 0), (25, .bipush 31, 2, 0, 0, 31, 0), (27, .ireturn, 1, 0, 0, 0, 0), (28, .aload_n 0, 1, 0, 0, 0, 0), (29, .getfield 9, 3, 1, 0, 0, 0), (32, .iload_n 3, 1, 3, 0, 0, 0), (33, .iaload, 1, 0, 0, 0, 0), (34, .aload_n 1, 1, 1, 0, 0, 0), (35, .getfield 69, 3, 0, 3, 0, 0), (38, .iload_n 2, 1, 2, 0, 0, 0), (39, .iaload, 1, 0, 0, 0, 0), (40, .iadd, 1, 0, 0, 0, 0), (41, .istore 4, 2, 4, 0, 0, 0), (43, .iload 4, 2, 4, 0, 0, 0), (45, .aload_n 1, 1, 1, 0, 0, 0), (46, .getfield 72, 3, 0, 5, 0, 0), (49, .if_icmp .gt 8, 3, 57, 0, 0, 0), (52, .iload 4, 2, 4, 0, 0, 0), (54, .goto 5, 3, 59, 0, 0, 0), (57, .bipush 31, 2, 0, 0, 31, 0), (59, .ireturn, 1, 0, 0, 0, 0)]
theorem tkX1_arrivalBy : tOk cX1_arrivalBy "RumourSource$Spread" 5 tX1_arrivalBy = true := by decide +kernel
theorem fX1_arrivalBy_0 : fetch tX1_arrivalBy 0 = some (.aload_n 1, 1, 1, 0, 0, 0) := rfl
theorem fX1_arrivalBy_1 : fetch tX1_arrivalBy 1 = some (.getfield 66, 3, 0, 0, 0, 0) := rfl
theorem fX1_arrivalBy_4 : fetch tX1_arrivalBy 4 = some (.iload_n 2, 1, 2, 0, 0, 0) := rfl
theorem fX1_arrivalBy_5 : fetch tX1_arrivalBy 5 = some (.iaload, 1, 0, 0, 0, 0) := rfl
theorem fX1_arrivalBy_6 : fetch tX1_arrivalBy 6 = some (.istore_n 3, 1, 3, 0, 0, 0) := rfl
theorem fX1_arrivalBy_7 : fetch tX1_arrivalBy 7 = some (.iload_n 3, 1, 3, 0, 0, 0) := rfl
theorem fX1_arrivalBy_8 : fetch tX1_arrivalBy 8 = some (.invokestatic 43, 3, 0, 3, 0, 0) := rfl
theorem fX1_arrivalBy_11 : fetch tX1_arrivalBy 11 = some (.ifCond .eq 14, 3, 25, 0, 0, 0) := rfl
theorem fX1_arrivalBy_14 : fetch tX1_arrivalBy 14 = some (.aload_n 0, 1, 0, 0, 0, 0) := rfl
theorem fX1_arrivalBy_15 : fetch tX1_arrivalBy 15 = some (.getfield 9, 3, 1, 0, 0, 0) := rfl
theorem fX1_arrivalBy_18 : fetch tX1_arrivalBy 18 = some (.iload_n 3, 1, 3, 0, 0, 0) := rfl
theorem fX1_arrivalBy_19 : fetch tX1_arrivalBy 19 = some (.iaload, 1, 0, 0, 0, 0) := rfl
theorem fX1_arrivalBy_20 : fetch tX1_arrivalBy 20 = some (.bipush 31, 2, 0, 0, 31, 0) := rfl
theorem fX1_arrivalBy_22 : fetch tX1_arrivalBy 22 = some (.if_icmp .ne 6, 3, 28, 0, 0, 0) := rfl
theorem fX1_arrivalBy_25 : fetch tX1_arrivalBy 25 = some (.bipush 31, 2, 0, 0, 31, 0) := rfl
theorem fX1_arrivalBy_27 : fetch tX1_arrivalBy 27 = some (.ireturn, 1, 0, 0, 0, 0) := rfl
theorem fX1_arrivalBy_28 : fetch tX1_arrivalBy 28 = some (.aload_n 0, 1, 0, 0, 0, 0) := rfl
theorem fX1_arrivalBy_29 : fetch tX1_arrivalBy 29 = some (.getfield 9, 3, 1, 0, 0, 0) := rfl
theorem fX1_arrivalBy_32 : fetch tX1_arrivalBy 32 = some (.iload_n 3, 1, 3, 0, 0, 0) := rfl
theorem fX1_arrivalBy_33 : fetch tX1_arrivalBy 33 = some (.iaload, 1, 0, 0, 0, 0) := rfl
theorem fX1_arrivalBy_34 : fetch tX1_arrivalBy 34 = some (.aload_n 1, 1, 1, 0, 0, 0) := rfl
theorem fX1_arrivalBy_35 : fetch tX1_arrivalBy 35 = some (.getfield 69, 3, 0, 3, 0, 0) := rfl
theorem fX1_arrivalBy_38 : fetch tX1_arrivalBy 38 = some (.iload_n 2, 1, 2, 0, 0, 0) := rfl
theorem fX1_arrivalBy_39 : fetch tX1_arrivalBy 39 = some (.iaload, 1, 0, 0, 0, 0) := rfl
theorem fX1_arrivalBy_40 : fetch tX1_arrivalBy 40 = some (.iadd, 1, 0, 0, 0, 0) := rfl
theorem fX1_arrivalBy_41 : fetch tX1_arrivalBy 41 = some (.istore 4, 2, 4, 0, 0, 0) := rfl
theorem fX1_arrivalBy_43 : fetch tX1_arrivalBy 43 = some (.iload 4, 2, 4, 0, 0, 0) := rfl
theorem fX1_arrivalBy_45 : fetch tX1_arrivalBy 45 = some (.aload_n 1, 1, 1, 0, 0, 0) := rfl
theorem fX1_arrivalBy_46 : fetch tX1_arrivalBy 46 = some (.getfield 72, 3, 0, 5, 0, 0) := rfl
theorem fX1_arrivalBy_49 : fetch tX1_arrivalBy 49 = some (.if_icmp .gt 8, 3, 57, 0, 0, 0) := rfl
theorem fX1_arrivalBy_52 : fetch tX1_arrivalBy 52 = some (.iload 4, 2, 4, 0, 0, 0) := rfl
theorem fX1_arrivalBy_54 : fetch tX1_arrivalBy 54 = some (.goto 5, 3, 59, 0, 0, 0) := rfl
theorem fX1_arrivalBy_57 : fetch tX1_arrivalBy 57 = some (.bipush 31, 2, 0, 0, 31, 0) := rfl
theorem fX1_arrivalBy_59 : fetch tX1_arrivalBy 59 = some (.ireturn, 1, 0, 0, 0, 0) := rfl
def tX1_isAsWanted : List (Nat × TE) := [(0, .aload_n 0, 1, 0, 0, 0, 0), (1, .bipush 31, 2, 0, 0, 31, 0), (3, .invokevirtual 75, 3, 0, 1, 0, 0), (6, .ireturn, 1, 0, 0, 0, 0)]
theorem tkX1_isAsWanted : tOk cX1_isAsWanted "RumourSource$Spread" 1 tX1_isAsWanted = true := by decide +kernel
theorem fX1_isAsWanted_0 : fetch tX1_isAsWanted 0 = some (.aload_n 0, 1, 0, 0, 0, 0) := rfl
theorem fX1_isAsWanted_1 : fetch tX1_isAsWanted 1 = some (.bipush 31, 2, 0, 0, 31, 0) := rfl
theorem fX1_isAsWanted_3 : fetch tX1_isAsWanted 3 = some (.invokevirtual 75, 3, 0, 1, 0, 0) := rfl
theorem fX1_isAsWanted_6 : fetch tX1_isAsWanted 6 = some (.ireturn, 1, 0, 0, 0, 0) := rfl
def tX1_canBeAsWanted : List (Nat × TE) := [(0, .iconst 0, 1, 0, 0, 0, 0), (1, .istore_n 2, 1, 2, 0, 0, 0), (2, .iload_n 2, 1, 2, 0, 0, 0), (3, .bipush 8, 2, 0, 0, 8, 0), (5, .if_icmp .ge 52, 3, 57, 0, 0, 0), (8, .aload_n 0, 1, 0, 0, 0, 0), (9, .getfield 15, 3, 1, 1, 0, 0), (12, .iload_n 2, 1, 2, 0, 0, 0), (13, .iaload, 1, 0, 0, 0, 0), (14, .istore_n 3, 1, 3, 0, 0, 0), (15, .iload_n 3, 1, 3, 0, 0, 0), (16, .bipush 100, 2, 0, 0, 100, 0), (18, .if_icmp .ne 6, 3, 24, 0, 0, 0), (21, .goto 30, 3, 51, 0, 0, 0), (24, .aload_n 0, 1, 0, 0, 0, 0), (25, .getfield 9, 3, 1, 0, 0, 0), (28, .iload_n 2, 1, 2, 0, 0, 0), (29, .iaload, 1, 0, 0, 0, 0), (30, .istore 4, 2, 4, 0, 0, 0), (32, .iload 4, 2, 4, 0, 0, 0), (34, .iload_n 3, 1, 3, 0, 0, 0), (35, .if_icmp .lt 14, 3, 49, 0, 0, 0), (38, .iload 4, 2, 4, 0, 0, 0), (40, .iload_n 3, 1, 3, 0, 0, 0), (41, .if_icmp .le 10, 3, 51, 0, 0, 0), (44, .iload_n 1, 1, 1, 0, 0, 0), (45, .iload_n 3, 1, 3, 0, 0, 0), (46, .if_icmp .le 5, 3, 51, 0, 0, 0), (49, .iconst 0, 1, 0, 0, 0, 0), (50, .ireturn, 1, 0, 0, 0, 0), (51, .iinc 2 1, 3, 2, 0, 1, 0), (54, .goto (-52), 3, 2, 0, 0, 0), (57, .iconst 1, 1, 0, 0, 1, 0), (58, .ireturn, 1, 0, 0, 0, 0)]
theorem tkX1_canBeAsWanted : tOk cX1_canBeAsWanted "RumourSource$Spread" 5 tX1_canBeAsWanted = true := by decide +kernel
theorem fX1_canBeAsWanted_0 : fetch tX1_canBeAsWanted 0 = some (.iconst 0, 1, 0, 0, 0, 0) := rfl
theorem fX1_canBeAsWanted_1 : fetch tX1_canBeAsWanted 1 = some (.istore_n 2, 1, 2, 0, 0, 0) := rfl
theorem fX1_canBeAsWanted_2 : fetch tX1_canBeAsWanted 2 = some (.iload_n 2, 1, 2, 0, 0, 0) := rfl
theorem fX1_canBeAsWanted_3 : fetch tX1_canBeAsWanted 3 = some (.bipush 8, 2, 0, 0, 8, 0) := rfl
theorem fX1_canBeAsWanted_5 : fetch tX1_canBeAsWanted 5 = some (.if_icmp .ge 52, 3, 57, 0, 0, 0) := rfl
theorem fX1_canBeAsWanted_8 : fetch tX1_canBeAsWanted 8 = some (.aload_n 0, 1, 0, 0, 0, 0) := rfl
theorem fX1_canBeAsWanted_9 : fetch tX1_canBeAsWanted 9 = some (.getfield 15, 3, 1, 1, 0, 0) := rfl
theorem fX1_canBeAsWanted_12 : fetch tX1_canBeAsWanted 12 = some (.iload_n 2, 1, 2, 0, 0, 0) := rfl
theorem fX1_canBeAsWanted_13 : fetch tX1_canBeAsWanted 13 = some (.iaload, 1, 0, 0, 0, 0) := rfl
theorem fX1_canBeAsWanted_14 : fetch tX1_canBeAsWanted 14 = some (.istore_n 3, 1, 3, 0, 0, 0) := rfl
theorem fX1_canBeAsWanted_15 : fetch tX1_canBeAsWanted 15 = some (.iload_n 3, 1, 3, 0, 0, 0) := rfl
theorem fX1_canBeAsWanted_16 : fetch tX1_canBeAsWanted 16 = some (.bipush 100, 2, 0, 0, 100, 0) := rfl
theorem fX1_canBeAsWanted_18 : fetch tX1_canBeAsWanted 18 = some (.if_icmp .ne 6, 3, 24, 0, 0, 0) := rfl
theorem fX1_canBeAsWanted_21 : fetch tX1_canBeAsWanted 21 = some (.goto 30, 3, 51, 0, 0, 0) := rfl
theorem fX1_canBeAsWanted_24 : fetch tX1_canBeAsWanted 24 = some (.aload_n 0, 1, 0, 0, 0, 0) := rfl
theorem fX1_canBeAsWanted_25 : fetch tX1_canBeAsWanted 25 = some (.getfield 9, 3, 1, 0, 0, 0) := rfl
theorem fX1_canBeAsWanted_28 : fetch tX1_canBeAsWanted 28 = some (.iload_n 2, 1, 2, 0, 0, 0) := rfl
theorem fX1_canBeAsWanted_29 : fetch tX1_canBeAsWanted 29 = some (.iaload, 1, 0, 0, 0, 0) := rfl
theorem fX1_canBeAsWanted_30 : fetch tX1_canBeAsWanted 30 = some (.istore 4, 2, 4, 0, 0, 0) := rfl
theorem fX1_canBeAsWanted_32 : fetch tX1_canBeAsWanted 32 = some (.iload 4, 2, 4, 0, 0, 0) := rfl
theorem fX1_canBeAsWanted_34 : fetch tX1_canBeAsWanted 34 = some (.iload_n 3, 1, 3, 0, 0, 0) := rfl
theorem fX1_canBeAsWanted_35 : fetch tX1_canBeAsWanted 35 = some (.if_icmp .lt 14, 3, 49, 0, 0, 0) := rfl
theorem fX1_canBeAsWanted_38 : fetch tX1_canBeAsWanted 38 = some (.iload 4, 2, 4, 0, 0, 0) := rfl
theorem fX1_canBeAsWanted_40 : fetch tX1_canBeAsWanted 40 = some (.iload_n 3, 1, 3, 0, 0, 0) := rfl
theorem fX1_canBeAsWanted_41 : fetch tX1_canBeAsWanted 41 = some (.if_icmp .le 10, 3, 51, 0, 0, 0) := rfl
theorem fX1_canBeAsWanted_44 : fetch tX1_canBeAsWanted 44 = some (.iload_n 1, 1, 1, 0, 0, 0) := rfl
theorem fX1_canBeAsWanted_45 : fetch tX1_canBeAsWanted 45 = some (.iload_n 3, 1, 3, 0, 0, 0) := rfl
theorem fX1_canBeAsWanted_46 : fetch tX1_canBeAsWanted 46 = some (.if_icmp .le 5, 3, 51, 0, 0, 0) := rfl
theorem fX1_canBeAsWanted_49 : fetch tX1_canBeAsWanted 49 = some (.iconst 0, 1, 0, 0, 0, 0) := rfl
theorem fX1_canBeAsWanted_50 : fetch tX1_canBeAsWanted 50 = some (.ireturn, 1, 0, 0, 0, 0) := rfl
theorem fX1_canBeAsWanted_51 : fetch tX1_canBeAsWanted 51 = some (.iinc 2 1, 3, 2, 0, 1, 0) := rfl
theorem fX1_canBeAsWanted_54 : fetch tX1_canBeAsWanted 54 = some (.goto (-52), 3, 2, 0, 0, 0) := rfl
theorem fX1_canBeAsWanted_57 : fetch tX1_canBeAsWanted 57 = some (.iconst 1, 1, 0, 0, 1, 0) := rfl
theorem fX1_canBeAsWanted_58 : fetch tX1_canBeAsWanted 58 = some (.ireturn, 1, 0, 0, 0, 0) := rfl
def tX1_search : List (Nat × TE) := [(0, .aload_n 0, 1, 0, 0, 0, 0), (1, .lconst 0, 1, 0, 0, 0, 0), (2, .putfield 18, 3, 1, 2, 0, 0), (5, .aload_n 0, 1, 0, 0, 0, 0), (6, .lconst 0, 1, 0, 0, 0, 0), (7, .putfield 22, 3, 1, 3, 0, 0), (10, .aload_n 0, 1, 0, 0, 0, 0), (11, .lconst 0, 1, 0, 0, 0, 0), (12, .putfield 25, 3, 1, 4, 0, 0), (15, .aload_n 0, 1, 0, 0, 0, 0), (16, .iconst (-1), 1, 0, 0, (-1), 0), (17, .putfield 28, 3, 1, 5, 0, 0), (20, .aload_n 0, 1, 0, 0, 0, 0), (21, .iload_n 3, 1, 3, 0, 0, 0), (22, .putfield 36, 3, 1, 7, 0, 0), (25, .iconst 0, 1, 0, 0, 0, 0), (26, .istore 4, 2, 4, 0, 0, 0), (28, .iload 4, 2, 4, 0, 0, 0), (30, .bipush 8, 2, 0, 0, 8, 0), (32, .if_icmp .ge 17, 3, 49, 0, 0, 0), (35, .aload_n 0, 1, 0, 0, 0, 0), (36, .getfield 32, 3, 1, 6, 0, 0), (39, .iload 4, 2, 4, 0, 0, 0), (41, .lconst 0, 1, 0, 0, 0, 0), (42, .lastore, 1, 0, 0, 0, 0), (43, .iinc 4 1, 3, 4, 0, 1, 0), (46, .goto (-18), 3, 28, 0, 0, 0), (49, .aload_n 0, 1, 0, 0, 0, 0), (50, .iload_n 2, 1, 2, 0, 0, 0), (51, .invokevirtual 52, 3, 0, 1, 0, 0), (54, .aload_n 0, 1, 0, 0, 0, 0), (55, .aload_n 1, 1, 1, 0, 0, 0), (56, .iconst 0, 1, 0, 0, 0, 0), (57, .iconst 0, 1, 0, 0, 0, 0), (58, .iconst 0, 1, 0, 0, 0, 0), (59, .lconst 1, 1, 0, 0, 0, 1), (60, .invokestatic 78, 3, 1, 1, 0, 0), (63, .return_, 1, 0, 0, 0, 0)]
theorem tkX1_search : tOk cX1_search "RumourSource$Spread" 5 tX1_search = true := by decide +kernel
theorem fX1_search_0 : fetch tX1_search 0 = some (.aload_n 0, 1, 0, 0, 0, 0) := rfl
theorem fX1_search_1 : fetch tX1_search 1 = some (.lconst 0, 1, 0, 0, 0, 0) := rfl
theorem fX1_search_2 : fetch tX1_search 2 = some (.putfield 18, 3, 1, 2, 0, 0) := rfl
theorem fX1_search_5 : fetch tX1_search 5 = some (.aload_n 0, 1, 0, 0, 0, 0) := rfl
theorem fX1_search_6 : fetch tX1_search 6 = some (.lconst 0, 1, 0, 0, 0, 0) := rfl
theorem fX1_search_7 : fetch tX1_search 7 = some (.putfield 22, 3, 1, 3, 0, 0) := rfl
theorem fX1_search_10 : fetch tX1_search 10 = some (.aload_n 0, 1, 0, 0, 0, 0) := rfl
theorem fX1_search_11 : fetch tX1_search 11 = some (.lconst 0, 1, 0, 0, 0, 0) := rfl
theorem fX1_search_12 : fetch tX1_search 12 = some (.putfield 25, 3, 1, 4, 0, 0) := rfl
theorem fX1_search_15 : fetch tX1_search 15 = some (.aload_n 0, 1, 0, 0, 0, 0) := rfl
theorem fX1_search_16 : fetch tX1_search 16 = some (.iconst (-1), 1, 0, 0, (-1), 0) := rfl
theorem fX1_search_17 : fetch tX1_search 17 = some (.putfield 28, 3, 1, 5, 0, 0) := rfl
theorem fX1_search_20 : fetch tX1_search 20 = some (.aload_n 0, 1, 0, 0, 0, 0) := rfl
theorem fX1_search_21 : fetch tX1_search 21 = some (.iload_n 3, 1, 3, 0, 0, 0) := rfl
theorem fX1_search_22 : fetch tX1_search 22 = some (.putfield 36, 3, 1, 7, 0, 0) := rfl
theorem fX1_search_25 : fetch tX1_search 25 = some (.iconst 0, 1, 0, 0, 0, 0) := rfl
theorem fX1_search_26 : fetch tX1_search 26 = some (.istore 4, 2, 4, 0, 0, 0) := rfl
theorem fX1_search_28 : fetch tX1_search 28 = some (.iload 4, 2, 4, 0, 0, 0) := rfl
theorem fX1_search_30 : fetch tX1_search 30 = some (.bipush 8, 2, 0, 0, 8, 0) := rfl
theorem fX1_search_32 : fetch tX1_search 32 = some (.if_icmp .ge 17, 3, 49, 0, 0, 0) := rfl
theorem fX1_search_35 : fetch tX1_search 35 = some (.aload_n 0, 1, 0, 0, 0, 0) := rfl
theorem fX1_search_36 : fetch tX1_search 36 = some (.getfield 32, 3, 1, 6, 0, 0) := rfl
theorem fX1_search_39 : fetch tX1_search 39 = some (.iload 4, 2, 4, 0, 0, 0) := rfl
theorem fX1_search_41 : fetch tX1_search 41 = some (.lconst 0, 1, 0, 0, 0, 0) := rfl
theorem fX1_search_42 : fetch tX1_search 42 = some (.lastore, 1, 0, 0, 0, 0) := rfl
theorem fX1_search_43 : fetch tX1_search 43 = some (.iinc 4 1, 3, 4, 0, 1, 0) := rfl
theorem fX1_search_46 : fetch tX1_search 46 = some (.goto (-18), 3, 28, 0, 0, 0) := rfl
theorem fX1_search_49 : fetch tX1_search 49 = some (.aload_n 0, 1, 0, 0, 0, 0) := rfl
theorem fX1_search_50 : fetch tX1_search 50 = some (.iload_n 2, 1, 2, 0, 0, 0) := rfl
theorem fX1_search_51 : fetch tX1_search 51 = some (.invokevirtual 52, 3, 0, 1, 0, 0) := rfl
theorem fX1_search_54 : fetch tX1_search 54 = some (.aload_n 0, 1, 0, 0, 0, 0) := rfl
theorem fX1_search_55 : fetch tX1_search 55 = some (.aload_n 1, 1, 1, 0, 0, 0) := rfl
theorem fX1_search_56 : fetch tX1_search 56 = some (.iconst 0, 1, 0, 0, 0, 0) := rfl
theorem fX1_search_57 : fetch tX1_search 57 = some (.iconst 0, 1, 0, 0, 0, 0) := rfl
theorem fX1_search_58 : fetch tX1_search 58 = some (.iconst 0, 1, 0, 0, 0, 0) := rfl
theorem fX1_search_59 : fetch tX1_search 59 = some (.lconst 1, 1, 0, 0, 0, 1) := rfl
theorem fX1_search_60 : fetch tX1_search 60 = some (.invokestatic 78, 3, 1, 1, 0, 0) := rfl
theorem fX1_search_63 : fetch tX1_search 63 = some (.return_, 1, 0, 0, 0, 0) := rfl
def tX1_decide : List (Nat × TE) := [(0, .iload_n 2, 1, 2, 0, 0, 0), (1, .bipush 12, 2, 0, 0, 12, 0), (3, .if_icmp .gt 19, 3, 22, 0, 0, 0), (6, .aload_n 0, 1, 0, 0, 0, 0), (7, .getfield 36, 3, 1, 7, 0, 0), (10, .ifCond .eq 13, 3, 23, 0, 0, 0), (13, .aload_n 0, 1, 0, 0, 0, 0), (14, .getfield 18, 3, 1, 2, 0, 0), (17, .lconst 0, 1, 0, 0, 0, 0), (18, .lcmp, 1, 0, 0, 0, 0), (19, .ifCond .le 4, 3, 23, 0, 0, 0), (22, .return_, 1, 0, 0, 0, 0), (23, .aload_n 0, 1, 0, 0, 0, 0), (24, .aload_n 1, 1, 1, 0, 0, 0), (25, .iload_n 3, 1, 3, 0, 0, 0), (26, .invokevirtual 82, 3, 0, 1, 0, 0), (29, .istore 7, 2, 7, 0, 0, 0), (31, .iload 7, 2, 7, 0, 0, 0), (33, .iconst (-1), 1, 0, 0, (-1), 0), (34, .if_icmp .ne 8, 3, 42, 0, 0, 0), (37, .bipush 31, 2, 0, 0, 31, 0), (39, .goto 10, 3, 49, 0, 0, 0), (42, .aload_n 0, 1, 0, 0, 0, 0), (43, .aload_n 1, 1, 1, 0, 0, 0), (44, .iload 7, 2, 7, 0, 0, 0), (46, .invokevirtual 62, 3, 1, 1, 0, 0), (49, .istore 8, 2, 8, 0, 0, 0), (51, .aload_n 0, 1, 0, 0, 0, 0), (52, .iload 8, 2, 8, 0, 0, 0), (54, .invokevirtual 75, 3, 2, 1, 0, 0), (57, .ifCond .ne 4, 3, 61, 0, 0, 0), (60, .return_, 1, 0, 0, 0, 0), (61, .iload 7, 2, 7, 0, 0, 0), (63, .iconst (-1), 1, 0, 0, (-1), 0), (64, .if_icmp .ne 14, 3, 78, 0, 0, 0), (67, .aload_n 0, 1, 0, 0, 0, 0), (68, .aload_n 1, 1, 1, 0, 0, 0), (69, .iload_n 3, 1, 3, 0, 0, 0), (70, .iload 4, 2, 4, 0, 0, 0), (72, .lload 5, 2, 5, 0, 0, 0), (74, .invokevirtual 85, 3, 3, 1, 0, 0), (77, .return_, 1, 0, 0, 0, 0), (78, .aload_n 1, 1, 1, 0, 0, 0), (79, .getfield 59, 3, 0, 1, 0, 0), (82, .iload 7, 2, 7, 0, 0, 0), (84, .iaload, 1, 0, 0, 0, 0), (85, .istore 9, 2, 9, 0, 0, 0), (87, .aload_n 1, 1, 1, 0, 0, 0), (88, .getfield 89, 3, 0, 2, 0, 0), (91, .iload 7, 2, 7, 0, 0, 0), (93, .iaload, 1, 0, 0, 0, 0), (94, .istore 10, 2, 10, 0, 0, 0), (96, .iload_n 3, 1, 3, 0, 0, 0), (97, .iconst 1, 1, 0, 0, 1, 0), (98, .iload 7, 2, 7, 0, 0, 0), (100, .ishl, 1, 0, 0, 0, 0), (101, .ior, 1, 0, 0, 0, 0), (102, .istore 11, 2, 11, 0, 0, 0), (104, .iload 10, 2, 10, 0, 0, 0), (106, .ifCond .le 52, 3, 158, 0, 0, 0), (109, .iload 9, 2, 9, 0, 0, 0), (111, .invokestatic 43, 3, 4, 3, 0, 0), (114, .ifCond .eq 44, 3, 158, 0, 0, 0), (117, .aload_n 0, 1, 0, 0, 0, 0), (118, .getfield 9, 3, 1, 0, 0, 0), (121, .iload 9, 2, 9, 0, 0, 0), (123, .iload 8, 2, 8, 0, 0, 0), (125, .iastore, 1, 0, 0, 0, 0), (126, .aload_n 0, 1, 0, 0, 0, 0), (127, .aload_n 1, 1, 1, 0, 0, 0), (128, .iload_n 2, 1, 2, 0, 0, 0), (129, .iconst 1, 1, 0, 0, 1, 0), (130, .iadd, 1, 0, 0, 0, 0), (131, .iload 11, 2, 11, 0, 0, 0), (133, .iload 4, 2, 4, 0, 0, 0), (135, .iconst 1, 1, 0, 0, 1, 0), (136, .iload 7, 2, 7, 0, 0, 0), (138, .ishl, 1, 0, 0, 0, 0), (139, .ior, 1, 0, 0, 0, 0), (140, .lload 5, 2, 5, 0, 0, 0), (142, .iload 10, 2, 10, 0, 0, 0), (144, .i2l, 1, 0, 0, 0, 0), (145, .lmul, 1, 0, 0, 0, 0), (146, .invokestatic 78, 3, 5, 1, 0, 0), (149, .aload_n 0, 1, 0, 0, 0, 0), (150, .getfield 9, 3, 1, 0, 0, 0), (153, .iload 9, 2, 9, 0, 0, 0), (155, .bipush 31, 2, 0, 0, 31, 0), (157, .iastore, 1, 0, 0, 0, 0), (158, .iload 10, 2, 10, 0, 0, 0), (160, .bipush 10, 2, 0, 0, 10, 0), (162, .if_icmp .ge 24, 3, 186, 0, 0, 0), (165, .aload_n 0, 1, 0, 0, 0, 0), (166, .aload_n 1, 1, 1, 0, 0, 0), (167, .iload_n 2, 1, 2, 0, 0, 0), (168, .iconst 1, 1, 0, 0, 1, 0), (169, .iadd, 1, 0, 0, 0, 0), (170, .iload 11, 2, 11, 0, 0, 0), (172, .iload 4, 2, 4, 0, 0, 0), (174, .lload 5, 2, 5, 0, 0, 0), (176, .bipush 10, 2, 0, 0, 10, 0), (178, .iload 10, 2, 10, 0, 0, 0), (180, .isub, 1, 0, 0, 0, 0), (181, .i2l, 1, 0, 0, 0, 0), (182, .lmul, 1, 0, 0, 0, 0), (183, .invokestatic 78, 3, 5, 1, 0, 0), (186, .return_, 1, 0, 0, 0, 0)]
theorem tkX1_decide : tOk cX1_decide "RumourSource$Spread" 12 tX1_decide = true := by decide +kernel
theorem fX1_decide_0 : fetch tX1_decide 0 = some (.iload_n 2, 1, 2, 0, 0, 0) := rfl
theorem fX1_decide_1 : fetch tX1_decide 1 = some (.bipush 12, 2, 0, 0, 12, 0) := rfl
theorem fX1_decide_3 : fetch tX1_decide 3 = some (.if_icmp .gt 19, 3, 22, 0, 0, 0) := rfl
theorem fX1_decide_6 : fetch tX1_decide 6 = some (.aload_n 0, 1, 0, 0, 0, 0) := rfl
theorem fX1_decide_7 : fetch tX1_decide 7 = some (.getfield 36, 3, 1, 7, 0, 0) := rfl
theorem fX1_decide_10 : fetch tX1_decide 10 = some (.ifCond .eq 13, 3, 23, 0, 0, 0) := rfl
theorem fX1_decide_13 : fetch tX1_decide 13 = some (.aload_n 0, 1, 0, 0, 0, 0) := rfl
theorem fX1_decide_14 : fetch tX1_decide 14 = some (.getfield 18, 3, 1, 2, 0, 0) := rfl
theorem fX1_decide_17 : fetch tX1_decide 17 = some (.lconst 0, 1, 0, 0, 0, 0) := rfl
theorem fX1_decide_18 : fetch tX1_decide 18 = some (.lcmp, 1, 0, 0, 0, 0) := rfl
theorem fX1_decide_19 : fetch tX1_decide 19 = some (.ifCond .le 4, 3, 23, 0, 0, 0) := rfl
theorem fX1_decide_22 : fetch tX1_decide 22 = some (.return_, 1, 0, 0, 0, 0) := rfl
theorem fX1_decide_23 : fetch tX1_decide 23 = some (.aload_n 0, 1, 0, 0, 0, 0) := rfl
theorem fX1_decide_24 : fetch tX1_decide 24 = some (.aload_n 1, 1, 1, 0, 0, 0) := rfl
theorem fX1_decide_25 : fetch tX1_decide 25 = some (.iload_n 3, 1, 3, 0, 0, 0) := rfl
theorem fX1_decide_26 : fetch tX1_decide 26 = some (.invokevirtual 82, 3, 0, 1, 0, 0) := rfl
theorem fX1_decide_29 : fetch tX1_decide 29 = some (.istore 7, 2, 7, 0, 0, 0) := rfl
theorem fX1_decide_31 : fetch tX1_decide 31 = some (.iload 7, 2, 7, 0, 0, 0) := rfl
theorem fX1_decide_33 : fetch tX1_decide 33 = some (.iconst (-1), 1, 0, 0, (-1), 0) := rfl
theorem fX1_decide_34 : fetch tX1_decide 34 = some (.if_icmp .ne 8, 3, 42, 0, 0, 0) := rfl
theorem fX1_decide_37 : fetch tX1_decide 37 = some (.bipush 31, 2, 0, 0, 31, 0) := rfl
theorem fX1_decide_39 : fetch tX1_decide 39 = some (.goto 10, 3, 49, 0, 0, 0) := rfl
theorem fX1_decide_42 : fetch tX1_decide 42 = some (.aload_n 0, 1, 0, 0, 0, 0) := rfl
theorem fX1_decide_43 : fetch tX1_decide 43 = some (.aload_n 1, 1, 1, 0, 0, 0) := rfl
theorem fX1_decide_44 : fetch tX1_decide 44 = some (.iload 7, 2, 7, 0, 0, 0) := rfl
theorem fX1_decide_46 : fetch tX1_decide 46 = some (.invokevirtual 62, 3, 1, 1, 0, 0) := rfl
theorem fX1_decide_49 : fetch tX1_decide 49 = some (.istore 8, 2, 8, 0, 0, 0) := rfl
theorem fX1_decide_51 : fetch tX1_decide 51 = some (.aload_n 0, 1, 0, 0, 0, 0) := rfl
theorem fX1_decide_52 : fetch tX1_decide 52 = some (.iload 8, 2, 8, 0, 0, 0) := rfl
theorem fX1_decide_54 : fetch tX1_decide 54 = some (.invokevirtual 75, 3, 2, 1, 0, 0) := rfl
theorem fX1_decide_57 : fetch tX1_decide 57 = some (.ifCond .ne 4, 3, 61, 0, 0, 0) := rfl
theorem fX1_decide_60 : fetch tX1_decide 60 = some (.return_, 1, 0, 0, 0, 0) := rfl
theorem fX1_decide_61 : fetch tX1_decide 61 = some (.iload 7, 2, 7, 0, 0, 0) := rfl
theorem fX1_decide_63 : fetch tX1_decide 63 = some (.iconst (-1), 1, 0, 0, (-1), 0) := rfl
theorem fX1_decide_64 : fetch tX1_decide 64 = some (.if_icmp .ne 14, 3, 78, 0, 0, 0) := rfl
theorem fX1_decide_67 : fetch tX1_decide 67 = some (.aload_n 0, 1, 0, 0, 0, 0) := rfl
theorem fX1_decide_68 : fetch tX1_decide 68 = some (.aload_n 1, 1, 1, 0, 0, 0) := rfl
theorem fX1_decide_69 : fetch tX1_decide 69 = some (.iload_n 3, 1, 3, 0, 0, 0) := rfl
theorem fX1_decide_70 : fetch tX1_decide 70 = some (.iload 4, 2, 4, 0, 0, 0) := rfl
theorem fX1_decide_72 : fetch tX1_decide 72 = some (.lload 5, 2, 5, 0, 0, 0) := rfl
theorem fX1_decide_74 : fetch tX1_decide 74 = some (.invokevirtual 85, 3, 3, 1, 0, 0) := rfl
theorem fX1_decide_77 : fetch tX1_decide 77 = some (.return_, 1, 0, 0, 0, 0) := rfl
theorem fX1_decide_78 : fetch tX1_decide 78 = some (.aload_n 1, 1, 1, 0, 0, 0) := rfl
theorem fX1_decide_79 : fetch tX1_decide 79 = some (.getfield 59, 3, 0, 1, 0, 0) := rfl
theorem fX1_decide_82 : fetch tX1_decide 82 = some (.iload 7, 2, 7, 0, 0, 0) := rfl
theorem fX1_decide_84 : fetch tX1_decide 84 = some (.iaload, 1, 0, 0, 0, 0) := rfl
theorem fX1_decide_85 : fetch tX1_decide 85 = some (.istore 9, 2, 9, 0, 0, 0) := rfl
theorem fX1_decide_87 : fetch tX1_decide 87 = some (.aload_n 1, 1, 1, 0, 0, 0) := rfl
theorem fX1_decide_88 : fetch tX1_decide 88 = some (.getfield 89, 3, 0, 2, 0, 0) := rfl
theorem fX1_decide_91 : fetch tX1_decide 91 = some (.iload 7, 2, 7, 0, 0, 0) := rfl
theorem fX1_decide_93 : fetch tX1_decide 93 = some (.iaload, 1, 0, 0, 0, 0) := rfl
theorem fX1_decide_94 : fetch tX1_decide 94 = some (.istore 10, 2, 10, 0, 0, 0) := rfl
theorem fX1_decide_96 : fetch tX1_decide 96 = some (.iload_n 3, 1, 3, 0, 0, 0) := rfl
theorem fX1_decide_97 : fetch tX1_decide 97 = some (.iconst 1, 1, 0, 0, 1, 0) := rfl
theorem fX1_decide_98 : fetch tX1_decide 98 = some (.iload 7, 2, 7, 0, 0, 0) := rfl
theorem fX1_decide_100 : fetch tX1_decide 100 = some (.ishl, 1, 0, 0, 0, 0) := rfl
theorem fX1_decide_101 : fetch tX1_decide 101 = some (.ior, 1, 0, 0, 0, 0) := rfl
theorem fX1_decide_102 : fetch tX1_decide 102 = some (.istore 11, 2, 11, 0, 0, 0) := rfl
theorem fX1_decide_104 : fetch tX1_decide 104 = some (.iload 10, 2, 10, 0, 0, 0) := rfl
theorem fX1_decide_106 : fetch tX1_decide 106 = some (.ifCond .le 52, 3, 158, 0, 0, 0) := rfl
theorem fX1_decide_109 : fetch tX1_decide 109 = some (.iload 9, 2, 9, 0, 0, 0) := rfl
theorem fX1_decide_111 : fetch tX1_decide 111 = some (.invokestatic 43, 3, 4, 3, 0, 0) := rfl
theorem fX1_decide_114 : fetch tX1_decide 114 = some (.ifCond .eq 44, 3, 158, 0, 0, 0) := rfl
theorem fX1_decide_117 : fetch tX1_decide 117 = some (.aload_n 0, 1, 0, 0, 0, 0) := rfl
theorem fX1_decide_118 : fetch tX1_decide 118 = some (.getfield 9, 3, 1, 0, 0, 0) := rfl
theorem fX1_decide_121 : fetch tX1_decide 121 = some (.iload 9, 2, 9, 0, 0, 0) := rfl
theorem fX1_decide_123 : fetch tX1_decide 123 = some (.iload 8, 2, 8, 0, 0, 0) := rfl
theorem fX1_decide_125 : fetch tX1_decide 125 = some (.iastore, 1, 0, 0, 0, 0) := rfl
theorem fX1_decide_126 : fetch tX1_decide 126 = some (.aload_n 0, 1, 0, 0, 0, 0) := rfl
theorem fX1_decide_127 : fetch tX1_decide 127 = some (.aload_n 1, 1, 1, 0, 0, 0) := rfl
theorem fX1_decide_128 : fetch tX1_decide 128 = some (.iload_n 2, 1, 2, 0, 0, 0) := rfl
theorem fX1_decide_129 : fetch tX1_decide 129 = some (.iconst 1, 1, 0, 0, 1, 0) := rfl
theorem fX1_decide_130 : fetch tX1_decide 130 = some (.iadd, 1, 0, 0, 0, 0) := rfl
theorem fX1_decide_131 : fetch tX1_decide 131 = some (.iload 11, 2, 11, 0, 0, 0) := rfl
theorem fX1_decide_133 : fetch tX1_decide 133 = some (.iload 4, 2, 4, 0, 0, 0) := rfl
theorem fX1_decide_135 : fetch tX1_decide 135 = some (.iconst 1, 1, 0, 0, 1, 0) := rfl
theorem fX1_decide_136 : fetch tX1_decide 136 = some (.iload 7, 2, 7, 0, 0, 0) := rfl
theorem fX1_decide_138 : fetch tX1_decide 138 = some (.ishl, 1, 0, 0, 0, 0) := rfl
theorem fX1_decide_139 : fetch tX1_decide 139 = some (.ior, 1, 0, 0, 0, 0) := rfl
theorem fX1_decide_140 : fetch tX1_decide 140 = some (.lload 5, 2, 5, 0, 0, 0) := rfl
theorem fX1_decide_142 : fetch tX1_decide 142 = some (.iload 10, 2, 10, 0, 0, 0) := rfl
theorem fX1_decide_144 : fetch tX1_decide 144 = some (.i2l, 1, 0, 0, 0, 0) := rfl
theorem fX1_decide_145 : fetch tX1_decide 145 = some (.lmul, 1, 0, 0, 0, 0) := rfl
theorem fX1_decide_146 : fetch tX1_decide 146 = some (.invokestatic 78, 3, 5, 1, 0, 0) := rfl
theorem fX1_decide_149 : fetch tX1_decide 149 = some (.aload_n 0, 1, 0, 0, 0, 0) := rfl
theorem fX1_decide_150 : fetch tX1_decide 150 = some (.getfield 9, 3, 1, 0, 0, 0) := rfl
theorem fX1_decide_153 : fetch tX1_decide 153 = some (.iload 9, 2, 9, 0, 0, 0) := rfl
theorem fX1_decide_155 : fetch tX1_decide 155 = some (.bipush 31, 2, 0, 0, 31, 0) := rfl
theorem fX1_decide_157 : fetch tX1_decide 157 = some (.iastore, 1, 0, 0, 0, 0) := rfl
theorem fX1_decide_158 : fetch tX1_decide 158 = some (.iload 10, 2, 10, 0, 0, 0) := rfl
theorem fX1_decide_160 : fetch tX1_decide 160 = some (.bipush 10, 2, 0, 0, 10, 0) := rfl
theorem fX1_decide_162 : fetch tX1_decide 162 = some (.if_icmp .ge 24, 3, 186, 0, 0, 0) := rfl
theorem fX1_decide_165 : fetch tX1_decide 165 = some (.aload_n 0, 1, 0, 0, 0, 0) := rfl
theorem fX1_decide_166 : fetch tX1_decide 166 = some (.aload_n 1, 1, 1, 0, 0, 0) := rfl
theorem fX1_decide_167 : fetch tX1_decide 167 = some (.iload_n 2, 1, 2, 0, 0, 0) := rfl
theorem fX1_decide_168 : fetch tX1_decide 168 = some (.iconst 1, 1, 0, 0, 1, 0) := rfl
theorem fX1_decide_169 : fetch tX1_decide 169 = some (.iadd, 1, 0, 0, 0, 0) := rfl
theorem fX1_decide_170 : fetch tX1_decide 170 = some (.iload 11, 2, 11, 0, 0, 0) := rfl
theorem fX1_decide_172 : fetch tX1_decide 172 = some (.iload 4, 2, 4, 0, 0, 0) := rfl
theorem fX1_decide_174 : fetch tX1_decide 174 = some (.lload 5, 2, 5, 0, 0, 0) := rfl
theorem fX1_decide_176 : fetch tX1_decide 176 = some (.bipush 10, 2, 0, 0, 10, 0) := rfl
theorem fX1_decide_178 : fetch tX1_decide 178 = some (.iload 10, 2, 10, 0, 0, 0) := rfl
theorem fX1_decide_180 : fetch tX1_decide 180 = some (.isub, 1, 0, 0, 0, 0) := rfl
theorem fX1_decide_181 : fetch tX1_decide 181 = some (.i2l, 1, 0, 0, 0, 0) := rfl
theorem fX1_decide_182 : fetch tX1_decide 182 = some (.lmul, 1, 0, 0, 0, 0) := rfl
theorem fX1_decide_183 : fetch tX1_decide 183 = some (.invokestatic 78, 3, 5, 1, 0, 0) := rfl
theorem fX1_decide_186 : fetch tX1_decide 186 = some (.return_, 1, 0, 0, 0, 0) := rfl
def tX1_nextEdge : List (Nat × TE) := [(0, .iconst (-1), 1, 0, 0, (-1), 0), (1, .istore_n 3, 1, 3, 0, 0, 0), (2, .bipush 31, 2, 0, 0, 31, 0), (4, .istore 4, 2, 4, 0, 0, 0), (6, .iconst 0, 1, 0, 0, 0, 0), (7, .istore 5, 2, 5, 0, 0, 0), (9, .iload 5, 2, 5, 0, 0, 0), (11, .aload_n 1, 1, 1, 0, 0, 0), (12, .getfield 56, 3, 0, 4, 0, 0), (15, .if_icmp .ge 85, 3, 100, 0, 0, 0), (18, .aload_n 1, 1, 1, 0, 0, 0), (19, .getfield 59, 3, 0, 1, 0, 0), (22, .iload 5, 2, 5, 0, 0, 0), (24, .iaload, 1, 0, 0, 0, 0), (25, .istore 6, 2, 6, 0, 0, 0), (27, .iload_n 2, 1, 2, 0, 0, 0), (28, .iload 5, 2, 5, 0, 0, 0), (30, .ishr, 1, 0, 0, 0, 0), (31, .iconst 1, 1, 0, 0, 1, 0), (32, .iand, 1, 0, 0, 0, 0), (33, .ifCond .ne 7, 3, 40, 0, 0, 0), (36, .iconst 1, 1, 0, 0, 1, 0), (37, .goto 4, 3, 41, 0, 0, 0), (40, .iconst 0, 1, 0, 0, 0, 0), (41, .istore 7, 2, 7, 0, 0, 0), (43, .iload 7, 2, 7, 0, 0, 0), (45, .ifCond .eq 49, 3, 94, 0, 0, 0), (48, .iload 6, 2, 6, 0, 0, 0), (50, .invokestatic 43, 3, 0, 3, 0, 0), (53, .ifCond .eq 41, 3, 94, 0, 0, 0), (56, .aload_n 0, 1, 0, 0, 0, 0), (57, .getfield 9, 3, 1, 0, 0, 0), (60, .iload 6, 2, 6, 0, 0, 0), (62, .iaload, 1, 0, 0, 0, 0), (63, .bipush 31, 2, 0, 0, 31, 0), (65, .if_icmp .eq 6, 3, 71, 0, 0, 0), (68, .goto 26, 3, 94, 0, 0, 0), (71, .aload_n 0, 1, 0, 0, 0, 0), (72, .aload_n 1, 1, 1, 0, 0, 0), (73, .iload 5, 2, 5, 0, 0, 0), (75, .invokevirtual 62, 3, 1, 1, 0, 0), (78, .istore 8, 2, 8, 0, 0, 0), (80, .iload 8, 2, 8, 0, 0, 0), (82, .iload 4, 2, 4, 0, 0, 0), (84, .if_icmp .ge 10, 3, 94, 0, 0, 0), (87, .iload 8, 2, 8, 0, 0, 0), (89, .istore 4, 2, 4, 0, 0, 0), (91, .iload 5, 2, 5, 0, 0, 0), (93, .istore_n 3, 1, 3, 0, 0, 0), (94, .iinc 5 1, 3, 5, 0, 1, 0), (97, .goto (-88), 3, 9, 0, 0, 0), (100, .iload_n 3, 1, 3, 0, 0, 0), (101, .ireturn, 1, 0, 0, 0, 0)]
theorem tkX1_nextEdge : tOk cX1_nextEdge "RumourSource$Spread" 9 tX1_nextEdge = true := by decide +kernel
theorem fX1_nextEdge_0 : fetch tX1_nextEdge 0 = some (.iconst (-1), 1, 0, 0, (-1), 0) := rfl
theorem fX1_nextEdge_1 : fetch tX1_nextEdge 1 = some (.istore_n 3, 1, 3, 0, 0, 0) := rfl
theorem fX1_nextEdge_2 : fetch tX1_nextEdge 2 = some (.bipush 31, 2, 0, 0, 31, 0) := rfl
theorem fX1_nextEdge_4 : fetch tX1_nextEdge 4 = some (.istore 4, 2, 4, 0, 0, 0) := rfl
theorem fX1_nextEdge_6 : fetch tX1_nextEdge 6 = some (.iconst 0, 1, 0, 0, 0, 0) := rfl
theorem fX1_nextEdge_7 : fetch tX1_nextEdge 7 = some (.istore 5, 2, 5, 0, 0, 0) := rfl
theorem fX1_nextEdge_9 : fetch tX1_nextEdge 9 = some (.iload 5, 2, 5, 0, 0, 0) := rfl
theorem fX1_nextEdge_11 : fetch tX1_nextEdge 11 = some (.aload_n 1, 1, 1, 0, 0, 0) := rfl
theorem fX1_nextEdge_12 : fetch tX1_nextEdge 12 = some (.getfield 56, 3, 0, 4, 0, 0) := rfl
theorem fX1_nextEdge_15 : fetch tX1_nextEdge 15 = some (.if_icmp .ge 85, 3, 100, 0, 0, 0) := rfl
theorem fX1_nextEdge_18 : fetch tX1_nextEdge 18 = some (.aload_n 1, 1, 1, 0, 0, 0) := rfl
theorem fX1_nextEdge_19 : fetch tX1_nextEdge 19 = some (.getfield 59, 3, 0, 1, 0, 0) := rfl
theorem fX1_nextEdge_22 : fetch tX1_nextEdge 22 = some (.iload 5, 2, 5, 0, 0, 0) := rfl
theorem fX1_nextEdge_24 : fetch tX1_nextEdge 24 = some (.iaload, 1, 0, 0, 0, 0) := rfl
theorem fX1_nextEdge_25 : fetch tX1_nextEdge 25 = some (.istore 6, 2, 6, 0, 0, 0) := rfl
theorem fX1_nextEdge_27 : fetch tX1_nextEdge 27 = some (.iload_n 2, 1, 2, 0, 0, 0) := rfl
theorem fX1_nextEdge_28 : fetch tX1_nextEdge 28 = some (.iload 5, 2, 5, 0, 0, 0) := rfl
theorem fX1_nextEdge_30 : fetch tX1_nextEdge 30 = some (.ishr, 1, 0, 0, 0, 0) := rfl
theorem fX1_nextEdge_31 : fetch tX1_nextEdge 31 = some (.iconst 1, 1, 0, 0, 1, 0) := rfl
theorem fX1_nextEdge_32 : fetch tX1_nextEdge 32 = some (.iand, 1, 0, 0, 0, 0) := rfl
theorem fX1_nextEdge_33 : fetch tX1_nextEdge 33 = some (.ifCond .ne 7, 3, 40, 0, 0, 0) := rfl
theorem fX1_nextEdge_36 : fetch tX1_nextEdge 36 = some (.iconst 1, 1, 0, 0, 1, 0) := rfl
theorem fX1_nextEdge_37 : fetch tX1_nextEdge 37 = some (.goto 4, 3, 41, 0, 0, 0) := rfl
theorem fX1_nextEdge_40 : fetch tX1_nextEdge 40 = some (.iconst 0, 1, 0, 0, 0, 0) := rfl
theorem fX1_nextEdge_41 : fetch tX1_nextEdge 41 = some (.istore 7, 2, 7, 0, 0, 0) := rfl
theorem fX1_nextEdge_43 : fetch tX1_nextEdge 43 = some (.iload 7, 2, 7, 0, 0, 0) := rfl
theorem fX1_nextEdge_45 : fetch tX1_nextEdge 45 = some (.ifCond .eq 49, 3, 94, 0, 0, 0) := rfl
theorem fX1_nextEdge_48 : fetch tX1_nextEdge 48 = some (.iload 6, 2, 6, 0, 0, 0) := rfl
theorem fX1_nextEdge_50 : fetch tX1_nextEdge 50 = some (.invokestatic 43, 3, 0, 3, 0, 0) := rfl
theorem fX1_nextEdge_53 : fetch tX1_nextEdge 53 = some (.ifCond .eq 41, 3, 94, 0, 0, 0) := rfl
theorem fX1_nextEdge_56 : fetch tX1_nextEdge 56 = some (.aload_n 0, 1, 0, 0, 0, 0) := rfl
theorem fX1_nextEdge_57 : fetch tX1_nextEdge 57 = some (.getfield 9, 3, 1, 0, 0, 0) := rfl
theorem fX1_nextEdge_60 : fetch tX1_nextEdge 60 = some (.iload 6, 2, 6, 0, 0, 0) := rfl
theorem fX1_nextEdge_62 : fetch tX1_nextEdge 62 = some (.iaload, 1, 0, 0, 0, 0) := rfl
theorem fX1_nextEdge_63 : fetch tX1_nextEdge 63 = some (.bipush 31, 2, 0, 0, 31, 0) := rfl
theorem fX1_nextEdge_65 : fetch tX1_nextEdge 65 = some (.if_icmp .eq 6, 3, 71, 0, 0, 0) := rfl
theorem fX1_nextEdge_68 : fetch tX1_nextEdge 68 = some (.goto 26, 3, 94, 0, 0, 0) := rfl
theorem fX1_nextEdge_71 : fetch tX1_nextEdge 71 = some (.aload_n 0, 1, 0, 0, 0, 0) := rfl
theorem fX1_nextEdge_72 : fetch tX1_nextEdge 72 = some (.aload_n 1, 1, 1, 0, 0, 0) := rfl
theorem fX1_nextEdge_73 : fetch tX1_nextEdge 73 = some (.iload 5, 2, 5, 0, 0, 0) := rfl
theorem fX1_nextEdge_75 : fetch tX1_nextEdge 75 = some (.invokevirtual 62, 3, 1, 1, 0, 0) := rfl
theorem fX1_nextEdge_78 : fetch tX1_nextEdge 78 = some (.istore 8, 2, 8, 0, 0, 0) := rfl
theorem fX1_nextEdge_80 : fetch tX1_nextEdge 80 = some (.iload 8, 2, 8, 0, 0, 0) := rfl
theorem fX1_nextEdge_82 : fetch tX1_nextEdge 82 = some (.iload 4, 2, 4, 0, 0, 0) := rfl
theorem fX1_nextEdge_84 : fetch tX1_nextEdge 84 = some (.if_icmp .ge 10, 3, 94, 0, 0, 0) := rfl
theorem fX1_nextEdge_87 : fetch tX1_nextEdge 87 = some (.iload 8, 2, 8, 0, 0, 0) := rfl
theorem fX1_nextEdge_89 : fetch tX1_nextEdge 89 = some (.istore 4, 2, 4, 0, 0, 0) := rfl
theorem fX1_nextEdge_91 : fetch tX1_nextEdge 91 = some (.iload 5, 2, 5, 0, 0, 0) := rfl
theorem fX1_nextEdge_93 : fetch tX1_nextEdge 93 = some (.istore_n 3, 1, 3, 0, 0, 0) := rfl
theorem fX1_nextEdge_94 : fetch tX1_nextEdge 94 = some (.iinc 5 1, 3, 5, 0, 1, 0) := rfl
theorem fX1_nextEdge_97 : fetch tX1_nextEdge 97 = some (.goto (-88), 3, 9, 0, 0, 0) := rfl
theorem fX1_nextEdge_100 : fetch tX1_nextEdge 100 = some (.iload_n 3, 1, 3, 0, 0, 0) := rfl
theorem fX1_nextEdge_101 : fetch tX1_nextEdge 101 = some (.ireturn, 1, 0, 0, 0, 0) := rfl
def tX1_collect : List (Nat × TE) := [(0, .lload 4, 2, 4, 0, 0, 0), (2, .lstore 6, 2, 6, 0, 0, 0), (4, .lload 4, 2, 4, 0, 0, 0), (6, .lstore 8, 2, 8, 0, 0, 0), (8, .iload_n 3, 1, 3, 0, 0, 0), (9, .istore 10, 2, 10, 0, 0, 0), (11, .iconst 0, 1, 0, 0, 0, 0), (12, .istore 11, 2, 11, 0, 0, 0), (14, .iload 11, 2, 11, 0, 0, 0), (16, .aload_n 1, 1, 1, 0, 0, 0), (17, .getfield 56, 3, 0, 4, 0, 0), (20, .if_icmp .ge 96, 3, 116, 0, 0, 0), (23, .iload_n 2, 1, 2, 0, 0, 0), (24, .iload 11, 2, 11, 0, 0, 0), (26, .ishr, 1, 0, 0, 0, 0), (27, .iconst 1, 1, 0, 0, 1, 0), (28, .iand, 1, 0, 0, 0, 0), (29, .iconst 1, 1, 0, 0, 1, 0), (30, .if_icmp .ne 6, 3, 36, 0, 0, 0), (33, .goto 77, 3, 110, 0, 0, 0), (36, .aload_n 1, 1, 1, 0, 0, 0), (37, .getfield 89, 3, 0, 2, 0, 0), (40, .iload 11, 2, 11, 0, 0, 0), (42, .iaload, 1, 0, 0, 0, 0), (43, .istore 12, 2, 12, 0, 0, 0), (45, .iload 12, 2, 12, 0, 0, 0), (47, .bipush 10, 2, 0, 0, 10, 0), (49, .iload 12, 2, 12, 0, 0, 0), (51, .isub, 1, 0, 0, 0, 0), (52, .if_icmp .le 7, 3, 59, 0, 0, 0), (55, .iconst 1, 1, 0, 0, 1, 0), (56, .goto 4, 3, 60, 0, 0, 0), (59, .iconst 0, 1, 0, 0, 0, 0), (60, .istore 13, 2, 13, 0, 0, 0), (62, .lload 6, 2, 6, 0, 0, 0), (64, .ldc2_w 92, 3, 0, 0, 0, 10), (67, .lmul, 1, 0, 0, 0, 0), (68, .lstore 6, 2, 6, 0, 0, 0), (70, .lload 8, 2, 8, 0, 0, 0), (72, .iload 13, 2, 13, 0, 0, 0), (74, .ifCond .eq 9, 3, 83, 0, 0, 0), (77, .iload 12, 2, 12, 0, 0, 0), (79, .i2l, 1, 0, 0, 0, 0), (80, .goto 9, 3, 89, 0, 0, 0), (83, .bipush 10, 2, 0, 0, 10, 0), (85, .iload 12, 2, 12, 0, 0, 0), (87, .isub, 1, 0, 0, 0, 0), (88, .i2l, 1, 0, 0, 0, 0), (89, .lmul, 1, 0, 0, 0, 0), (90, .lstore 8, 2, 8, 0, 0, 0), (92, .iload 10, 2, 10, 0, 0, 0), (94, .iload 13, 2, 13, 0, 0, 0), (96, .ifCond .eq 10, 3, 106, 0, 0, 0), (99, .iconst 1, 1, 0, 0, 1, 0), (100, .iload 11, 2, 11, 0, 0, 0), (102, .ishl, 1, 0, 0, 0, 0), (103, .goto 4, 3, 107, 0, 0, 0), (106, .iconst 0, 1, 0, 0, 0, 0), (107, .ior, 1, 0, 0, 0, 0), (108, .istore 10, 2, 10, 0, 0, 0), (110, .iinc 11 1, 3, 11, 0, 1, 0), (113, .goto (-99), 3, 14, 0, 0, 0), (116, .aload_n 0, 1, 0, 0, 0, 0), (117, .dup, 1, 0, 0, 0, 0), (118, .getfield 18, 3, 1, 2, 0, 0), (121, .lload 6, 2, 6, 0, 0, 0), (123, .ladd, 1, 0, 0, 0, 0), (124, .putfield 18, 3, 1, 2, 0, 0), (127, .aload_n 0, 1, 0, 0, 0, 0), (128, .lload 8, 2, 8, 0, 0, 0), (130, .iload 10, 2, 10, 0, 0, 0), (132, .invokevirtual 94, 3, 0, 1, 0, 0), (135, .iconst 0, 1, 0, 0, 0, 0), (136, .istore 11, 2, 11, 0, 0, 0), (138, .iload 11, 2, 11, 0, 0, 0), (140, .bipush 8, 2, 0, 0, 8, 0), (142, .if_icmp .ge 55, 3, 197, 0, 0, 0), (145, .aload_n 0, 1, 0, 0, 0, 0), (146, .getfield 32, 3, 1, 6, 0, 0), (149, .iload 11, 2, 11, 0, 0, 0), (151, .dup2, 1, 0, 0, 0, 0), (152, .laload, 1, 0, 0, 0, 0), (153, .lconst 1, 1, 0, 0, 0, 1), (154, .aload_n 0, 1, 0, 0, 0, 0), (155, .getfield 9, 3, 1, 0, 0, 0), (158, .iload 11, 2, 11, 0, 0, 0), (160, .iaload, 1, 0, 0, 0, 0), (161, .lshl, 1, 0, 0, 0, 0), (162, .lor, 1, 0, 0, 0, 0), (163, .lastore, 1, 0, 0, 0, 0), (164, .aload_n 0, 1, 0, 0, 0, 0), (165, .dup, 1, 0, 0, 0, 0), (166, .getfield 22, 3, 1, 3, 0, 0), (169, .aload_n 0, 1, 0, 0, 0, 0), (170, .getfield 9, 3, 1, 0, 0, 0), (173, .iload 11, 2, 11, 0, 0, 0), (175, .iaload, 1, 0, 0, 0, 0), (176, .bipush 31, 2, 0, 0, 31, 0), (178, .if_icmp .ne 7, 3, 185, 0, 0, 0), (181, .lconst 0, 1, 0, 0, 0, 0), (182, .goto 5, 3, 187, 0, 0, 0), (185, .lload 6, 2, 6, 0, 0, 0), (187, .ladd, 1, 0, 0, 0, 0), (188, .putfield 22, 3, 1, 3, 0, 0), (191, .iinc 11 1, 3, 11, 0, 1, 0), (194, .goto (-56), 3, 138, 0, 0, 0), (197, .return_, 1, 0, 0, 0, 0)]
theorem tkX1_collect : tOk cX1_collect "RumourSource$Spread" 14 tX1_collect = true := by decide +kernel
theorem fX1_collect_0 : fetch tX1_collect 0 = some (.lload 4, 2, 4, 0, 0, 0) := rfl
theorem fX1_collect_2 : fetch tX1_collect 2 = some (.lstore 6, 2, 6, 0, 0, 0) := rfl
theorem fX1_collect_4 : fetch tX1_collect 4 = some (.lload 4, 2, 4, 0, 0, 0) := rfl
theorem fX1_collect_6 : fetch tX1_collect 6 = some (.lstore 8, 2, 8, 0, 0, 0) := rfl
theorem fX1_collect_8 : fetch tX1_collect 8 = some (.iload_n 3, 1, 3, 0, 0, 0) := rfl
theorem fX1_collect_9 : fetch tX1_collect 9 = some (.istore 10, 2, 10, 0, 0, 0) := rfl
theorem fX1_collect_11 : fetch tX1_collect 11 = some (.iconst 0, 1, 0, 0, 0, 0) := rfl
theorem fX1_collect_12 : fetch tX1_collect 12 = some (.istore 11, 2, 11, 0, 0, 0) := rfl
theorem fX1_collect_14 : fetch tX1_collect 14 = some (.iload 11, 2, 11, 0, 0, 0) := rfl
theorem fX1_collect_16 : fetch tX1_collect 16 = some (.aload_n 1, 1, 1, 0, 0, 0) := rfl
theorem fX1_collect_17 : fetch tX1_collect 17 = some (.getfield 56, 3, 0, 4, 0, 0) := rfl
theorem fX1_collect_20 : fetch tX1_collect 20 = some (.if_icmp .ge 96, 3, 116, 0, 0, 0) := rfl
theorem fX1_collect_23 : fetch tX1_collect 23 = some (.iload_n 2, 1, 2, 0, 0, 0) := rfl
theorem fX1_collect_24 : fetch tX1_collect 24 = some (.iload 11, 2, 11, 0, 0, 0) := rfl
theorem fX1_collect_26 : fetch tX1_collect 26 = some (.ishr, 1, 0, 0, 0, 0) := rfl
theorem fX1_collect_27 : fetch tX1_collect 27 = some (.iconst 1, 1, 0, 0, 1, 0) := rfl
theorem fX1_collect_28 : fetch tX1_collect 28 = some (.iand, 1, 0, 0, 0, 0) := rfl
theorem fX1_collect_29 : fetch tX1_collect 29 = some (.iconst 1, 1, 0, 0, 1, 0) := rfl
theorem fX1_collect_30 : fetch tX1_collect 30 = some (.if_icmp .ne 6, 3, 36, 0, 0, 0) := rfl
theorem fX1_collect_33 : fetch tX1_collect 33 = some (.goto 77, 3, 110, 0, 0, 0) := rfl
theorem fX1_collect_36 : fetch tX1_collect 36 = some (.aload_n 1, 1, 1, 0, 0, 0) := rfl
theorem fX1_collect_37 : fetch tX1_collect 37 = some (.getfield 89, 3, 0, 2, 0, 0) := rfl
theorem fX1_collect_40 : fetch tX1_collect 40 = some (.iload 11, 2, 11, 0, 0, 0) := rfl
theorem fX1_collect_42 : fetch tX1_collect 42 = some (.iaload, 1, 0, 0, 0, 0) := rfl
theorem fX1_collect_43 : fetch tX1_collect 43 = some (.istore 12, 2, 12, 0, 0, 0) := rfl
theorem fX1_collect_45 : fetch tX1_collect 45 = some (.iload 12, 2, 12, 0, 0, 0) := rfl
theorem fX1_collect_47 : fetch tX1_collect 47 = some (.bipush 10, 2, 0, 0, 10, 0) := rfl
theorem fX1_collect_49 : fetch tX1_collect 49 = some (.iload 12, 2, 12, 0, 0, 0) := rfl
theorem fX1_collect_51 : fetch tX1_collect 51 = some (.isub, 1, 0, 0, 0, 0) := rfl
theorem fX1_collect_52 : fetch tX1_collect 52 = some (.if_icmp .le 7, 3, 59, 0, 0, 0) := rfl
theorem fX1_collect_55 : fetch tX1_collect 55 = some (.iconst 1, 1, 0, 0, 1, 0) := rfl
theorem fX1_collect_56 : fetch tX1_collect 56 = some (.goto 4, 3, 60, 0, 0, 0) := rfl
theorem fX1_collect_59 : fetch tX1_collect 59 = some (.iconst 0, 1, 0, 0, 0, 0) := rfl
theorem fX1_collect_60 : fetch tX1_collect 60 = some (.istore 13, 2, 13, 0, 0, 0) := rfl
theorem fX1_collect_62 : fetch tX1_collect 62 = some (.lload 6, 2, 6, 0, 0, 0) := rfl
theorem fX1_collect_64 : fetch tX1_collect 64 = some (.ldc2_w 92, 3, 0, 0, 0, 10) := rfl
theorem fX1_collect_67 : fetch tX1_collect 67 = some (.lmul, 1, 0, 0, 0, 0) := rfl
theorem fX1_collect_68 : fetch tX1_collect 68 = some (.lstore 6, 2, 6, 0, 0, 0) := rfl
theorem fX1_collect_70 : fetch tX1_collect 70 = some (.lload 8, 2, 8, 0, 0, 0) := rfl
theorem fX1_collect_72 : fetch tX1_collect 72 = some (.iload 13, 2, 13, 0, 0, 0) := rfl
theorem fX1_collect_74 : fetch tX1_collect 74 = some (.ifCond .eq 9, 3, 83, 0, 0, 0) := rfl
theorem fX1_collect_77 : fetch tX1_collect 77 = some (.iload 12, 2, 12, 0, 0, 0) := rfl
theorem fX1_collect_79 : fetch tX1_collect 79 = some (.i2l, 1, 0, 0, 0, 0) := rfl
theorem fX1_collect_80 : fetch tX1_collect 80 = some (.goto 9, 3, 89, 0, 0, 0) := rfl
theorem fX1_collect_83 : fetch tX1_collect 83 = some (.bipush 10, 2, 0, 0, 10, 0) := rfl
theorem fX1_collect_85 : fetch tX1_collect 85 = some (.iload 12, 2, 12, 0, 0, 0) := rfl
theorem fX1_collect_87 : fetch tX1_collect 87 = some (.isub, 1, 0, 0, 0, 0) := rfl
theorem fX1_collect_88 : fetch tX1_collect 88 = some (.i2l, 1, 0, 0, 0, 0) := rfl
theorem fX1_collect_89 : fetch tX1_collect 89 = some (.lmul, 1, 0, 0, 0, 0) := rfl
theorem fX1_collect_90 : fetch tX1_collect 90 = some (.lstore 8, 2, 8, 0, 0, 0) := rfl
theorem fX1_collect_92 : fetch tX1_collect 92 = some (.iload 10, 2, 10, 0, 0, 0) := rfl
theorem fX1_collect_94 : fetch tX1_collect 94 = some (.iload 13, 2, 13, 0, 0, 0) := rfl
theorem fX1_collect_96 : fetch tX1_collect 96 = some (.ifCond .eq 10, 3, 106, 0, 0, 0) := rfl
theorem fX1_collect_99 : fetch tX1_collect 99 = some (.iconst 1, 1, 0, 0, 1, 0) := rfl
theorem fX1_collect_100 : fetch tX1_collect 100 = some (.iload 11, 2, 11, 0, 0, 0) := rfl
theorem fX1_collect_102 : fetch tX1_collect 102 = some (.ishl, 1, 0, 0, 0, 0) := rfl
theorem fX1_collect_103 : fetch tX1_collect 103 = some (.goto 4, 3, 107, 0, 0, 0) := rfl
theorem fX1_collect_106 : fetch tX1_collect 106 = some (.iconst 0, 1, 0, 0, 0, 0) := rfl
theorem fX1_collect_107 : fetch tX1_collect 107 = some (.ior, 1, 0, 0, 0, 0) := rfl
theorem fX1_collect_108 : fetch tX1_collect 108 = some (.istore 10, 2, 10, 0, 0, 0) := rfl
theorem fX1_collect_110 : fetch tX1_collect 110 = some (.iinc 11 1, 3, 11, 0, 1, 0) := rfl
theorem fX1_collect_113 : fetch tX1_collect 113 = some (.goto (-99), 3, 14, 0, 0, 0) := rfl
theorem fX1_collect_116 : fetch tX1_collect 116 = some (.aload_n 0, 1, 0, 0, 0, 0) := rfl
theorem fX1_collect_117 : fetch tX1_collect 117 = some (.dup, 1, 0, 0, 0, 0) := rfl
theorem fX1_collect_118 : fetch tX1_collect 118 = some (.getfield 18, 3, 1, 2, 0, 0) := rfl
theorem fX1_collect_121 : fetch tX1_collect 121 = some (.lload 6, 2, 6, 0, 0, 0) := rfl
theorem fX1_collect_123 : fetch tX1_collect 123 = some (.ladd, 1, 0, 0, 0, 0) := rfl
theorem fX1_collect_124 : fetch tX1_collect 124 = some (.putfield 18, 3, 1, 2, 0, 0) := rfl
theorem fX1_collect_127 : fetch tX1_collect 127 = some (.aload_n 0, 1, 0, 0, 0, 0) := rfl
theorem fX1_collect_128 : fetch tX1_collect 128 = some (.lload 8, 2, 8, 0, 0, 0) := rfl
theorem fX1_collect_130 : fetch tX1_collect 130 = some (.iload 10, 2, 10, 0, 0, 0) := rfl
theorem fX1_collect_132 : fetch tX1_collect 132 = some (.invokevirtual 94, 3, 0, 1, 0, 0) := rfl
theorem fX1_collect_135 : fetch tX1_collect 135 = some (.iconst 0, 1, 0, 0, 0, 0) := rfl
theorem fX1_collect_136 : fetch tX1_collect 136 = some (.istore 11, 2, 11, 0, 0, 0) := rfl
theorem fX1_collect_138 : fetch tX1_collect 138 = some (.iload 11, 2, 11, 0, 0, 0) := rfl
theorem fX1_collect_140 : fetch tX1_collect 140 = some (.bipush 8, 2, 0, 0, 8, 0) := rfl
theorem fX1_collect_142 : fetch tX1_collect 142 = some (.if_icmp .ge 55, 3, 197, 0, 0, 0) := rfl
theorem fX1_collect_145 : fetch tX1_collect 145 = some (.aload_n 0, 1, 0, 0, 0, 0) := rfl
theorem fX1_collect_146 : fetch tX1_collect 146 = some (.getfield 32, 3, 1, 6, 0, 0) := rfl
theorem fX1_collect_149 : fetch tX1_collect 149 = some (.iload 11, 2, 11, 0, 0, 0) := rfl
theorem fX1_collect_151 : fetch tX1_collect 151 = some (.dup2, 1, 0, 0, 0, 0) := rfl
theorem fX1_collect_152 : fetch tX1_collect 152 = some (.laload, 1, 0, 0, 0, 0) := rfl
theorem fX1_collect_153 : fetch tX1_collect 153 = some (.lconst 1, 1, 0, 0, 0, 1) := rfl
theorem fX1_collect_154 : fetch tX1_collect 154 = some (.aload_n 0, 1, 0, 0, 0, 0) := rfl
theorem fX1_collect_155 : fetch tX1_collect 155 = some (.getfield 9, 3, 1, 0, 0, 0) := rfl
theorem fX1_collect_158 : fetch tX1_collect 158 = some (.iload 11, 2, 11, 0, 0, 0) := rfl
theorem fX1_collect_160 : fetch tX1_collect 160 = some (.iaload, 1, 0, 0, 0, 0) := rfl
theorem fX1_collect_161 : fetch tX1_collect 161 = some (.lshl, 1, 0, 0, 0, 0) := rfl
theorem fX1_collect_162 : fetch tX1_collect 162 = some (.lor, 1, 0, 0, 0, 0) := rfl
theorem fX1_collect_163 : fetch tX1_collect 163 = some (.lastore, 1, 0, 0, 0, 0) := rfl
theorem fX1_collect_164 : fetch tX1_collect 164 = some (.aload_n 0, 1, 0, 0, 0, 0) := rfl
theorem fX1_collect_165 : fetch tX1_collect 165 = some (.dup, 1, 0, 0, 0, 0) := rfl
theorem fX1_collect_166 : fetch tX1_collect 166 = some (.getfield 22, 3, 1, 3, 0, 0) := rfl
theorem fX1_collect_169 : fetch tX1_collect 169 = some (.aload_n 0, 1, 0, 0, 0, 0) := rfl
theorem fX1_collect_170 : fetch tX1_collect 170 = some (.getfield 9, 3, 1, 0, 0, 0) := rfl
theorem fX1_collect_173 : fetch tX1_collect 173 = some (.iload 11, 2, 11, 0, 0, 0) := rfl
theorem fX1_collect_175 : fetch tX1_collect 175 = some (.iaload, 1, 0, 0, 0, 0) := rfl
theorem fX1_collect_176 : fetch tX1_collect 176 = some (.bipush 31, 2, 0, 0, 31, 0) := rfl
theorem fX1_collect_178 : fetch tX1_collect 178 = some (.if_icmp .ne 7, 3, 185, 0, 0, 0) := rfl
theorem fX1_collect_181 : fetch tX1_collect 181 = some (.lconst 0, 1, 0, 0, 0, 0) := rfl
theorem fX1_collect_182 : fetch tX1_collect 182 = some (.goto 5, 3, 187, 0, 0, 0) := rfl
theorem fX1_collect_185 : fetch tX1_collect 185 = some (.lload 6, 2, 6, 0, 0, 0) := rfl
theorem fX1_collect_187 : fetch tX1_collect 187 = some (.ladd, 1, 0, 0, 0, 0) := rfl
theorem fX1_collect_188 : fetch tX1_collect 188 = some (.putfield 22, 3, 1, 3, 0, 0) := rfl
theorem fX1_collect_191 : fetch tX1_collect 191 = some (.iinc 11 1, 3, 11, 0, 1, 0) := rfl
theorem fX1_collect_194 : fetch tX1_collect 194 = some (.goto (-56), 3, 138, 0, 0, 0) := rfl
theorem fX1_collect_197 : fetch tX1_collect 197 = some (.return_, 1, 0, 0, 0, 0) := rfl
def tX1_keepBest : List (Nat × TE) := [(0, .lload_n 1, 1, 1, 0, 0, 0), (1, .aload_n 0, 1, 0, 0, 0, 0), (2, .getfield 25, 3, 1, 4, 0, 0), (5, .lcmp, 1, 0, 0, 0, 0), (6, .ifCond .gt 20, 3, 26, 0, 0, 0), (9, .lload_n 1, 1, 1, 0, 0, 0), (10, .aload_n 0, 1, 0, 0, 0, 0), (11, .getfield 25, 3, 1, 4, 0, 0), (14, .lcmp, 1, 0, 0, 0, 0), (15, .ifCond .ne 21, 3, 36, 0, 0, 0), (18, .iload_n 3, 1, 3, 0, 0, 0), (19, .aload_n 0, 1, 0, 0, 0, 0), (20, .getfield 28, 3, 1, 5, 0, 0), (23, .if_icmp .ge 13, 3, 36, 0, 0, 0), (26, .aload_n 0, 1, 0, 0, 0, 0), (27, .lload_n 1, 1, 1, 0, 0, 0), (28, .putfield 25, 3, 1, 4, 0, 0), (31, .aload_n 0, 1, 0, 0, 0, 0), (32, .iload_n 3, 1, 3, 0, 0, 0), (33, .putfield 28, 3, 1, 5, 0, 0), (36, .return_, 1, 0, 0, 0, 0)]
theorem tkX1_keepBest : tOk cX1_keepBest "RumourSource$Spread" 4 tX1_keepBest = true := by decide +kernel
theorem fX1_keepBest_0 : fetch tX1_keepBest 0 = some (.lload_n 1, 1, 1, 0, 0, 0) := rfl
theorem fX1_keepBest_1 : fetch tX1_keepBest 1 = some (.aload_n 0, 1, 0, 0, 0, 0) := rfl
theorem fX1_keepBest_2 : fetch tX1_keepBest 2 = some (.getfield 25, 3, 1, 4, 0, 0) := rfl
theorem fX1_keepBest_5 : fetch tX1_keepBest 5 = some (.lcmp, 1, 0, 0, 0, 0) := rfl
theorem fX1_keepBest_6 : fetch tX1_keepBest 6 = some (.ifCond .gt 20, 3, 26, 0, 0, 0) := rfl
theorem fX1_keepBest_9 : fetch tX1_keepBest 9 = some (.lload_n 1, 1, 1, 0, 0, 0) := rfl
theorem fX1_keepBest_10 : fetch tX1_keepBest 10 = some (.aload_n 0, 1, 0, 0, 0, 0) := rfl
theorem fX1_keepBest_11 : fetch tX1_keepBest 11 = some (.getfield 25, 3, 1, 4, 0, 0) := rfl
theorem fX1_keepBest_14 : fetch tX1_keepBest 14 = some (.lcmp, 1, 0, 0, 0, 0) := rfl
theorem fX1_keepBest_15 : fetch tX1_keepBest 15 = some (.ifCond .ne 21, 3, 36, 0, 0, 0) := rfl
theorem fX1_keepBest_18 : fetch tX1_keepBest 18 = some (.iload_n 3, 1, 3, 0, 0, 0) := rfl
theorem fX1_keepBest_19 : fetch tX1_keepBest 19 = some (.aload_n 0, 1, 0, 0, 0, 0) := rfl
theorem fX1_keepBest_20 : fetch tX1_keepBest 20 = some (.getfield 28, 3, 1, 5, 0, 0) := rfl
theorem fX1_keepBest_23 : fetch tX1_keepBest 23 = some (.if_icmp .ge 13, 3, 36, 0, 0, 0) := rfl
theorem fX1_keepBest_26 : fetch tX1_keepBest 26 = some (.aload_n 0, 1, 0, 0, 0, 0) := rfl
theorem fX1_keepBest_27 : fetch tX1_keepBest 27 = some (.lload_n 1, 1, 1, 0, 0, 0) := rfl
theorem fX1_keepBest_28 : fetch tX1_keepBest 28 = some (.putfield 25, 3, 1, 4, 0, 0) := rfl
theorem fX1_keepBest_31 : fetch tX1_keepBest 31 = some (.aload_n 0, 1, 0, 0, 0, 0) := rfl
theorem fX1_keepBest_32 : fetch tX1_keepBest 32 = some (.iload_n 3, 1, 3, 0, 0, 0) := rfl
theorem fX1_keepBest_33 : fetch tX1_keepBest 33 = some (.putfield 28, 3, 1, 5, 0, 0) := rfl
theorem fX1_keepBest_36 : fetch tX1_keepBest 36 = some (.return_, 1, 0, 0, 0, 0) := rfl
def tX2_read : List (Nat × TE) := [(0, .aload_n 0, 1, 0, 0, 0, 0), (1, .getfield 22, 3, 2, 2, 0, 0), (4, .aload_n 1, 1, 1, 0, 0, 0), (5, .invokevirtual 32, 3, 0, 0, 0, 0), (8, .aload_n 0, 1, 0, 0, 0, 0), (9, .iconst 0, 1, 0, 0, 0, 0), (10, .putfield 26, 3, 2, 3, 0, 0), (13, .aload_n 0, 1, 0, 0, 0, 0), (14, .iconst (-1), 1, 0, 0, (-1), 0), (15, .putfield 29, 3, 2, 4, 0, 0), (18, .iconst 1, 1, 0, 0, 1, 0), (19, .istore_n 2, 1, 2, 0, 0, 0), (20, .iconst 0, 1, 0, 0, 0, 0), (21, .istore_n 3, 1, 3, 0, 0, 0), (22, .iload_n 2, 1, 2, 0, 0, 0), (23, .ifCond .eq 35, 3, 58, 0, 0, 0), (26, .iload_n 3, 1, 3, 0, 0, 0), (27, .bipush 120, 2, 0, 0, 120, 0), (29, .if_icmp .ge 29, 3, 58, 0, 0, 0), (32, .aload_n 0, 1, 0, 0, 0, 0), (33, .invokevirtual 36, 3, 1, 2, 0, 0), (36, .ifCond .eq 14, 3, 50, 0, 0, 0), (39, .aload_n 0, 1, 0, 0, 0, 0), (40, .invokevirtual 40, 3, 2, 2, 0, 0), (43, .ifCond .eq 7, 3, 50, 0, 0, 0), (46, .iconst 1, 1, 0, 0, 1, 0), (47, .goto 4, 3, 51, 0, 0, 0), (50, .iconst 0, 1, 0, 0, 0, 0), (51, .istore_n 2, 1, 2, 0, 0, 0), (52, .iinc 3 1, 3, 3, 0, 1, 0), (55, .goto (-33), 3, 22, 0, 0, 0), (58, .aload_n 0, 1, 0, 0, 0, 0), (59, .getfield 29, 3, 2, 4, 0, 0), (62, .ireturn, 1, 0, 0, 0, 0)]
theorem tkX2_read : tOk cX2_read "RumourSource$Text" 4 tX2_read = true := by decide +kernel
theorem fX2_read_0 : fetch tX2_read 0 = some (.aload_n 0, 1, 0, 0, 0, 0) := rfl
theorem fX2_read_1 : fetch tX2_read 1 = some (.getfield 22, 3, 2, 2, 0, 0) := rfl
theorem fX2_read_4 : fetch tX2_read 4 = some (.aload_n 1, 1, 1, 0, 0, 0) := rfl
theorem fX2_read_5 : fetch tX2_read 5 = some (.invokevirtual 32, 3, 0, 0, 0, 0) := rfl
theorem fX2_read_8 : fetch tX2_read 8 = some (.aload_n 0, 1, 0, 0, 0, 0) := rfl
theorem fX2_read_9 : fetch tX2_read 9 = some (.iconst 0, 1, 0, 0, 0, 0) := rfl
theorem fX2_read_10 : fetch tX2_read 10 = some (.putfield 26, 3, 2, 3, 0, 0) := rfl
theorem fX2_read_13 : fetch tX2_read 13 = some (.aload_n 0, 1, 0, 0, 0, 0) := rfl
theorem fX2_read_14 : fetch tX2_read 14 = some (.iconst (-1), 1, 0, 0, (-1), 0) := rfl
theorem fX2_read_15 : fetch tX2_read 15 = some (.putfield 29, 3, 2, 4, 0, 0) := rfl
theorem fX2_read_18 : fetch tX2_read 18 = some (.iconst 1, 1, 0, 0, 1, 0) := rfl
theorem fX2_read_19 : fetch tX2_read 19 = some (.istore_n 2, 1, 2, 0, 0, 0) := rfl
theorem fX2_read_20 : fetch tX2_read 20 = some (.iconst 0, 1, 0, 0, 0, 0) := rfl
theorem fX2_read_21 : fetch tX2_read 21 = some (.istore_n 3, 1, 3, 0, 0, 0) := rfl
theorem fX2_read_22 : fetch tX2_read 22 = some (.iload_n 2, 1, 2, 0, 0, 0) := rfl
theorem fX2_read_23 : fetch tX2_read 23 = some (.ifCond .eq 35, 3, 58, 0, 0, 0) := rfl
theorem fX2_read_26 : fetch tX2_read 26 = some (.iload_n 3, 1, 3, 0, 0, 0) := rfl
theorem fX2_read_27 : fetch tX2_read 27 = some (.bipush 120, 2, 0, 0, 120, 0) := rfl
theorem fX2_read_29 : fetch tX2_read 29 = some (.if_icmp .ge 29, 3, 58, 0, 0, 0) := rfl
theorem fX2_read_32 : fetch tX2_read 32 = some (.aload_n 0, 1, 0, 0, 0, 0) := rfl
theorem fX2_read_33 : fetch tX2_read 33 = some (.invokevirtual 36, 3, 1, 2, 0, 0) := rfl
theorem fX2_read_36 : fetch tX2_read 36 = some (.ifCond .eq 14, 3, 50, 0, 0, 0) := rfl
theorem fX2_read_39 : fetch tX2_read 39 = some (.aload_n 0, 1, 0, 0, 0, 0) := rfl
theorem fX2_read_40 : fetch tX2_read 40 = some (.invokevirtual 40, 3, 2, 2, 0, 0) := rfl
theorem fX2_read_43 : fetch tX2_read 43 = some (.ifCond .eq 7, 3, 50, 0, 0, 0) := rfl
theorem fX2_read_46 : fetch tX2_read 46 = some (.iconst 1, 1, 0, 0, 1, 0) := rfl
theorem fX2_read_47 : fetch tX2_read 47 = some (.goto 4, 3, 51, 0, 0, 0) := rfl
theorem fX2_read_50 : fetch tX2_read 50 = some (.iconst 0, 1, 0, 0, 0, 0) := rfl
theorem fX2_read_51 : fetch tX2_read 51 = some (.istore_n 2, 1, 2, 0, 0, 0) := rfl
theorem fX2_read_52 : fetch tX2_read 52 = some (.iinc 3 1, 3, 3, 0, 1, 0) := rfl
theorem fX2_read_55 : fetch tX2_read 55 = some (.goto (-33), 3, 22, 0, 0, 0) := rfl
theorem fX2_read_58 : fetch tX2_read 58 = some (.aload_n 0, 1, 0, 0, 0, 0) := rfl
theorem fX2_read_59 : fetch tX2_read 59 = some (.getfield 29, 3, 2, 4, 0, 0) := rfl
theorem fX2_read_62 : fetch tX2_read 62 = some (.ireturn, 1, 0, 0, 0, 0) := rfl
def tX2_readItem : List (Nat × TE) := [(0, .aload_n 0, 1, 0, 0, 0, 0), (1, .invokevirtual 43, 3, 0, 2, 0, 0), (4, .istore_n 1, 1, 1, 0, 0, 0), (5, .iload_n 1, 1, 1, 0, 0, 0), (6, .iconst (-1), 1, 0, 0, (-1), 0), (7, .if_icmp .ne 8, 3, 15, 0, 0, 0), (10, .aload_n 0, 1, 0, 0, 0, 0), (11, .invokevirtual 47, 3, 1, 2, 0, 0), (14, .ireturn, 1, 0, 0, 0, 0), (15, .aload_n 0, 1, 0, 0, 0, 0), (16, .dup, 1, 0, 0, 0, 0), (17, .getfield 26, 3, 2, 3, 0, 0), (20, .iconst 1, 1, 0, 0, 1, 0), (21, .iadd, 1, 0, 0, 0, 0), (22, .putfield 26, 3, 2, 3, 0, 0), (25, .aload_n 0, 1, 0, 0, 0, 0), (26, .invokevirtual 50, 3, 2, 2, 0, 0), (29, .istore_n 2, 1, 2, 0, 0, 0), (30, .iload_n 2, 1, 2, 0, 0, 0), (31, .bipush 62, 2, 0, 0, 62, 0), (33, .if_icmp .eq 14, 3, 47, 0, 0, 0), (36, .iload_n 2, 1, 2, 0, 0, 0), (37, .bipush 61, 2, 0, 0, 61, 0), (39, .if_icmp .eq 8, 3, 47, 0, 0, 0), (42, .aload_n 0, 1, 0, 0, 0, 0), (43, .invokevirtual 47, 3, 1, 2, 0, 0), (46, .ireturn, 1, 0, 0, 0, 0), (47, .aload_n 0, 1, 0, 0, 0, 0), (48, .dup, 1, 0, 0, 0, 0), (49, .getfield 26, 3, 2, 3, 0, 0), (52, .iconst 1, 1, 0, 0, 1, 0), (53, .iadd, 1, 0, 0, 0, 0), (54, .putfield 26, 3, 2, 3, 0, 0), (57, .iload_n 2, 1, 2, 0, 0, 0), (58, .bipush 62, 2, 0, 0, 62, 0), (60, .if_icmp .ne 11, 3, 71, 0, 0, 0), (63, .aload_n 0, 1, 0, 0, 0, 0), (64, .iload_n 1, 1, 1, 0, 0, 0), (65, .invokevirtual 53, 3, 3, 2, 0, 0), (68, .goto 8, 3, 76, 0, 0, 0), (71, .aload_n 0, 1, 0, 0, 0, 0), (72, .iload_n 1, 1, 1, 0, 0, 0), (73, .invokevirtual 57, 3, 4, 2, 0, 0), (76, .ireturn, 1, 0, 0, 0, 0)]
theorem tkX2_readItem : tOk cX2_readItem "RumourSource$Text" 3 tX2_readItem = true := by decide +kernel
theorem fX2_readItem_0 : fetch tX2_readItem 0 = some (.aload_n 0, 1, 0, 0, 0, 0) := rfl
theorem fX2_readItem_1 : fetch tX2_readItem 1 = some (.invokevirtual 43, 3, 0, 2, 0, 0) := rfl
theorem fX2_readItem_4 : fetch tX2_readItem 4 = some (.istore_n 1, 1, 1, 0, 0, 0) := rfl
theorem fX2_readItem_5 : fetch tX2_readItem 5 = some (.iload_n 1, 1, 1, 0, 0, 0) := rfl
theorem fX2_readItem_6 : fetch tX2_readItem 6 = some (.iconst (-1), 1, 0, 0, (-1), 0) := rfl
theorem fX2_readItem_7 : fetch tX2_readItem 7 = some (.if_icmp .ne 8, 3, 15, 0, 0, 0) := rfl
theorem fX2_readItem_10 : fetch tX2_readItem 10 = some (.aload_n 0, 1, 0, 0, 0, 0) := rfl
theorem fX2_readItem_11 : fetch tX2_readItem 11 = some (.invokevirtual 47, 3, 1, 2, 0, 0) := rfl
theorem fX2_readItem_14 : fetch tX2_readItem 14 = some (.ireturn, 1, 0, 0, 0, 0) := rfl
theorem fX2_readItem_15 : fetch tX2_readItem 15 = some (.aload_n 0, 1, 0, 0, 0, 0) := rfl
theorem fX2_readItem_16 : fetch tX2_readItem 16 = some (.dup, 1, 0, 0, 0, 0) := rfl
theorem fX2_readItem_17 : fetch tX2_readItem 17 = some (.getfield 26, 3, 2, 3, 0, 0) := rfl
theorem fX2_readItem_20 : fetch tX2_readItem 20 = some (.iconst 1, 1, 0, 0, 1, 0) := rfl
theorem fX2_readItem_21 : fetch tX2_readItem 21 = some (.iadd, 1, 0, 0, 0, 0) := rfl
theorem fX2_readItem_22 : fetch tX2_readItem 22 = some (.putfield 26, 3, 2, 3, 0, 0) := rfl
theorem fX2_readItem_25 : fetch tX2_readItem 25 = some (.aload_n 0, 1, 0, 0, 0, 0) := rfl
theorem fX2_readItem_26 : fetch tX2_readItem 26 = some (.invokevirtual 50, 3, 2, 2, 0, 0) := rfl
theorem fX2_readItem_29 : fetch tX2_readItem 29 = some (.istore_n 2, 1, 2, 0, 0, 0) := rfl
theorem fX2_readItem_30 : fetch tX2_readItem 30 = some (.iload_n 2, 1, 2, 0, 0, 0) := rfl
theorem fX2_readItem_31 : fetch tX2_readItem 31 = some (.bipush 62, 2, 0, 0, 62, 0) := rfl
theorem fX2_readItem_33 : fetch tX2_readItem 33 = some (.if_icmp .eq 14, 3, 47, 0, 0, 0) := rfl
theorem fX2_readItem_36 : fetch tX2_readItem 36 = some (.iload_n 2, 1, 2, 0, 0, 0) := rfl
theorem fX2_readItem_37 : fetch tX2_readItem 37 = some (.bipush 61, 2, 0, 0, 61, 0) := rfl
theorem fX2_readItem_39 : fetch tX2_readItem 39 = some (.if_icmp .eq 8, 3, 47, 0, 0, 0) := rfl
theorem fX2_readItem_42 : fetch tX2_readItem 42 = some (.aload_n 0, 1, 0, 0, 0, 0) := rfl
theorem fX2_readItem_43 : fetch tX2_readItem 43 = some (.invokevirtual 47, 3, 1, 2, 0, 0) := rfl
theorem fX2_readItem_46 : fetch tX2_readItem 46 = some (.ireturn, 1, 0, 0, 0, 0) := rfl
theorem fX2_readItem_47 : fetch tX2_readItem 47 = some (.aload_n 0, 1, 0, 0, 0, 0) := rfl
theorem fX2_readItem_48 : fetch tX2_readItem 48 = some (.dup, 1, 0, 0, 0, 0) := rfl
theorem fX2_readItem_49 : fetch tX2_readItem 49 = some (.getfield 26, 3, 2, 3, 0, 0) := rfl
theorem fX2_readItem_52 : fetch tX2_readItem 52 = some (.iconst 1, 1, 0, 0, 1, 0) := rfl
theorem fX2_readItem_53 : fetch tX2_readItem 53 = some (.iadd, 1, 0, 0, 0, 0) := rfl
theorem fX2_readItem_54 : fetch tX2_readItem 54 = some (.putfield 26, 3, 2, 3, 0, 0) := rfl
theorem fX2_readItem_57 : fetch tX2_readItem 57 = some (.iload_n 2, 1, 2, 0, 0, 0) := rfl
theorem fX2_readItem_58 : fetch tX2_readItem 58 = some (.bipush 62, 2, 0, 0, 62, 0) := rfl
theorem fX2_readItem_60 : fetch tX2_readItem 60 = some (.if_icmp .ne 11, 3, 71, 0, 0, 0) := rfl
theorem fX2_readItem_63 : fetch tX2_readItem 63 = some (.aload_n 0, 1, 0, 0, 0, 0) := rfl
theorem fX2_readItem_64 : fetch tX2_readItem 64 = some (.iload_n 1, 1, 1, 0, 0, 0) := rfl
theorem fX2_readItem_65 : fetch tX2_readItem 65 = some (.invokevirtual 53, 3, 3, 2, 0, 0) := rfl
theorem fX2_readItem_68 : fetch tX2_readItem 68 = some (.goto 8, 3, 76, 0, 0, 0) := rfl
theorem fX2_readItem_71 : fetch tX2_readItem 71 = some (.aload_n 0, 1, 0, 0, 0, 0) := rfl
theorem fX2_readItem_72 : fetch tX2_readItem 72 = some (.iload_n 1, 1, 1, 0, 0, 0) := rfl
theorem fX2_readItem_73 : fetch tX2_readItem 73 = some (.invokevirtual 57, 3, 4, 2, 0, 0) := rfl
theorem fX2_readItem_76 : fetch tX2_readItem 76 = some (.ireturn, 1, 0, 0, 0, 0) := rfl
def tX2_readSemicolon : List (Nat × TE) := [(0, .aload_n 0, 1, 0, 0, 0, 0), (1, .invokevirtual 50, 3, 0, 2, 0, 0), (4, .istore_n 1, 1, 1, 0, 0, 0), (5, .iload_n 1, 1, 1, 0, 0, 0), (6, .iconst (-1), 1, 0, 0, (-1), 0), (7, .if_icmp .ne 5, 3, 12, 0, 0, 0), (10, .iconst 0, 1, 0, 0, 0, 0), (11, .ireturn, 1, 0, 0, 0, 0), (12, .aload_n 0, 1, 0, 0, 0, 0), (13, .bipush 59, 2, 0, 0, 59, 0), (15, .invokevirtual 60, 3, 1, 2, 0, 0), (18, .ireturn, 1, 0, 0, 0, 0)]
theorem tkX2_readSemicolon : tOk cX2_readSemicolon "RumourSource$Text" 2 tX2_readSemicolon = true := by decide +kernel
theorem fX2_readSemicolon_0 : fetch tX2_readSemicolon 0 = some (.aload_n 0, 1, 0, 0, 0, 0) := rfl
theorem fX2_readSemicolon_1 : fetch tX2_readSemicolon 1 = some (.invokevirtual 50, 3, 0, 2, 0, 0) := rfl
theorem fX2_readSemicolon_4 : fetch tX2_readSemicolon 4 = some (.istore_n 1, 1, 1, 0, 0, 0) := rfl
theorem fX2_readSemicolon_5 : fetch tX2_readSemicolon 5 = some (.iload_n 1, 1, 1, 0, 0, 0) := rfl
theorem fX2_readSemicolon_6 : fetch tX2_readSemicolon 6 = some (.iconst (-1), 1, 0, 0, (-1), 0) := rfl
theorem fX2_readSemicolon_7 : fetch tX2_readSemicolon 7 = some (.if_icmp .ne 5, 3, 12, 0, 0, 0) := rfl
theorem fX2_readSemicolon_10 : fetch tX2_readSemicolon 10 = some (.iconst 0, 1, 0, 0, 0, 0) := rfl
theorem fX2_readSemicolon_11 : fetch tX2_readSemicolon 11 = some (.ireturn, 1, 0, 0, 0, 0) := rfl
theorem fX2_readSemicolon_12 : fetch tX2_readSemicolon 12 = some (.aload_n 0, 1, 0, 0, 0, 0) := rfl
theorem fX2_readSemicolon_13 : fetch tX2_readSemicolon 13 = some (.bipush 59, 2, 0, 0, 59, 0) := rfl
theorem fX2_readSemicolon_15 : fetch tX2_readSemicolon 15 = some (.invokevirtual 60, 3, 1, 2, 0, 0) := rfl
theorem fX2_readSemicolon_18 : fetch tX2_readSemicolon 18 = some (.ireturn, 1, 0, 0, 0, 0) := rfl
def tX2_readEdge : List (Nat × TE) := [(0, .aload_n 0, 1, 0, 0, 0, 0), (1, .invokevirtual 43, 3, 0, 2, 0, 0), (4, .istore_n 2, 1, 2, 0, 0, 0), (5, .aload_n 0, 1, 0, 0, 0, 0), (6, .getfield 22, 3, 2, 2, 0, 0), (9, .invokevirtual 63, 3, 1, 0, 0, 0), (12, .ifCond .eq 20, 3, 32, 0, 0, 0), (15, .aload_n 0, 1, 0, 0, 0, 0), (16, .getfield 22, 3, 2, 2, 0, 0), (19, .iload_n 1, 1, 1, 0, 0, 0), (20, .iload_n 2, 1, 2, 0, 0, 0), (21, .invokevirtual 66, 3, 2, 0, 0, 0), (24, .iconst (-1), 1, 0, 0, (-1), 0), (25, .if_icmp .ne 7, 3, 32, 0, 0, 0), (28, .iconst 1, 1, 0, 0, 1, 0), (29, .goto 4, 3, 33, 0, 0, 0), (32, .iconst 0, 1, 0, 0, 0, 0), (33, .istore_n 3, 1, 3, 0, 0, 0), (34, .iload_n 2, 1, 2, 0, 0, 0), (35, .iconst (-1), 1, 0, 0, (-1), 0), (36, .if_icmp .eq 12, 3, 48, 0, 0, 0), (39, .iload_n 2, 1, 2, 0, 0, 0), (40, .iload_n 1, 1, 1, 0, 0, 0), (41, .if_icmp .eq 7, 3, 48, 0, 0, 0), (44, .iload_n 3, 1, 3, 0, 0, 0), (45, .ifCond .eq 8, 3, 53, 0, 0, 0), (48, .aload_n 0, 1, 0, 0, 0, 0), (49, .invokevirtual 47, 3, 3, 2, 0, 0), (52, .ireturn, 1, 0, 0, 0, 0), (53, .aload_n 0, 1, 0, 0, 0, 0), (54, .dup, 1, 0, 0, 0, 0), (55, .getfield 26, 3, 2, 3, 0, 0), (58, .iconst 1, 1, 0, 0, 1, 0), (59, .iadd, 1, 0, 0, 0, 0), (60, .putfield 26, 3, 2, 3, 0, 0), (63, .aload_n 0, 1, 0, 0, 0, 0), (64, .bipush 42, 2, 0, 0, 42, 0), (66, .invokevirtual 60, 3, 4, 2, 0, 0), (69, .ifCond .ne 5, 3, 74, 0, 0, 0), (72, .iconst 0, 1, 0, 0, 0, 0), (73, .ireturn, 1, 0, 0, 0, 0), (74, .aload_n 0, 1, 0, 0, 0, 0), (75, .iconst 0, 1, 0, 0, 0, 0), (76, .bipush 10, 2, 0, 0, 10, 0), (78, .invokevirtual 70, 3, 5, 2, 0, 0), (81, .istore 4, 2, 4, 0, 0, 0), (83, .iload 4, 2, 4, 0, 0, 0), (85, .iconst (-1), 1, 0, 0, (-1), 0), (86, .if_icmp .eq 12, 3, 98, 0, 0, 0), (89, .aload_n 0, 1, 0, 0, 0, 0), (90, .bipush 43, 2, 0, 0, 43, 0), (92, .invokevirtual 60, 3, 4, 2, 0, 0), (95, .ifCond .ne 5, 3, 100, 0, 0, 0), (98, .iconst 0, 1, 0, 0, 0, 0), (99, .ireturn, 1, 0, 0, 0, 0), (100, .aload_n 0, 1, 0, 0, 0, 0), (101, .iconst 1, 1, 0, 0, 1, 0), (102, .iconst 5, 1, 0, 0, 5, 0), (103, .invokevirtual 70, 3, 5, 2, 0, 0), (106, .istore 5, 2, 5, 0, 0, 0), (108, .iload 5, 2, 5, 0, 0, 0), (110, .iconst (-1), 1, 0, 0, (-1), 0), (111, .if_icmp .ne 5, 3, 116, 0, 0, 0), (114, .iconst 0, 1, 0, 0, 0, 0), (115, .ireturn, 1, 0, 0, 0, 0), (116, .aload_n 0, 1, 0, 0, 0, 0), (117, .getfield 22, 3, 2, 2, 0, 0), (120, .iload_n 1, 1, 1, 0, 0, 0), (121, .iload_n 2, 1, 2, 0, 0, 0), (122, .iload 4, 2, 4, 0, 0, 0), (124, .iload 5, 2, 5, 0, 0, 0), (126, .invokevirtual 73, 3, 6, 0, 0, 0), (129, .iconst (-1), 1, 0, 0, (-1), 0), (130, .if_icmp .eq 7, 3, 137, 0, 0, 0), (133, .iconst 1, 1, 0, 0, 1, 0), (134, .goto 4, 3, 138, 0, 0, 0), (137, .iconst 0, 1, 0, 0, 0, 0), (138, .ireturn, 1, 0, 0, 0, 0)]
theorem tkX2_readEdge : tOk cX2_readEdge "RumourSource$Text" 6 tX2_readEdge = true := by decide +kernel
theorem fX2_readEdge_0 : fetch tX2_readEdge 0 = some (.aload_n 0, 1, 0, 0, 0, 0) := rfl
theorem fX2_readEdge_1 : fetch tX2_readEdge 1 = some (.invokevirtual 43, 3, 0, 2, 0, 0) := rfl
theorem fX2_readEdge_4 : fetch tX2_readEdge 4 = some (.istore_n 2, 1, 2, 0, 0, 0) := rfl
theorem fX2_readEdge_5 : fetch tX2_readEdge 5 = some (.aload_n 0, 1, 0, 0, 0, 0) := rfl
theorem fX2_readEdge_6 : fetch tX2_readEdge 6 = some (.getfield 22, 3, 2, 2, 0, 0) := rfl
theorem fX2_readEdge_9 : fetch tX2_readEdge 9 = some (.invokevirtual 63, 3, 1, 0, 0, 0) := rfl
theorem fX2_readEdge_12 : fetch tX2_readEdge 12 = some (.ifCond .eq 20, 3, 32, 0, 0, 0) := rfl
theorem fX2_readEdge_15 : fetch tX2_readEdge 15 = some (.aload_n 0, 1, 0, 0, 0, 0) := rfl
theorem fX2_readEdge_16 : fetch tX2_readEdge 16 = some (.getfield 22, 3, 2, 2, 0, 0) := rfl
theorem fX2_readEdge_19 : fetch tX2_readEdge 19 = some (.iload_n 1, 1, 1, 0, 0, 0) := rfl
theorem fX2_readEdge_20 : fetch tX2_readEdge 20 = some (.iload_n 2, 1, 2, 0, 0, 0) := rfl
theorem fX2_readEdge_21 : fetch tX2_readEdge 21 = some (.invokevirtual 66, 3, 2, 0, 0, 0) := rfl
theorem fX2_readEdge_24 : fetch tX2_readEdge 24 = some (.iconst (-1), 1, 0, 0, (-1), 0) := rfl
theorem fX2_readEdge_25 : fetch tX2_readEdge 25 = some (.if_icmp .ne 7, 3, 32, 0, 0, 0) := rfl
theorem fX2_readEdge_28 : fetch tX2_readEdge 28 = some (.iconst 1, 1, 0, 0, 1, 0) := rfl
theorem fX2_readEdge_29 : fetch tX2_readEdge 29 = some (.goto 4, 3, 33, 0, 0, 0) := rfl
theorem fX2_readEdge_32 : fetch tX2_readEdge 32 = some (.iconst 0, 1, 0, 0, 0, 0) := rfl
theorem fX2_readEdge_33 : fetch tX2_readEdge 33 = some (.istore_n 3, 1, 3, 0, 0, 0) := rfl
theorem fX2_readEdge_34 : fetch tX2_readEdge 34 = some (.iload_n 2, 1, 2, 0, 0, 0) := rfl
theorem fX2_readEdge_35 : fetch tX2_readEdge 35 = some (.iconst (-1), 1, 0, 0, (-1), 0) := rfl
theorem fX2_readEdge_36 : fetch tX2_readEdge 36 = some (.if_icmp .eq 12, 3, 48, 0, 0, 0) := rfl
theorem fX2_readEdge_39 : fetch tX2_readEdge 39 = some (.iload_n 2, 1, 2, 0, 0, 0) := rfl
theorem fX2_readEdge_40 : fetch tX2_readEdge 40 = some (.iload_n 1, 1, 1, 0, 0, 0) := rfl
theorem fX2_readEdge_41 : fetch tX2_readEdge 41 = some (.if_icmp .eq 7, 3, 48, 0, 0, 0) := rfl
theorem fX2_readEdge_44 : fetch tX2_readEdge 44 = some (.iload_n 3, 1, 3, 0, 0, 0) := rfl
theorem fX2_readEdge_45 : fetch tX2_readEdge 45 = some (.ifCond .eq 8, 3, 53, 0, 0, 0) := rfl
theorem fX2_readEdge_48 : fetch tX2_readEdge 48 = some (.aload_n 0, 1, 0, 0, 0, 0) := rfl
theorem fX2_readEdge_49 : fetch tX2_readEdge 49 = some (.invokevirtual 47, 3, 3, 2, 0, 0) := rfl
theorem fX2_readEdge_52 : fetch tX2_readEdge 52 = some (.ireturn, 1, 0, 0, 0, 0) := rfl
theorem fX2_readEdge_53 : fetch tX2_readEdge 53 = some (.aload_n 0, 1, 0, 0, 0, 0) := rfl
theorem fX2_readEdge_54 : fetch tX2_readEdge 54 = some (.dup, 1, 0, 0, 0, 0) := rfl
theorem fX2_readEdge_55 : fetch tX2_readEdge 55 = some (.getfield 26, 3, 2, 3, 0, 0) := rfl
theorem fX2_readEdge_58 : fetch tX2_readEdge 58 = some (.iconst 1, 1, 0, 0, 1, 0) := rfl
theorem fX2_readEdge_59 : fetch tX2_readEdge 59 = some (.iadd, 1, 0, 0, 0, 0) := rfl
theorem fX2_readEdge_60 : fetch tX2_readEdge 60 = some (.putfield 26, 3, 2, 3, 0, 0) := rfl
theorem fX2_readEdge_63 : fetch tX2_readEdge 63 = some (.aload_n 0, 1, 0, 0, 0, 0) := rfl
theorem fX2_readEdge_64 : fetch tX2_readEdge 64 = some (.bipush 42, 2, 0, 0, 42, 0) := rfl
theorem fX2_readEdge_66 : fetch tX2_readEdge 66 = some (.invokevirtual 60, 3, 4, 2, 0, 0) := rfl
theorem fX2_readEdge_69 : fetch tX2_readEdge 69 = some (.ifCond .ne 5, 3, 74, 0, 0, 0) := rfl
theorem fX2_readEdge_72 : fetch tX2_readEdge 72 = some (.iconst 0, 1, 0, 0, 0, 0) := rfl
theorem fX2_readEdge_73 : fetch tX2_readEdge 73 = some (.ireturn, 1, 0, 0, 0, 0) := rfl
theorem fX2_readEdge_74 : fetch tX2_readEdge 74 = some (.aload_n 0, 1, 0, 0, 0, 0) := rfl
theorem fX2_readEdge_75 : fetch tX2_readEdge 75 = some (.iconst 0, 1, 0, 0, 0, 0) := rfl
theorem fX2_readEdge_76 : fetch tX2_readEdge 76 = some (.bipush 10, 2, 0, 0, 10, 0) := rfl
theorem fX2_readEdge_78 : fetch tX2_readEdge 78 = some (.invokevirtual 70, 3, 5, 2, 0, 0) := rfl
theorem fX2_readEdge_81 : fetch tX2_readEdge 81 = some (.istore 4, 2, 4, 0, 0, 0) := rfl
theorem fX2_readEdge_83 : fetch tX2_readEdge 83 = some (.iload 4, 2, 4, 0, 0, 0) := rfl
theorem fX2_readEdge_85 : fetch tX2_readEdge 85 = some (.iconst (-1), 1, 0, 0, (-1), 0) := rfl
theorem fX2_readEdge_86 : fetch tX2_readEdge 86 = some (.if_icmp .eq 12, 3, 98, 0, 0, 0) := rfl
theorem fX2_readEdge_89 : fetch tX2_readEdge 89 = some (.aload_n 0, 1, 0, 0, 0, 0) := rfl
theorem fX2_readEdge_90 : fetch tX2_readEdge 90 = some (.bipush 43, 2, 0, 0, 43, 0) := rfl
theorem fX2_readEdge_92 : fetch tX2_readEdge 92 = some (.invokevirtual 60, 3, 4, 2, 0, 0) := rfl
theorem fX2_readEdge_95 : fetch tX2_readEdge 95 = some (.ifCond .ne 5, 3, 100, 0, 0, 0) := rfl
theorem fX2_readEdge_98 : fetch tX2_readEdge 98 = some (.iconst 0, 1, 0, 0, 0, 0) := rfl
theorem fX2_readEdge_99 : fetch tX2_readEdge 99 = some (.ireturn, 1, 0, 0, 0, 0) := rfl
theorem fX2_readEdge_100 : fetch tX2_readEdge 100 = some (.aload_n 0, 1, 0, 0, 0, 0) := rfl
theorem fX2_readEdge_101 : fetch tX2_readEdge 101 = some (.iconst 1, 1, 0, 0, 1, 0) := rfl
theorem fX2_readEdge_102 : fetch tX2_readEdge 102 = some (.iconst 5, 1, 0, 0, 5, 0) := rfl
theorem fX2_readEdge_103 : fetch tX2_readEdge 103 = some (.invokevirtual 70, 3, 5, 2, 0, 0) := rfl
theorem fX2_readEdge_106 : fetch tX2_readEdge 106 = some (.istore 5, 2, 5, 0, 0, 0) := rfl
theorem fX2_readEdge_108 : fetch tX2_readEdge 108 = some (.iload 5, 2, 5, 0, 0, 0) := rfl
theorem fX2_readEdge_110 : fetch tX2_readEdge 110 = some (.iconst (-1), 1, 0, 0, (-1), 0) := rfl
theorem fX2_readEdge_111 : fetch tX2_readEdge 111 = some (.if_icmp .ne 5, 3, 116, 0, 0, 0) := rfl
theorem fX2_readEdge_114 : fetch tX2_readEdge 114 = some (.iconst 0, 1, 0, 0, 0, 0) := rfl
theorem fX2_readEdge_115 : fetch tX2_readEdge 115 = some (.ireturn, 1, 0, 0, 0, 0) := rfl
theorem fX2_readEdge_116 : fetch tX2_readEdge 116 = some (.aload_n 0, 1, 0, 0, 0, 0) := rfl
theorem fX2_readEdge_117 : fetch tX2_readEdge 117 = some (.getfield 22, 3, 2, 2, 0, 0) := rfl
theorem fX2_readEdge_120 : fetch tX2_readEdge 120 = some (.iload_n 1, 1, 1, 0, 0, 0) := rfl
theorem fX2_readEdge_121 : fetch tX2_readEdge 121 = some (.iload_n 2, 1, 2, 0, 0, 0) := rfl
theorem fX2_readEdge_122 : fetch tX2_readEdge 122 = some (.iload 4, 2, 4, 0, 0, 0) := rfl
theorem fX2_readEdge_124 : fetch tX2_readEdge 124 = some (.iload 5, 2, 5, 0, 0, 0) := rfl
theorem fX2_readEdge_126 : fetch tX2_readEdge 126 = some (.invokevirtual 73, 3, 6, 0, 0, 0) := rfl
theorem fX2_readEdge_129 : fetch tX2_readEdge 129 = some (.iconst (-1), 1, 0, 0, (-1), 0) := rfl
theorem fX2_readEdge_130 : fetch tX2_readEdge 130 = some (.if_icmp .eq 7, 3, 137, 0, 0, 0) := rfl
theorem fX2_readEdge_133 : fetch tX2_readEdge 133 = some (.iconst 1, 1, 0, 0, 1, 0) := rfl
theorem fX2_readEdge_134 : fetch tX2_readEdge 134 = some (.goto 4, 3, 138, 0, 0, 0) := rfl
theorem fX2_readEdge_137 : fetch tX2_readEdge 137 = some (.iconst 0, 1, 0, 0, 0, 0) := rfl
theorem fX2_readEdge_138 : fetch tX2_readEdge 138 = some (.ireturn, 1, 0, 0, 0, 0) := rfl
def tX2_readObservation : List (Nat × TE) := [(0, .aload_n 0, 1, 0, 0, 0, 0), (1, .invokevirtual 50, 3, 0, 2, 0, 0), (4, .bipush 45, 2, 0, 0, 45, 0), (6, .if_icmp .ne 25, 3, 31, 0, 0, 0), (9, .aload_n 0, 1, 0, 0, 0, 0), (10, .dup, 1, 0, 0, 0, 0), (11, .getfield 26, 3, 2, 3, 0, 0), (14, .iconst 1, 1, 0, 0, 1, 0), (15, .iadd, 1, 0, 0, 0, 0), (16, .putfield 26, 3, 2, 3, 0, 0), (19, .aload_n 0, 1, 0, 0, 0, 0), (20, .getfield 22, 3, 2, 2, 0, 0), (23, .getfield 77, 3, 0, 6, 0, 0), (26, .iload_n 1, 1, 1, 0, 0, 0), (27, .iconst (-1), 1, 0, 0, (-1), 0), (28, .iastore, 1, 0, 0, 0, 0), (29, .iconst 1, 1, 0, 0, 1, 0), (30, .ireturn, 1, 0, 0, 0, 0), (31, .aload_n 0, 1, 0, 0, 0, 0), (32, .iconst 0, 1, 0, 0, 0, 0), (33, .bipush 30, 2, 0, 0, 30, 0), (35, .invokevirtual 70, 3, 1, 2, 0, 0), (38, .istore_n 2, 1, 2, 0, 0, 0), (39, .iload_n 2, 1, 2, 0, 0, 0), (40, .iconst (-1), 1, 0, 0, (-1), 0), (41, .if_icmp .ne 5, 3, 46, 0, 0, 0), (44, .iconst 0, 1, 0, 0, 0, 0), (45, .ireturn, 1, 0, 0, 0, 0), (46, .aload_n 0, 1, 0, 0, 0, 0), (47, .getfield 22, 3, 2, 2, 0, 0), (50, .getfield 77, 3, 0, 6, 0, 0), (53, .iload_n 1, 1, 1, 0, 0, 0), (54, .iload_n 2, 1, 2, 0, 0, 0), (55, .iastore, 1, 0, 0, 0, 0), (56, .iconst 1, 1, 0, 0, 1, 0), (57, .ireturn, 1, 0, 0, 0, 0)]
theorem tkX2_readObservation : tOk cX2_readObservation "RumourSource$Text" 3 tX2_readObservation = true := by decide +kernel
theorem fX2_readObservation_0 : fetch tX2_readObservation 0 = some (.aload_n 0, 1, 0, 0, 0, 0) := rfl
theorem fX2_readObservation_1 : fetch tX2_readObservation 1 = some (.invokevirtual 50, 3, 0, 2, 0, 0) := rfl
theorem fX2_readObservation_4 : fetch tX2_readObservation 4 = some (.bipush 45, 2, 0, 0, 45, 0) := rfl
theorem fX2_readObservation_6 : fetch tX2_readObservation 6 = some (.if_icmp .ne 25, 3, 31, 0, 0, 0) := rfl
theorem fX2_readObservation_9 : fetch tX2_readObservation 9 = some (.aload_n 0, 1, 0, 0, 0, 0) := rfl
theorem fX2_readObservation_10 : fetch tX2_readObservation 10 = some (.dup, 1, 0, 0, 0, 0) := rfl
theorem fX2_readObservation_11 : fetch tX2_readObservation 11 = some (.getfield 26, 3, 2, 3, 0, 0) := rfl
theorem fX2_readObservation_14 : fetch tX2_readObservation 14 = some (.iconst 1, 1, 0, 0, 1, 0) := rfl
theorem fX2_readObservation_15 : fetch tX2_readObservation 15 = some (.iadd, 1, 0, 0, 0, 0) := rfl
theorem fX2_readObservation_16 : fetch tX2_readObservation 16 = some (.putfield 26, 3, 2, 3, 0, 0) := rfl
theorem fX2_readObservation_19 : fetch tX2_readObservation 19 = some (.aload_n 0, 1, 0, 0, 0, 0) := rfl
theorem fX2_readObservation_20 : fetch tX2_readObservation 20 = some (.getfield 22, 3, 2, 2, 0, 0) := rfl
theorem fX2_readObservation_23 : fetch tX2_readObservation 23 = some (.getfield 77, 3, 0, 6, 0, 0) := rfl
theorem fX2_readObservation_26 : fetch tX2_readObservation 26 = some (.iload_n 1, 1, 1, 0, 0, 0) := rfl
theorem fX2_readObservation_27 : fetch tX2_readObservation 27 = some (.iconst (-1), 1, 0, 0, (-1), 0) := rfl
theorem fX2_readObservation_28 : fetch tX2_readObservation 28 = some (.iastore, 1, 0, 0, 0, 0) := rfl
theorem fX2_readObservation_29 : fetch tX2_readObservation 29 = some (.iconst 1, 1, 0, 0, 1, 0) := rfl
theorem fX2_readObservation_30 : fetch tX2_readObservation 30 = some (.ireturn, 1, 0, 0, 0, 0) := rfl
theorem fX2_readObservation_31 : fetch tX2_readObservation 31 = some (.aload_n 0, 1, 0, 0, 0, 0) := rfl
theorem fX2_readObservation_32 : fetch tX2_readObservation 32 = some (.iconst 0, 1, 0, 0, 0, 0) := rfl
theorem fX2_readObservation_33 : fetch tX2_readObservation 33 = some (.bipush 30, 2, 0, 0, 30, 0) := rfl
theorem fX2_readObservation_35 : fetch tX2_readObservation 35 = some (.invokevirtual 70, 3, 1, 2, 0, 0) := rfl
theorem fX2_readObservation_38 : fetch tX2_readObservation 38 = some (.istore_n 2, 1, 2, 0, 0, 0) := rfl
theorem fX2_readObservation_39 : fetch tX2_readObservation 39 = some (.iload_n 2, 1, 2, 0, 0, 0) := rfl
theorem fX2_readObservation_40 : fetch tX2_readObservation 40 = some (.iconst (-1), 1, 0, 0, (-1), 0) := rfl
theorem fX2_readObservation_41 : fetch tX2_readObservation 41 = some (.if_icmp .ne 5, 3, 46, 0, 0, 0) := rfl
theorem fX2_readObservation_44 : fetch tX2_readObservation 44 = some (.iconst 0, 1, 0, 0, 0, 0) := rfl
theorem fX2_readObservation_45 : fetch tX2_readObservation 45 = some (.ireturn, 1, 0, 0, 0, 0) := rfl
theorem fX2_readObservation_46 : fetch tX2_readObservation 46 = some (.aload_n 0, 1, 0, 0, 0, 0) := rfl
theorem fX2_readObservation_47 : fetch tX2_readObservation 47 = some (.getfield 22, 3, 2, 2, 0, 0) := rfl
theorem fX2_readObservation_50 : fetch tX2_readObservation 50 = some (.getfield 77, 3, 0, 6, 0, 0) := rfl
theorem fX2_readObservation_53 : fetch tX2_readObservation 53 = some (.iload_n 1, 1, 1, 0, 0, 0) := rfl
theorem fX2_readObservation_54 : fetch tX2_readObservation 54 = some (.iload_n 2, 1, 2, 0, 0, 0) := rfl
theorem fX2_readObservation_55 : fetch tX2_readObservation 55 = some (.iastore, 1, 0, 0, 0, 0) := rfl
theorem fX2_readObservation_56 : fetch tX2_readObservation 56 = some (.iconst 1, 1, 0, 0, 1, 0) := rfl
theorem fX2_readObservation_57 : fetch tX2_readObservation 57 = some (.ireturn, 1, 0, 0, 0, 0) := rfl
def tX2_readNumber : List (Nat × TE) := [(0, .aload_n 0, 1, 0, 0, 0, 0), (1, .invokevirtual 50, 3, 0, 2, 0, 0), (4, .pop, 1, 0, 0, 0, 0), (5, .aload_n 0, 1, 0, 0, 0, 0), (6, .getfield 26, 3, 2, 3, 0, 0), (9, .istore_n 3, 1, 3, 0, 0, 0), (10, .iconst 0, 1, 0, 0, 0, 0), (11, .istore 4, 2, 4, 0, 0, 0), (13, .aload_n 0, 1, 0, 0, 0, 0), (14, .getfield 26, 3, 2, 3, 0, 0), (17, .aload_n 0, 1, 0, 0, 0, 0), (18, .getfield 15, 3, 2, 1, 0, 0), (21, .if_icmp .ge 64, 3, 85, 0, 0, 0), (24, .aload_n 0, 1, 0, 0, 0, 0), (25, .getfield 9, 3, 2, 0, 0, 0), (28, .aload_n 0, 1, 0, 0, 0, 0), (29, .getfield 26, 3, 2, 3, 0, 0), (32, .iaload, 1, 0, 0, 0, 0), (33, .bipush 48, 2, 0, 0, 48, 0), (35, .if_icmp .lt 50, 3, 85, 0, 0, 0), (38, .aload_n 0, 1, 0, 0, 0, 0), (39, .getfield 9, 3, 2, 0, 0, 0), (42, .aload_n 0, 1, 0, 0, 0, 0), (43, .getfield 26, 3, 2, 3, 0, 0), (46, .iaload, 1, 0, 0, 0, 0), (47, .bipush 57, 2, 0, 0, 57, 0), (49, .if_icmp .gt 36, 3, 85, 0, 0, 0), (52, .iload 4, 2, 4, 0, 0, 0), (54, .bipush 10, 2, 0, 0, 10, 0), (56, .imul, 1, 0, 0, 0, 0), (57, .aload_n 0, 1, 0, 0, 0, 0), (58, .getfield 9, 3, 2, 0, 0, 0), (61, .aload_n 0, 1, 0, 0, 0, 0), (62, .getfield 26, 3, 2, 3, 0, 0), (65, .iaload, 1, 0, 0, 0, 0), (66, .bipush 48, 2, 0, 0, 48, 0), (68, .isub, 1, 0, 0, 0, 0), (69, .iadd, 1, 0, 0, 0, 0), (70, .istore 4, 2, 4, 0, 0, 0), (72, .aload_n 0, 1, 0, 0, 0, 0), (73, .dup, 1, 0, 0, 0, 0), (74, .getfield 26, 3, 2, 3, 0, 0), (77, .iconst 1, 1, 0, 0, 1, 0), (78, .iadd, 1, 0, 0, 0, 0), (79, .putfield 26, 3, 2, 3, 0, 0), (82, .goto (-69), 3, 13, 0, 0, 0), (85, .aload_n 0, 1, 0, 0, 0, 0), (86, .getfield 26, 3, 2, 3, 0, 0), (89, .iload_n 3, 1, 3, 0, 0, 0), (90, .isub, 1, 0, 0, 0, 0), (91, .istore 5, 2, 5, 0, 0, 0), (93, .iload 5, 2, 5, 0, 0, 0), (95, .iconst 1, 1, 0, 0, 1, 0), (96, .if_icmp .lt 21, 3, 117, 0, 0, 0), (99, .iload 5, 2, 5, 0, 0, 0), (101, .iconst 2, 1, 0, 0, 2, 0), (102, .if_icmp .gt 15, 3, 117, 0, 0, 0), (105, .iload 4, 2, 4, 0, 0, 0), (107, .iload_n 1, 1, 1, 0, 0, 0), (108, .if_icmp .lt 9, 3, 117, 0, 0, 0), (111, .iload 4, 2, 4, 0, 0, 0), (113, .iload_n 2, 1, 2, 0, 0, 0), (114, .if_icmp .le 15, 3, 129, 0, 0, 0), (117, .aload_n 0, 1, 0, 0, 0, 0), (118, .iload_n 3, 1, 3, 0, 0, 0), (119, .putfield 26, 3, 2, 3, 0, 0), (122, .aload_n 0, 1, 0, 0, 0, 0), (123, .invokevirtual 47, 3, 1, 2, 0, 0), (126, .pop, 1, 0, 0, 0, 0), (127, .iconst (-1), 1, 0, 0, (-1), 0), (128, .ireturn, 1, 0, 0, 0, 0), (129, .iload 4, 2, 4, 0, 0, 0), (131, .ireturn, 1, 0, 0, 0, 0)]
theorem tkX2_readNumber : tOk cX2_readNumber "RumourSource$Text" 6 tX2_readNumber = true := by decide +kernel
theorem fX2_readNumber_0 : fetch tX2_readNumber 0 = some (.aload_n 0, 1, 0, 0, 0, 0) := rfl
theorem fX2_readNumber_1 : fetch tX2_readNumber 1 = some (.invokevirtual 50, 3, 0, 2, 0, 0) := rfl
theorem fX2_readNumber_4 : fetch tX2_readNumber 4 = some (.pop, 1, 0, 0, 0, 0) := rfl
theorem fX2_readNumber_5 : fetch tX2_readNumber 5 = some (.aload_n 0, 1, 0, 0, 0, 0) := rfl
theorem fX2_readNumber_6 : fetch tX2_readNumber 6 = some (.getfield 26, 3, 2, 3, 0, 0) := rfl
theorem fX2_readNumber_9 : fetch tX2_readNumber 9 = some (.istore_n 3, 1, 3, 0, 0, 0) := rfl
theorem fX2_readNumber_10 : fetch tX2_readNumber 10 = some (.iconst 0, 1, 0, 0, 0, 0) := rfl
theorem fX2_readNumber_11 : fetch tX2_readNumber 11 = some (.istore 4, 2, 4, 0, 0, 0) := rfl
theorem fX2_readNumber_13 : fetch tX2_readNumber 13 = some (.aload_n 0, 1, 0, 0, 0, 0) := rfl
theorem fX2_readNumber_14 : fetch tX2_readNumber 14 = some (.getfield 26, 3, 2, 3, 0, 0) := rfl
theorem fX2_readNumber_17 : fetch tX2_readNumber 17 = some (.aload_n 0, 1, 0, 0, 0, 0) := rfl
theorem fX2_readNumber_18 : fetch tX2_readNumber 18 = some (.getfield 15, 3, 2, 1, 0, 0) := rfl
theorem fX2_readNumber_21 : fetch tX2_readNumber 21 = some (.if_icmp .ge 64, 3, 85, 0, 0, 0) := rfl
theorem fX2_readNumber_24 : fetch tX2_readNumber 24 = some (.aload_n 0, 1, 0, 0, 0, 0) := rfl
theorem fX2_readNumber_25 : fetch tX2_readNumber 25 = some (.getfield 9, 3, 2, 0, 0, 0) := rfl
theorem fX2_readNumber_28 : fetch tX2_readNumber 28 = some (.aload_n 0, 1, 0, 0, 0, 0) := rfl
theorem fX2_readNumber_29 : fetch tX2_readNumber 29 = some (.getfield 26, 3, 2, 3, 0, 0) := rfl
theorem fX2_readNumber_32 : fetch tX2_readNumber 32 = some (.iaload, 1, 0, 0, 0, 0) := rfl
theorem fX2_readNumber_33 : fetch tX2_readNumber 33 = some (.bipush 48, 2, 0, 0, 48, 0) := rfl
theorem fX2_readNumber_35 : fetch tX2_readNumber 35 = some (.if_icmp .lt 50, 3, 85, 0, 0, 0) := rfl
theorem fX2_readNumber_38 : fetch tX2_readNumber 38 = some (.aload_n 0, 1, 0, 0, 0, 0) := rfl
theorem fX2_readNumber_39 : fetch tX2_readNumber 39 = some (.getfield 9, 3, 2, 0, 0, 0) := rfl
theorem fX2_readNumber_42 : fetch tX2_readNumber 42 = some (.aload_n 0, 1, 0, 0, 0, 0) := rfl
theorem fX2_readNumber_43 : fetch tX2_readNumber 43 = some (.getfield 26, 3, 2, 3, 0, 0) := rfl
theorem fX2_readNumber_46 : fetch tX2_readNumber 46 = some (.iaload, 1, 0, 0, 0, 0) := rfl
theorem fX2_readNumber_47 : fetch tX2_readNumber 47 = some (.bipush 57, 2, 0, 0, 57, 0) := rfl
theorem fX2_readNumber_49 : fetch tX2_readNumber 49 = some (.if_icmp .gt 36, 3, 85, 0, 0, 0) := rfl
theorem fX2_readNumber_52 : fetch tX2_readNumber 52 = some (.iload 4, 2, 4, 0, 0, 0) := rfl
theorem fX2_readNumber_54 : fetch tX2_readNumber 54 = some (.bipush 10, 2, 0, 0, 10, 0) := rfl
theorem fX2_readNumber_56 : fetch tX2_readNumber 56 = some (.imul, 1, 0, 0, 0, 0) := rfl
theorem fX2_readNumber_57 : fetch tX2_readNumber 57 = some (.aload_n 0, 1, 0, 0, 0, 0) := rfl
theorem fX2_readNumber_58 : fetch tX2_readNumber 58 = some (.getfield 9, 3, 2, 0, 0, 0) := rfl
theorem fX2_readNumber_61 : fetch tX2_readNumber 61 = some (.aload_n 0, 1, 0, 0, 0, 0) := rfl
theorem fX2_readNumber_62 : fetch tX2_readNumber 62 = some (.getfield 26, 3, 2, 3, 0, 0) := rfl
theorem fX2_readNumber_65 : fetch tX2_readNumber 65 = some (.iaload, 1, 0, 0, 0, 0) := rfl
theorem fX2_readNumber_66 : fetch tX2_readNumber 66 = some (.bipush 48, 2, 0, 0, 48, 0) := rfl
theorem fX2_readNumber_68 : fetch tX2_readNumber 68 = some (.isub, 1, 0, 0, 0, 0) := rfl
theorem fX2_readNumber_69 : fetch tX2_readNumber 69 = some (.iadd, 1, 0, 0, 0, 0) := rfl
theorem fX2_readNumber_70 : fetch tX2_readNumber 70 = some (.istore 4, 2, 4, 0, 0, 0) := rfl
theorem fX2_readNumber_72 : fetch tX2_readNumber 72 = some (.aload_n 0, 1, 0, 0, 0, 0) := rfl
theorem fX2_readNumber_73 : fetch tX2_readNumber 73 = some (.dup, 1, 0, 0, 0, 0) := rfl
theorem fX2_readNumber_74 : fetch tX2_readNumber 74 = some (.getfield 26, 3, 2, 3, 0, 0) := rfl
theorem fX2_readNumber_77 : fetch tX2_readNumber 77 = some (.iconst 1, 1, 0, 0, 1, 0) := rfl
theorem fX2_readNumber_78 : fetch tX2_readNumber 78 = some (.iadd, 1, 0, 0, 0, 0) := rfl
theorem fX2_readNumber_79 : fetch tX2_readNumber 79 = some (.putfield 26, 3, 2, 3, 0, 0) := rfl
theorem fX2_readNumber_82 : fetch tX2_readNumber 82 = some (.goto (-69), 3, 13, 0, 0, 0) := rfl
theorem fX2_readNumber_85 : fetch tX2_readNumber 85 = some (.aload_n 0, 1, 0, 0, 0, 0) := rfl
theorem fX2_readNumber_86 : fetch tX2_readNumber 86 = some (.getfield 26, 3, 2, 3, 0, 0) := rfl
theorem fX2_readNumber_89 : fetch tX2_readNumber 89 = some (.iload_n 3, 1, 3, 0, 0, 0) := rfl
theorem fX2_readNumber_90 : fetch tX2_readNumber 90 = some (.isub, 1, 0, 0, 0, 0) := rfl
theorem fX2_readNumber_91 : fetch tX2_readNumber 91 = some (.istore 5, 2, 5, 0, 0, 0) := rfl
theorem fX2_readNumber_93 : fetch tX2_readNumber 93 = some (.iload 5, 2, 5, 0, 0, 0) := rfl
theorem fX2_readNumber_95 : fetch tX2_readNumber 95 = some (.iconst 1, 1, 0, 0, 1, 0) := rfl
theorem fX2_readNumber_96 : fetch tX2_readNumber 96 = some (.if_icmp .lt 21, 3, 117, 0, 0, 0) := rfl
theorem fX2_readNumber_99 : fetch tX2_readNumber 99 = some (.iload 5, 2, 5, 0, 0, 0) := rfl
theorem fX2_readNumber_101 : fetch tX2_readNumber 101 = some (.iconst 2, 1, 0, 0, 2, 0) := rfl
theorem fX2_readNumber_102 : fetch tX2_readNumber 102 = some (.if_icmp .gt 15, 3, 117, 0, 0, 0) := rfl
theorem fX2_readNumber_105 : fetch tX2_readNumber 105 = some (.iload 4, 2, 4, 0, 0, 0) := rfl
theorem fX2_readNumber_107 : fetch tX2_readNumber 107 = some (.iload_n 1, 1, 1, 0, 0, 0) := rfl
theorem fX2_readNumber_108 : fetch tX2_readNumber 108 = some (.if_icmp .lt 9, 3, 117, 0, 0, 0) := rfl
theorem fX2_readNumber_111 : fetch tX2_readNumber 111 = some (.iload 4, 2, 4, 0, 0, 0) := rfl
theorem fX2_readNumber_113 : fetch tX2_readNumber 113 = some (.iload_n 2, 1, 2, 0, 0, 0) := rfl
theorem fX2_readNumber_114 : fetch tX2_readNumber 114 = some (.if_icmp .le 15, 3, 129, 0, 0, 0) := rfl
theorem fX2_readNumber_117 : fetch tX2_readNumber 117 = some (.aload_n 0, 1, 0, 0, 0, 0) := rfl
theorem fX2_readNumber_118 : fetch tX2_readNumber 118 = some (.iload_n 3, 1, 3, 0, 0, 0) := rfl
theorem fX2_readNumber_119 : fetch tX2_readNumber 119 = some (.putfield 26, 3, 2, 3, 0, 0) := rfl
theorem fX2_readNumber_122 : fetch tX2_readNumber 122 = some (.aload_n 0, 1, 0, 0, 0, 0) := rfl
theorem fX2_readNumber_123 : fetch tX2_readNumber 123 = some (.invokevirtual 47, 3, 1, 2, 0, 0) := rfl
theorem fX2_readNumber_126 : fetch tX2_readNumber 126 = some (.pop, 1, 0, 0, 0, 0) := rfl
theorem fX2_readNumber_127 : fetch tX2_readNumber 127 = some (.iconst (-1), 1, 0, 0, (-1), 0) := rfl
theorem fX2_readNumber_128 : fetch tX2_readNumber 128 = some (.ireturn, 1, 0, 0, 0, 0) := rfl
theorem fX2_readNumber_129 : fetch tX2_readNumber 129 = some (.iload 4, 2, 4, 0, 0, 0) := rfl
theorem fX2_readNumber_131 : fetch tX2_readNumber 131 = some (.ireturn, 1, 0, 0, 0, 0) := rfl
def tX2_nextByte : List (Nat × TE) := [(0, .aload_n 0, 1, 0, 0, 0, 0), (1, .getfield 26, 3, 2, 3, 0, 0), (4, .aload_n 0, 1, 0, 0, 0, 0), (5, .getfield 15, 3, 2, 1, 0, 0), (8, .if_icmp .ge 30, 3, 38, 0, 0, 0), (11, .aload_n 0, 1, 0, 0, 0, 0), (12, .getfield 9, 3, 2, 0, 0, 0), (15, .aload_n 0, 1, 0, 0, 0, 0), (16, .getfield 26, 3, 2, 3, 0, 0), (19, .iaload, 1, 0, 0, 0, 0), (20, .bipush 32, 2, 0, 0, 32, 0), (22, .if_icmp .ne 16, 3, 38, 0, 0, 0), (25, .aload_n 0, 1, 0, 0, 0, 0), (26, .dup, 1, 0, 0, 0, 0), (27, .getfield 26, 3, 2, 3, 0, 0), (30, .iconst 1, 1, 0, 0, 1, 0), (31, .iadd, 1, 0, 0, 0, 0), (32, .putfield 26, 3, 2, 3, 0, 0), (35, .goto (-35), 3, 0, 0, 0, 0), (38, .aload_n 0, 1, 0, 0, 0, 0), (39, .getfield 26, 3, 2, 3, 0, 0), (42, .aload_n 0, 1, 0, 0, 0, 0), (43, .getfield 15, 3, 2, 1, 0, 0), (46, .if_icmp .ge 15, 3, 61, 0, 0, 0), (49, .aload_n 0, 1, 0, 0, 0, 0), (50, .getfield 9, 3, 2, 0, 0, 0), (53, .aload_n 0, 1, 0, 0, 0, 0), (54, .getfield 26, 3, 2, 3, 0, 0), (57, .iaload, 1, 0, 0, 0, 0), (58, .goto 4, 3, 62, 0, 0, 0), (61, .iconst (-1), 1, 0, 0, (-1), 0), (62, .ireturn, 1, 0, 0, 0, 0)]
theorem tkX2_nextByte : tOk cX2_nextByte "RumourSource$Text" 1 tX2_nextByte = true := by decide +kernel
theorem fX2_nextByte_0 : fetch tX2_nextByte 0 = some (.aload_n 0, 1, 0, 0, 0, 0) := rfl
theorem fX2_nextByte_1 : fetch tX2_nextByte 1 = some (.getfield 26, 3, 2, 3, 0, 0) := rfl
theorem fX2_nextByte_4 : fetch tX2_nextByte 4 = some (.aload_n 0, 1, 0, 0, 0, 0) := rfl
theorem fX2_nextByte_5 : fetch tX2_nextByte 5 = some (.getfield 15, 3, 2, 1, 0, 0) := rfl
theorem fX2_nextByte_8 : fetch tX2_nextByte 8 = some (.if_icmp .ge 30, 3, 38, 0, 0, 0) := rfl
theorem fX2_nextByte_11 : fetch tX2_nextByte 11 = some (.aload_n 0, 1, 0, 0, 0, 0) := rfl
theorem fX2_nextByte_12 : fetch tX2_nextByte 12 = some (.getfield 9, 3, 2, 0, 0, 0) := rfl
theorem fX2_nextByte_15 : fetch tX2_nextByte 15 = some (.aload_n 0, 1, 0, 0, 0, 0) := rfl
theorem fX2_nextByte_16 : fetch tX2_nextByte 16 = some (.getfield 26, 3, 2, 3, 0, 0) := rfl
theorem fX2_nextByte_19 : fetch tX2_nextByte 19 = some (.iaload, 1, 0, 0, 0, 0) := rfl
theorem fX2_nextByte_20 : fetch tX2_nextByte 20 = some (.bipush 32, 2, 0, 0, 32, 0) := rfl
theorem fX2_nextByte_22 : fetch tX2_nextByte 22 = some (.if_icmp .ne 16, 3, 38, 0, 0, 0) := rfl
theorem fX2_nextByte_25 : fetch tX2_nextByte 25 = some (.aload_n 0, 1, 0, 0, 0, 0) := rfl
theorem fX2_nextByte_26 : fetch tX2_nextByte 26 = some (.dup, 1, 0, 0, 0, 0) := rfl
theorem fX2_nextByte_27 : fetch tX2_nextByte 27 = some (.getfield 26, 3, 2, 3, 0, 0) := rfl
theorem fX2_nextByte_30 : fetch tX2_nextByte 30 = some (.iconst 1, 1, 0, 0, 1, 0) := rfl
theorem fX2_nextByte_31 : fetch tX2_nextByte 31 = some (.iadd, 1, 0, 0, 0, 0) := rfl
theorem fX2_nextByte_32 : fetch tX2_nextByte 32 = some (.putfield 26, 3, 2, 3, 0, 0) := rfl
theorem fX2_nextByte_35 : fetch tX2_nextByte 35 = some (.goto (-35), 3, 0, 0, 0, 0) := rfl
theorem fX2_nextByte_38 : fetch tX2_nextByte 38 = some (.aload_n 0, 1, 0, 0, 0, 0) := rfl
theorem fX2_nextByte_39 : fetch tX2_nextByte 39 = some (.getfield 26, 3, 2, 3, 0, 0) := rfl
theorem fX2_nextByte_42 : fetch tX2_nextByte 42 = some (.aload_n 0, 1, 0, 0, 0, 0) := rfl
theorem fX2_nextByte_43 : fetch tX2_nextByte 43 = some (.getfield 15, 3, 2, 1, 0, 0) := rfl
theorem fX2_nextByte_46 : fetch tX2_nextByte 46 = some (.if_icmp .ge 15, 3, 61, 0, 0, 0) := rfl
theorem fX2_nextByte_49 : fetch tX2_nextByte 49 = some (.aload_n 0, 1, 0, 0, 0, 0) := rfl
theorem fX2_nextByte_50 : fetch tX2_nextByte 50 = some (.getfield 9, 3, 2, 0, 0, 0) := rfl
theorem fX2_nextByte_53 : fetch tX2_nextByte 53 = some (.aload_n 0, 1, 0, 0, 0, 0) := rfl
theorem fX2_nextByte_54 : fetch tX2_nextByte 54 = some (.getfield 26, 3, 2, 3, 0, 0) := rfl
theorem fX2_nextByte_57 : fetch tX2_nextByte 57 = some (.iaload, 1, 0, 0, 0, 0) := rfl
theorem fX2_nextByte_58 : fetch tX2_nextByte 58 = some (.goto 4, 3, 62, 0, 0, 0) := rfl
theorem fX2_nextByte_61 : fetch tX2_nextByte 61 = some (.iconst (-1), 1, 0, 0, (-1), 0) := rfl
theorem fX2_nextByte_62 : fetch tX2_nextByte 62 = some (.ireturn, 1, 0, 0, 0, 0) := rfl
def tX2_nextNode : List (Nat × TE) := [(0, .aload_n 0, 1, 0, 0, 0, 0), (1, .invokevirtual 50, 3, 0, 2, 0, 0), (4, .bipush 48, 2, 0, 0, 48, 0), (6, .isub, 1, 0, 0, 0, 0), (7, .istore_n 1, 1, 1, 0, 0, 0), (8, .iload_n 1, 1, 1, 0, 0, 0), (9, .invokestatic 80, 3, 1, 3, 0, 0), (12, .ifCond .eq 7, 3, 19, 0, 0, 0), (15, .iload_n 1, 1, 1, 0, 0, 0), (16, .goto 4, 3, 20, 0, 0, 0), (19, .iconst (-1), 1, 0, 0, (-1), 0), (20, .ireturn, 1, 0, 0, 0, 0)]
theorem tkX2_nextNode : tOk cX2_nextNode "RumourSource$Text" 2 tX2_nextNode = true := by decide +kernel
theorem fX2_nextNode_0 : fetch tX2_nextNode 0 = some (.aload_n 0, 1, 0, 0, 0, 0) := rfl
theorem fX2_nextNode_1 : fetch tX2_nextNode 1 = some (.invokevirtual 50, 3, 0, 2, 0, 0) := rfl
theorem fX2_nextNode_4 : fetch tX2_nextNode 4 = some (.bipush 48, 2, 0, 0, 48, 0) := rfl
theorem fX2_nextNode_6 : fetch tX2_nextNode 6 = some (.isub, 1, 0, 0, 0, 0) := rfl
theorem fX2_nextNode_7 : fetch tX2_nextNode 7 = some (.istore_n 1, 1, 1, 0, 0, 0) := rfl
theorem fX2_nextNode_8 : fetch tX2_nextNode 8 = some (.iload_n 1, 1, 1, 0, 0, 0) := rfl
theorem fX2_nextNode_9 : fetch tX2_nextNode 9 = some (.invokestatic 80, 3, 1, 3, 0, 0) := rfl
theorem fX2_nextNode_12 : fetch tX2_nextNode 12 = some (.ifCond .eq 7, 3, 19, 0, 0, 0) := rfl
theorem fX2_nextNode_15 : fetch tX2_nextNode 15 = some (.iload_n 1, 1, 1, 0, 0, 0) := rfl
theorem fX2_nextNode_16 : fetch tX2_nextNode 16 = some (.goto 4, 3, 20, 0, 0, 0) := rfl
theorem fX2_nextNode_19 : fetch tX2_nextNode 19 = some (.iconst (-1), 1, 0, 0, (-1), 0) := rfl
theorem fX2_nextNode_20 : fetch tX2_nextNode 20 = some (.ireturn, 1, 0, 0, 0, 0) := rfl
def tX2_accept : List (Nat × TE) := [(0, .aload_n 0, 1, 0, 0, 0, 0), (1, .invokevirtual 50, 3, 0, 2, 0, 0), (4, .iload_n 1, 1, 1, 0, 0, 0), (5, .if_icmp .eq 8, 3, 13, 0, 0, 0), (8, .aload_n 0, 1, 0, 0, 0, 0), (9, .invokevirtual 47, 3, 1, 2, 0, 0), (12, .ireturn, 1, 0, 0, 0, 0), (13, .aload_n 0, 1, 0, 0, 0, 0), (14, .dup, 1, 0, 0, 0, 0), (15, .getfield 26, 3, 2, 3, 0, 0), (18, .iconst 1, 1, 0, 0, 1, 0), (19, .iadd, 1, 0, 0, 0, 0), (20, .putfield 26, 3, 2, 3, 0, 0), (23, .iconst 1, 1, 0, 0, 1, 0), (24, .ireturn, 1, 0, 0, 0, 0)]
theorem tkX2_accept : tOk cX2_accept "RumourSource$Text" 2 tX2_accept = true := by decide +kernel
theorem fX2_accept_0 : fetch tX2_accept 0 = some (.aload_n 0, 1, 0, 0, 0, 0) := rfl
theorem fX2_accept_1 : fetch tX2_accept 1 = some (.invokevirtual 50, 3, 0, 2, 0, 0) := rfl
theorem fX2_accept_4 : fetch tX2_accept 4 = some (.iload_n 1, 1, 1, 0, 0, 0) := rfl
theorem fX2_accept_5 : fetch tX2_accept 5 = some (.if_icmp .eq 8, 3, 13, 0, 0, 0) := rfl
theorem fX2_accept_8 : fetch tX2_accept 8 = some (.aload_n 0, 1, 0, 0, 0, 0) := rfl
theorem fX2_accept_9 : fetch tX2_accept 9 = some (.invokevirtual 47, 3, 1, 2, 0, 0) := rfl
theorem fX2_accept_12 : fetch tX2_accept 12 = some (.ireturn, 1, 0, 0, 0, 0) := rfl
theorem fX2_accept_13 : fetch tX2_accept 13 = some (.aload_n 0, 1, 0, 0, 0, 0) := rfl
theorem fX2_accept_14 : fetch tX2_accept 14 = some (.dup, 1, 0, 0, 0, 0) := rfl
theorem fX2_accept_15 : fetch tX2_accept 15 = some (.getfield 26, 3, 2, 3, 0, 0) := rfl
theorem fX2_accept_18 : fetch tX2_accept 18 = some (.iconst 1, 1, 0, 0, 1, 0) := rfl
theorem fX2_accept_19 : fetch tX2_accept 19 = some (.iadd, 1, 0, 0, 0, 0) := rfl
theorem fX2_accept_20 : fetch tX2_accept 20 = some (.putfield 26, 3, 2, 3, 0, 0) := rfl
theorem fX2_accept_23 : fetch tX2_accept 23 = some (.iconst 1, 1, 0, 0, 1, 0) := rfl
theorem fX2_accept_24 : fetch tX2_accept 24 = some (.ireturn, 1, 0, 0, 0, 0) := rfl
def tX2_refuse : List (Nat × TE) := [(0, .aload_n 0, 1, 0, 0, 0, 0), (1, .aload_n 0, 1, 0, 0, 0, 0), (2, .getfield 26, 3, 2, 3, 0, 0), (5, .putfield 29, 3, 2, 4, 0, 0), (8, .iconst 0, 1, 0, 0, 0, 0), (9, .ireturn, 1, 0, 0, 0, 0)]
theorem tkX2_refuse : tOk cX2_refuse "RumourSource$Text" 1 tX2_refuse = true := by decide +kernel
theorem fX2_refuse_0 : fetch tX2_refuse 0 = some (.aload_n 0, 1, 0, 0, 0, 0) := rfl
theorem fX2_refuse_1 : fetch tX2_refuse 1 = some (.aload_n 0, 1, 0, 0, 0, 0) := rfl
theorem fX2_refuse_2 : fetch tX2_refuse 2 = some (.getfield 26, 3, 2, 3, 0, 0) := rfl
theorem fX2_refuse_5 : fetch tX2_refuse 5 = some (.putfield 29, 3, 2, 4, 0, 0) := rfl
theorem fX2_refuse_8 : fetch tX2_refuse 8 = some (.iconst 0, 1, 0, 0, 0, 0) := rfl
theorem fX2_refuse_9 : fetch tX2_refuse 9 = some (.ireturn, 1, 0, 0, 0, 0) := rfl
def tX3_addEdge : List (Nat × TE) := [(0, .iload_n 1, 1, 1, 0, 0, 0), (1, .invokestatic 42, 3, 0, 3, 0, 0), (4, .ifCond .eq 10, 3, 14, 0, 0, 0), (7, .iload_n 2, 1, 2, 0, 0, 0), (8, .invokestatic 42, 3, 0, 3, 0, 0), (11, .ifCond .ne 6, 3, 17, 0, 0, 0), (14, .bipush (-2), 2, 0, 0, (-2), 0), (16, .ireturn, 1, 0, 0, 0, 0), (17, .iload_n 3, 1, 3, 0, 0, 0), (18, .invokestatic 46, 3, 1, 3, 0, 0), (21, .ifCond .eq 16, 3, 37, 0, 0, 0), (24, .iload 4, 2, 4, 0, 0, 0), (26, .invokestatic 49, 3, 2, 3, 0, 0), (29, .ifCond .eq 8, 3, 37, 0, 0, 0), (32, .iload_n 1, 1, 1, 0, 0, 0), (33, .iload_n 2, 1, 2, 0, 0, 0), (34, .if_icmp .ne 6, 3, 40, 0, 0, 0), (37, .bipush (-3), 2, 0, 0, (-3), 0), (39, .ireturn, 1, 0, 0, 0, 0), (40, .aload_n 0, 1, 0, 0, 0, 0), (41, .getfield 12, 3, 3, 0, 0, 0), (44, .iload_n 1, 1, 1, 0, 0, 0), (45, .iload_n 2, 1, 2, 0, 0, 0), (46, .invokevirtual 52, 3, 3, 0, 0, 0), (49, .iconst (-1), 1, 0, 0, (-1), 0), (50, .if_icmp .eq 6, 3, 56, 0, 0, 0), (53, .bipush (-4), 2, 0, 0, (-4), 0), (55, .ireturn, 1, 0, 0, 0, 0), (56, .aload_n 0, 1, 0, 0, 0, 0), (57, .getfield 12, 3, 3, 0, 0, 0), (60, .invokevirtual 56, 3, 4, 0, 0, 0), (63, .ifCond .eq 6, 3, 69, 0, 0, 0), (66, .bipush (-5), 2, 0, 0, (-5), 0), (68, .ireturn, 1, 0, 0, 0, 0), (69, .aload_n 0, 1, 0, 0, 0, 0), (70, .invokevirtual 60, 3, 5, 3, 0, 0), (73, .aload_n 0, 1, 0, 0, 0, 0), (74, .getfield 12, 3, 3, 0, 0, 0), (77, .iload_n 1, 1, 1, 0, 0, 0), (78, .iload_n 2, 1, 2, 0, 0, 0), (79, .iload_n 3, 1, 3, 0, 0, 0), (80, .iload 4, 2, 4, 0, 0, 0), (82, .invokevirtual 63, 3, 6, 0, 0, 0), (85, .ireturn, 1, 0, 0, 0, 0)]
theorem tkX3_addEdge : tOk cX3_addEdge "RumourSource" 5 tX3_addEdge = true := by decide +kernel
theorem fX3_addEdge_0 : fetch tX3_addEdge 0 = some (.iload_n 1, 1, 1, 0, 0, 0) := rfl
theorem fX3_addEdge_1 : fetch tX3_addEdge 1 = some (.invokestatic 42, 3, 0, 3, 0, 0) := rfl
theorem fX3_addEdge_4 : fetch tX3_addEdge 4 = some (.ifCond .eq 10, 3, 14, 0, 0, 0) := rfl
theorem fX3_addEdge_7 : fetch tX3_addEdge 7 = some (.iload_n 2, 1, 2, 0, 0, 0) := rfl
theorem fX3_addEdge_8 : fetch tX3_addEdge 8 = some (.invokestatic 42, 3, 0, 3, 0, 0) := rfl
theorem fX3_addEdge_11 : fetch tX3_addEdge 11 = some (.ifCond .ne 6, 3, 17, 0, 0, 0) := rfl
theorem fX3_addEdge_14 : fetch tX3_addEdge 14 = some (.bipush (-2), 2, 0, 0, (-2), 0) := rfl
theorem fX3_addEdge_16 : fetch tX3_addEdge 16 = some (.ireturn, 1, 0, 0, 0, 0) := rfl
theorem fX3_addEdge_17 : fetch tX3_addEdge 17 = some (.iload_n 3, 1, 3, 0, 0, 0) := rfl
theorem fX3_addEdge_18 : fetch tX3_addEdge 18 = some (.invokestatic 46, 3, 1, 3, 0, 0) := rfl
theorem fX3_addEdge_21 : fetch tX3_addEdge 21 = some (.ifCond .eq 16, 3, 37, 0, 0, 0) := rfl
theorem fX3_addEdge_24 : fetch tX3_addEdge 24 = some (.iload 4, 2, 4, 0, 0, 0) := rfl
theorem fX3_addEdge_26 : fetch tX3_addEdge 26 = some (.invokestatic 49, 3, 2, 3, 0, 0) := rfl
theorem fX3_addEdge_29 : fetch tX3_addEdge 29 = some (.ifCond .eq 8, 3, 37, 0, 0, 0) := rfl
theorem fX3_addEdge_32 : fetch tX3_addEdge 32 = some (.iload_n 1, 1, 1, 0, 0, 0) := rfl
theorem fX3_addEdge_33 : fetch tX3_addEdge 33 = some (.iload_n 2, 1, 2, 0, 0, 0) := rfl
theorem fX3_addEdge_34 : fetch tX3_addEdge 34 = some (.if_icmp .ne 6, 3, 40, 0, 0, 0) := rfl
theorem fX3_addEdge_37 : fetch tX3_addEdge 37 = some (.bipush (-3), 2, 0, 0, (-3), 0) := rfl
theorem fX3_addEdge_39 : fetch tX3_addEdge 39 = some (.ireturn, 1, 0, 0, 0, 0) := rfl
theorem fX3_addEdge_40 : fetch tX3_addEdge 40 = some (.aload_n 0, 1, 0, 0, 0, 0) := rfl
theorem fX3_addEdge_41 : fetch tX3_addEdge 41 = some (.getfield 12, 3, 3, 0, 0, 0) := rfl
theorem fX3_addEdge_44 : fetch tX3_addEdge 44 = some (.iload_n 1, 1, 1, 0, 0, 0) := rfl
theorem fX3_addEdge_45 : fetch tX3_addEdge 45 = some (.iload_n 2, 1, 2, 0, 0, 0) := rfl
theorem fX3_addEdge_46 : fetch tX3_addEdge 46 = some (.invokevirtual 52, 3, 3, 0, 0, 0) := rfl
theorem fX3_addEdge_49 : fetch tX3_addEdge 49 = some (.iconst (-1), 1, 0, 0, (-1), 0) := rfl
theorem fX3_addEdge_50 : fetch tX3_addEdge 50 = some (.if_icmp .eq 6, 3, 56, 0, 0, 0) := rfl
theorem fX3_addEdge_53 : fetch tX3_addEdge 53 = some (.bipush (-4), 2, 0, 0, (-4), 0) := rfl
theorem fX3_addEdge_55 : fetch tX3_addEdge 55 = some (.ireturn, 1, 0, 0, 0, 0) := rfl
theorem fX3_addEdge_56 : fetch tX3_addEdge 56 = some (.aload_n 0, 1, 0, 0, 0, 0) := rfl
theorem fX3_addEdge_57 : fetch tX3_addEdge 57 = some (.getfield 12, 3, 3, 0, 0, 0) := rfl
theorem fX3_addEdge_60 : fetch tX3_addEdge 60 = some (.invokevirtual 56, 3, 4, 0, 0, 0) := rfl
theorem fX3_addEdge_63 : fetch tX3_addEdge 63 = some (.ifCond .eq 6, 3, 69, 0, 0, 0) := rfl
theorem fX3_addEdge_66 : fetch tX3_addEdge 66 = some (.bipush (-5), 2, 0, 0, (-5), 0) := rfl
theorem fX3_addEdge_68 : fetch tX3_addEdge 68 = some (.ireturn, 1, 0, 0, 0, 0) := rfl
theorem fX3_addEdge_69 : fetch tX3_addEdge 69 = some (.aload_n 0, 1, 0, 0, 0, 0) := rfl
theorem fX3_addEdge_70 : fetch tX3_addEdge 70 = some (.invokevirtual 60, 3, 5, 3, 0, 0) := rfl
theorem fX3_addEdge_73 : fetch tX3_addEdge 73 = some (.aload_n 0, 1, 0, 0, 0, 0) := rfl
theorem fX3_addEdge_74 : fetch tX3_addEdge 74 = some (.getfield 12, 3, 3, 0, 0, 0) := rfl
theorem fX3_addEdge_77 : fetch tX3_addEdge 77 = some (.iload_n 1, 1, 1, 0, 0, 0) := rfl
theorem fX3_addEdge_78 : fetch tX3_addEdge 78 = some (.iload_n 2, 1, 2, 0, 0, 0) := rfl
theorem fX3_addEdge_79 : fetch tX3_addEdge 79 = some (.iload_n 3, 1, 3, 0, 0, 0) := rfl
theorem fX3_addEdge_80 : fetch tX3_addEdge 80 = some (.iload 4, 2, 4, 0, 0, 0) := rfl
theorem fX3_addEdge_82 : fetch tX3_addEdge 82 = some (.invokevirtual 63, 3, 6, 0, 0, 0) := rfl
theorem fX3_addEdge_85 : fetch tX3_addEdge 85 = some (.ireturn, 1, 0, 0, 0, 0) := rfl
def tX3_setEdge : List (Nat × TE) := [(0, .aload_n 0, 1, 0, 0, 0, 0), (1, .getfield 12, 3, 3, 0, 0, 0), (4, .iload_n 1, 1, 1, 0, 0, 0), (5, .invokevirtual 67, 3, 0, 0, 0, 0), (8, .ifCond .ne 6, 3, 14, 0, 0, 0), (11, .bipush (-2), 2, 0, 0, (-2), 0), (13, .ireturn, 1, 0, 0, 0, 0), (14, .iload_n 2, 1, 2, 0, 0, 0), (15, .invokestatic 46, 3, 1, 3, 0, 0), (18, .ifCond .eq 10, 3, 28, 0, 0, 0), (21, .iload_n 3, 1, 3, 0, 0, 0), (22, .invokestatic 49, 3, 2, 3, 0, 0), (25, .ifCond .ne 6, 3, 31, 0, 0, 0), (28, .bipush (-3), 2, 0, 0, (-3), 0), (30, .ireturn, 1, 0, 0, 0, 0), (31, .aload_n 0, 1, 0, 0, 0, 0), (32, .invokevirtual 60, 3, 3, 3, 0, 0), (35, .aload_n 0, 1, 0, 0, 0, 0), (36, .getfield 12, 3, 3, 0, 0, 0), (39, .getfield 70, 3, 0, 2, 0, 0), (42, .iload_n 1, 1, 1, 0, 0, 0), (43, .iaload, 1, 0, 0, 0, 0), (44, .istore 4, 2, 4, 0, 0, 0), (46, .aload_n 0, 1, 0, 0, 0, 0), (47, .getfield 12, 3, 3, 0, 0, 0), (50, .getfield 70, 3, 0, 2, 0, 0), (53, .iload_n 1, 1, 1, 0, 0, 0), (54, .iload_n 2, 1, 2, 0, 0, 0), (55, .iastore, 1, 0, 0, 0, 0), (56, .aload_n 0, 1, 0, 0, 0, 0), (57, .getfield 12, 3, 3, 0, 0, 0), (60, .getfield 74, 3, 0, 3, 0, 0), (63, .iload_n 1, 1, 1, 0, 0, 0), (64, .iload_n 3, 1, 3, 0, 0, 0), (65, .iastore, 1, 0, 0, 0, 0), (66, .iload 4, 2, 4, 0, 0, 0), (68, .ireturn, 1, 0, 0, 0, 0)]
theorem tkX3_setEdge : tOk cX3_setEdge "RumourSource" 5 tX3_setEdge = true := by decide +kernel
theorem fX3_setEdge_0 : fetch tX3_setEdge 0 = some (.aload_n 0, 1, 0, 0, 0, 0) := rfl
theorem fX3_setEdge_1 : fetch tX3_setEdge 1 = some (.getfield 12, 3, 3, 0, 0, 0) := rfl
theorem fX3_setEdge_4 : fetch tX3_setEdge 4 = some (.iload_n 1, 1, 1, 0, 0, 0) := rfl
theorem fX3_setEdge_5 : fetch tX3_setEdge 5 = some (.invokevirtual 67, 3, 0, 0, 0, 0) := rfl
theorem fX3_setEdge_8 : fetch tX3_setEdge 8 = some (.ifCond .ne 6, 3, 14, 0, 0, 0) := rfl
theorem fX3_setEdge_11 : fetch tX3_setEdge 11 = some (.bipush (-2), 2, 0, 0, (-2), 0) := rfl
theorem fX3_setEdge_13 : fetch tX3_setEdge 13 = some (.ireturn, 1, 0, 0, 0, 0) := rfl
theorem fX3_setEdge_14 : fetch tX3_setEdge 14 = some (.iload_n 2, 1, 2, 0, 0, 0) := rfl
theorem fX3_setEdge_15 : fetch tX3_setEdge 15 = some (.invokestatic 46, 3, 1, 3, 0, 0) := rfl
theorem fX3_setEdge_18 : fetch tX3_setEdge 18 = some (.ifCond .eq 10, 3, 28, 0, 0, 0) := rfl
theorem fX3_setEdge_21 : fetch tX3_setEdge 21 = some (.iload_n 3, 1, 3, 0, 0, 0) := rfl
theorem fX3_setEdge_22 : fetch tX3_setEdge 22 = some (.invokestatic 49, 3, 2, 3, 0, 0) := rfl
theorem fX3_setEdge_25 : fetch tX3_setEdge 25 = some (.ifCond .ne 6, 3, 31, 0, 0, 0) := rfl
theorem fX3_setEdge_28 : fetch tX3_setEdge 28 = some (.bipush (-3), 2, 0, 0, (-3), 0) := rfl
theorem fX3_setEdge_30 : fetch tX3_setEdge 30 = some (.ireturn, 1, 0, 0, 0, 0) := rfl
theorem fX3_setEdge_31 : fetch tX3_setEdge 31 = some (.aload_n 0, 1, 0, 0, 0, 0) := rfl
theorem fX3_setEdge_32 : fetch tX3_setEdge 32 = some (.invokevirtual 60, 3, 3, 3, 0, 0) := rfl
theorem fX3_setEdge_35 : fetch tX3_setEdge 35 = some (.aload_n 0, 1, 0, 0, 0, 0) := rfl
theorem fX3_setEdge_36 : fetch tX3_setEdge 36 = some (.getfield 12, 3, 3, 0, 0, 0) := rfl
theorem fX3_setEdge_39 : fetch tX3_setEdge 39 = some (.getfield 70, 3, 0, 2, 0, 0) := rfl
theorem fX3_setEdge_42 : fetch tX3_setEdge 42 = some (.iload_n 1, 1, 1, 0, 0, 0) := rfl
theorem fX3_setEdge_43 : fetch tX3_setEdge 43 = some (.iaload, 1, 0, 0, 0, 0) := rfl
theorem fX3_setEdge_44 : fetch tX3_setEdge 44 = some (.istore 4, 2, 4, 0, 0, 0) := rfl
theorem fX3_setEdge_46 : fetch tX3_setEdge 46 = some (.aload_n 0, 1, 0, 0, 0, 0) := rfl
theorem fX3_setEdge_47 : fetch tX3_setEdge 47 = some (.getfield 12, 3, 3, 0, 0, 0) := rfl
theorem fX3_setEdge_50 : fetch tX3_setEdge 50 = some (.getfield 70, 3, 0, 2, 0, 0) := rfl
theorem fX3_setEdge_53 : fetch tX3_setEdge 53 = some (.iload_n 1, 1, 1, 0, 0, 0) := rfl
theorem fX3_setEdge_54 : fetch tX3_setEdge 54 = some (.iload_n 2, 1, 2, 0, 0, 0) := rfl
theorem fX3_setEdge_55 : fetch tX3_setEdge 55 = some (.iastore, 1, 0, 0, 0, 0) := rfl
theorem fX3_setEdge_56 : fetch tX3_setEdge 56 = some (.aload_n 0, 1, 0, 0, 0, 0) := rfl
theorem fX3_setEdge_57 : fetch tX3_setEdge 57 = some (.getfield 12, 3, 3, 0, 0, 0) := rfl
theorem fX3_setEdge_60 : fetch tX3_setEdge 60 = some (.getfield 74, 3, 0, 3, 0, 0) := rfl
theorem fX3_setEdge_63 : fetch tX3_setEdge 63 = some (.iload_n 1, 1, 1, 0, 0, 0) := rfl
theorem fX3_setEdge_64 : fetch tX3_setEdge 64 = some (.iload_n 3, 1, 3, 0, 0, 0) := rfl
theorem fX3_setEdge_65 : fetch tX3_setEdge 65 = some (.iastore, 1, 0, 0, 0, 0) := rfl
theorem fX3_setEdge_66 : fetch tX3_setEdge 66 = some (.iload 4, 2, 4, 0, 0, 0) := rfl
theorem fX3_setEdge_68 : fetch tX3_setEdge 68 = some (.ireturn, 1, 0, 0, 0, 0) := rfl
def tX3_removeEdge : List (Nat × TE) := [(0, .aload_n 0, 1, 0, 0, 0, 0), (1, .getfield 12, 3, 3, 0, 0, 0), (4, .iload_n 1, 1, 1, 0, 0, 0), (5, .invokevirtual 67, 3, 0, 0, 0, 0), (8, .ifCond .ne 6, 3, 14, 0, 0, 0), (11, .bipush (-2), 2, 0, 0, (-2), 0), (13, .ireturn, 1, 0, 0, 0, 0), (14, .aload_n 0, 1, 0, 0, 0, 0), (15, .invokevirtual 60, 3, 1, 3, 0, 0), (18, .aload_n 0, 1, 0, 0, 0, 0), (19, .getfield 12, 3, 3, 0, 0, 0), (22, .iload_n 1, 1, 1, 0, 0, 0), (23, .invokevirtual 77, 3, 2, 0, 0, 0), (26, .aload_n 0, 1, 0, 0, 0, 0), (27, .getfield 12, 3, 3, 0, 0, 0), (30, .getfield 81, 3, 0, 4, 0, 0), (33, .ireturn, 1, 0, 0, 0, 0)]
theorem tkX3_removeEdge : tOk cX3_removeEdge "RumourSource" 2 tX3_removeEdge = true := by decide +kernel
theorem fX3_removeEdge_0 : fetch tX3_removeEdge 0 = some (.aload_n 0, 1, 0, 0, 0, 0) := rfl
theorem fX3_removeEdge_1 : fetch tX3_removeEdge 1 = some (.getfield 12, 3, 3, 0, 0, 0) := rfl
theorem fX3_removeEdge_4 : fetch tX3_removeEdge 4 = some (.iload_n 1, 1, 1, 0, 0, 0) := rfl
theorem fX3_removeEdge_5 : fetch tX3_removeEdge 5 = some (.invokevirtual 67, 3, 0, 0, 0, 0) := rfl
theorem fX3_removeEdge_8 : fetch tX3_removeEdge 8 = some (.ifCond .ne 6, 3, 14, 0, 0, 0) := rfl
theorem fX3_removeEdge_11 : fetch tX3_removeEdge 11 = some (.bipush (-2), 2, 0, 0, (-2), 0) := rfl
theorem fX3_removeEdge_13 : fetch tX3_removeEdge 13 = some (.ireturn, 1, 0, 0, 0, 0) := rfl
theorem fX3_removeEdge_14 : fetch tX3_removeEdge 14 = some (.aload_n 0, 1, 0, 0, 0, 0) := rfl
theorem fX3_removeEdge_15 : fetch tX3_removeEdge 15 = some (.invokevirtual 60, 3, 1, 3, 0, 0) := rfl
theorem fX3_removeEdge_18 : fetch tX3_removeEdge 18 = some (.aload_n 0, 1, 0, 0, 0, 0) := rfl
theorem fX3_removeEdge_19 : fetch tX3_removeEdge 19 = some (.getfield 12, 3, 3, 0, 0, 0) := rfl
theorem fX3_removeEdge_22 : fetch tX3_removeEdge 22 = some (.iload_n 1, 1, 1, 0, 0, 0) := rfl
theorem fX3_removeEdge_23 : fetch tX3_removeEdge 23 = some (.invokevirtual 77, 3, 2, 0, 0, 0) := rfl
theorem fX3_removeEdge_26 : fetch tX3_removeEdge 26 = some (.aload_n 0, 1, 0, 0, 0, 0) := rfl
theorem fX3_removeEdge_27 : fetch tX3_removeEdge 27 = some (.getfield 12, 3, 3, 0, 0, 0) := rfl
theorem fX3_removeEdge_30 : fetch tX3_removeEdge 30 = some (.getfield 81, 3, 0, 4, 0, 0) := rfl
theorem fX3_removeEdge_33 : fetch tX3_removeEdge 33 = some (.ireturn, 1, 0, 0, 0, 0) := rfl
def tX3_edges : List (Nat × TE) := [(0, .aload_n 0, 1, 0, 0, 0, 0), (1, .getfield 12, 3, 3, 0, 0, 0), (4, .getfield 81, 3, 0, 4, 0, 0), (7, .ireturn, 1, 0, 0, 0, 0)]
theorem tkX3_edges : tOk cX3_edges "RumourSource" 1 tX3_edges = true := by decide +kernel
theorem fX3_edges_0 : fetch tX3_edges 0 = some (.aload_n 0, 1, 0, 0, 0, 0) := rfl
theorem fX3_edges_1 : fetch tX3_edges 1 = some (.getfield 12, 3, 3, 0, 0, 0) := rfl
theorem fX3_edges_4 : fetch tX3_edges 4 = some (.getfield 81, 3, 0, 4, 0, 0) := rfl
theorem fX3_edges_7 : fetch tX3_edges 7 = some (.ireturn, 1, 0, 0, 0, 0) := rfl
def tX3_edge : List (Nat × TE) := [(0, .aload_n 0, 1, 0, 0, 0, 0), (1, .getfield 12, 3, 3, 0, 0, 0), (4, .iload_n 1, 1, 1, 0, 0, 0), (5, .invokevirtual 67, 3, 0, 0, 0, 0), (8, .ifCond .ne 6, 3, 14, 0, 0, 0), (11, .bipush (-2), 2, 0, 0, (-2), 0), (13, .ireturn, 1, 0, 0, 0, 0), (14, .iload_n 2, 1, 2, 0, 0, 0), (15, .tableswitch 69 0 3 #[29, 39, 49, 59], 29, 0, 0, 0, 0), (44, .aload_n 0, 1, 0, 0, 0, 0), (45, .getfield 12, 3, 3, 0, 0, 0), (48, .getfield 84, 3, 0, 0, 0, 0), (51, .iload_n 1, 1, 1, 0, 0, 0), (52, .iaload, 1, 0, 0, 0, 0), (53, .ireturn, 1, 0, 0, 0, 0), (54, .aload_n 0, 1, 0, 0, 0, 0), (55, .getfield 12, 3, 3, 0, 0, 0), (58, .getfield 87, 3, 0, 1, 0, 0), (61, .iload_n 1, 1, 1, 0, 0, 0), (62, .iaload, 1, 0, 0, 0, 0), (63, .ireturn, 1, 0, 0, 0, 0), (64, .aload_n 0, 1, 0, 0, 0, 0), (65, .getfield 12, 3, 3, 0, 0, 0), (68, .getfield 70, 3, 0, 2, 0, 0), (71, .iload_n 1, 1, 1, 0, 0, 0), (72, .iaload, 1, 0, 0, 0, 0), (73, .ireturn, 1, 0, 0, 0, 0), (74, .aload_n 0, 1, 0, 0, 0, 0), (75, .getfield 12, 3, 3, 0, 0, 0), (78, .getfield 74, 3, 0, 3, 0, 0), (81, .iload_n 1, 1, 1, 0, 0, 0), (82, .iaload, 1, 0, 0, 0, 0), (83, .ireturn, 1, 0, 0, 0, 0), (84, .bipush (-3), 2, 0, 0, (-3), 0), (86, .ireturn, 1, 0, 0, 0, 0)]
theorem tkX3_edge : tOk cX3_edge "RumourSource" 3 tX3_edge = true := by decide +kernel
theorem fX3_edge_0 : fetch tX3_edge 0 = some (.aload_n 0, 1, 0, 0, 0, 0) := rfl
theorem fX3_edge_1 : fetch tX3_edge 1 = some (.getfield 12, 3, 3, 0, 0, 0) := rfl
theorem fX3_edge_4 : fetch tX3_edge 4 = some (.iload_n 1, 1, 1, 0, 0, 0) := rfl
theorem fX3_edge_5 : fetch tX3_edge 5 = some (.invokevirtual 67, 3, 0, 0, 0, 0) := rfl
theorem fX3_edge_8 : fetch tX3_edge 8 = some (.ifCond .ne 6, 3, 14, 0, 0, 0) := rfl
theorem fX3_edge_11 : fetch tX3_edge 11 = some (.bipush (-2), 2, 0, 0, (-2), 0) := rfl
theorem fX3_edge_13 : fetch tX3_edge 13 = some (.ireturn, 1, 0, 0, 0, 0) := rfl
theorem fX3_edge_14 : fetch tX3_edge 14 = some (.iload_n 2, 1, 2, 0, 0, 0) := rfl
theorem fX3_edge_15 : fetch tX3_edge 15 = some (.tableswitch 69 0 3 #[29, 39, 49, 59], 29, 0, 0, 0, 0) := rfl
theorem fX3_edge_44 : fetch tX3_edge 44 = some (.aload_n 0, 1, 0, 0, 0, 0) := rfl
theorem fX3_edge_45 : fetch tX3_edge 45 = some (.getfield 12, 3, 3, 0, 0, 0) := rfl
theorem fX3_edge_48 : fetch tX3_edge 48 = some (.getfield 84, 3, 0, 0, 0, 0) := rfl
theorem fX3_edge_51 : fetch tX3_edge 51 = some (.iload_n 1, 1, 1, 0, 0, 0) := rfl
theorem fX3_edge_52 : fetch tX3_edge 52 = some (.iaload, 1, 0, 0, 0, 0) := rfl
theorem fX3_edge_53 : fetch tX3_edge 53 = some (.ireturn, 1, 0, 0, 0, 0) := rfl
theorem fX3_edge_54 : fetch tX3_edge 54 = some (.aload_n 0, 1, 0, 0, 0, 0) := rfl
theorem fX3_edge_55 : fetch tX3_edge 55 = some (.getfield 12, 3, 3, 0, 0, 0) := rfl
theorem fX3_edge_58 : fetch tX3_edge 58 = some (.getfield 87, 3, 0, 1, 0, 0) := rfl
theorem fX3_edge_61 : fetch tX3_edge 61 = some (.iload_n 1, 1, 1, 0, 0, 0) := rfl
theorem fX3_edge_62 : fetch tX3_edge 62 = some (.iaload, 1, 0, 0, 0, 0) := rfl
theorem fX3_edge_63 : fetch tX3_edge 63 = some (.ireturn, 1, 0, 0, 0, 0) := rfl
theorem fX3_edge_64 : fetch tX3_edge 64 = some (.aload_n 0, 1, 0, 0, 0, 0) := rfl
theorem fX3_edge_65 : fetch tX3_edge 65 = some (.getfield 12, 3, 3, 0, 0, 0) := rfl
theorem fX3_edge_68 : fetch tX3_edge 68 = some (.getfield 70, 3, 0, 2, 0, 0) := rfl
theorem fX3_edge_71 : fetch tX3_edge 71 = some (.iload_n 1, 1, 1, 0, 0, 0) := rfl
theorem fX3_edge_72 : fetch tX3_edge 72 = some (.iaload, 1, 0, 0, 0, 0) := rfl
theorem fX3_edge_73 : fetch tX3_edge 73 = some (.ireturn, 1, 0, 0, 0, 0) := rfl
theorem fX3_edge_74 : fetch tX3_edge 74 = some (.aload_n 0, 1, 0, 0, 0, 0) := rfl
theorem fX3_edge_75 : fetch tX3_edge 75 = some (.getfield 12, 3, 3, 0, 0, 0) := rfl
theorem fX3_edge_78 : fetch tX3_edge 78 = some (.getfield 74, 3, 0, 3, 0, 0) := rfl
theorem fX3_edge_81 : fetch tX3_edge 81 = some (.iload_n 1, 1, 1, 0, 0, 0) := rfl
theorem fX3_edge_82 : fetch tX3_edge 82 = some (.iaload, 1, 0, 0, 0, 0) := rfl
theorem fX3_edge_83 : fetch tX3_edge 83 = some (.ireturn, 1, 0, 0, 0, 0) := rfl
theorem fX3_edge_84 : fetch tX3_edge 84 = some (.bipush (-3), 2, 0, 0, (-3), 0) := rfl
theorem fX3_edge_86 : fetch tX3_edge 86 = some (.ireturn, 1, 0, 0, 0, 0) := rfl
def tX3_edgeBetween : List (Nat × TE) := [(0, .iload_n 1, 1, 1, 0, 0, 0), (1, .invokestatic 42, 3, 0, 3, 0, 0), (4, .ifCond .eq 10, 3, 14, 0, 0, 0), (7, .iload_n 2, 1, 2, 0, 0, 0), (8, .invokestatic 42, 3, 0, 3, 0, 0), (11, .ifCond .ne 6, 3, 17, 0, 0, 0), (14, .bipush (-2), 2, 0, 0, (-2), 0), (16, .ireturn, 1, 0, 0, 0, 0), (17, .aload_n 0, 1, 0, 0, 0, 0), (18, .getfield 12, 3, 3, 0, 0, 0), (21, .iload_n 1, 1, 1, 0, 0, 0), (22, .iload_n 2, 1, 2, 0, 0, 0), (23, .invokevirtual 52, 3, 1, 0, 0, 0), (26, .ireturn, 1, 0, 0, 0, 0)]
theorem tkX3_edgeBetween : tOk cX3_edgeBetween "RumourSource" 3 tX3_edgeBetween = true := by decide +kernel
theorem fX3_edgeBetween_0 : fetch tX3_edgeBetween 0 = some (.iload_n 1, 1, 1, 0, 0, 0) := rfl
theorem fX3_edgeBetween_1 : fetch tX3_edgeBetween 1 = some (.invokestatic 42, 3, 0, 3, 0, 0) := rfl
theorem fX3_edgeBetween_4 : fetch tX3_edgeBetween 4 = some (.ifCond .eq 10, 3, 14, 0, 0, 0) := rfl
theorem fX3_edgeBetween_7 : fetch tX3_edgeBetween 7 = some (.iload_n 2, 1, 2, 0, 0, 0) := rfl
theorem fX3_edgeBetween_8 : fetch tX3_edgeBetween 8 = some (.invokestatic 42, 3, 0, 3, 0, 0) := rfl
theorem fX3_edgeBetween_11 : fetch tX3_edgeBetween 11 = some (.ifCond .ne 6, 3, 17, 0, 0, 0) := rfl
theorem fX3_edgeBetween_14 : fetch tX3_edgeBetween 14 = some (.bipush (-2), 2, 0, 0, (-2), 0) := rfl
theorem fX3_edgeBetween_16 : fetch tX3_edgeBetween 16 = some (.ireturn, 1, 0, 0, 0, 0) := rfl
theorem fX3_edgeBetween_17 : fetch tX3_edgeBetween 17 = some (.aload_n 0, 1, 0, 0, 0, 0) := rfl
theorem fX3_edgeBetween_18 : fetch tX3_edgeBetween 18 = some (.getfield 12, 3, 3, 0, 0, 0) := rfl
theorem fX3_edgeBetween_21 : fetch tX3_edgeBetween 21 = some (.iload_n 1, 1, 1, 0, 0, 0) := rfl
theorem fX3_edgeBetween_22 : fetch tX3_edgeBetween 22 = some (.iload_n 2, 1, 2, 0, 0, 0) := rfl
theorem fX3_edgeBetween_23 : fetch tX3_edgeBetween 23 = some (.invokevirtual 52, 3, 1, 0, 0, 0) := rfl
theorem fX3_edgeBetween_26 : fetch tX3_edgeBetween 26 = some (.ireturn, 1, 0, 0, 0, 0) := rfl
def tX3_setHorizon : List (Nat × TE) := [(0, .iload_n 1, 1, 1, 0, 0, 0), (1, .invokestatic 90, 3, 0, 3, 0, 0), (4, .ifCond .ne 6, 3, 10, 0, 0, 0), (7, .bipush (-3), 2, 0, 0, (-3), 0), (9, .ireturn, 1, 0, 0, 0, 0), (10, .aload_n 0, 1, 0, 0, 0, 0), (11, .invokevirtual 60, 3, 1, 3, 0, 0), (14, .aload_n 0, 1, 0, 0, 0, 0), (15, .getfield 12, 3, 3, 0, 0, 0), (18, .getfield 93, 3, 0, 5, 0, 0), (21, .istore_n 2, 1, 2, 0, 0, 0), (22, .aload_n 0, 1, 0, 0, 0, 0), (23, .getfield 12, 3, 3, 0, 0, 0), (26, .iload_n 1, 1, 1, 0, 0, 0), (27, .putfield 93, 3, 0, 5, 0, 0), (30, .iload_n 2, 1, 2, 0, 0, 0), (31, .ireturn, 1, 0, 0, 0, 0)]
theorem tkX3_setHorizon : tOk cX3_setHorizon "RumourSource" 3 tX3_setHorizon = true := by decide +kernel
theorem fX3_setHorizon_0 : fetch tX3_setHorizon 0 = some (.iload_n 1, 1, 1, 0, 0, 0) := rfl
theorem fX3_setHorizon_1 : fetch tX3_setHorizon 1 = some (.invokestatic 90, 3, 0, 3, 0, 0) := rfl
theorem fX3_setHorizon_4 : fetch tX3_setHorizon 4 = some (.ifCond .ne 6, 3, 10, 0, 0, 0) := rfl
theorem fX3_setHorizon_7 : fetch tX3_setHorizon 7 = some (.bipush (-3), 2, 0, 0, (-3), 0) := rfl
theorem fX3_setHorizon_9 : fetch tX3_setHorizon 9 = some (.ireturn, 1, 0, 0, 0, 0) := rfl
theorem fX3_setHorizon_10 : fetch tX3_setHorizon 10 = some (.aload_n 0, 1, 0, 0, 0, 0) := rfl
theorem fX3_setHorizon_11 : fetch tX3_setHorizon 11 = some (.invokevirtual 60, 3, 1, 3, 0, 0) := rfl
theorem fX3_setHorizon_14 : fetch tX3_setHorizon 14 = some (.aload_n 0, 1, 0, 0, 0, 0) := rfl
theorem fX3_setHorizon_15 : fetch tX3_setHorizon 15 = some (.getfield 12, 3, 3, 0, 0, 0) := rfl
theorem fX3_setHorizon_18 : fetch tX3_setHorizon 18 = some (.getfield 93, 3, 0, 5, 0, 0) := rfl
theorem fX3_setHorizon_21 : fetch tX3_setHorizon 21 = some (.istore_n 2, 1, 2, 0, 0, 0) := rfl
theorem fX3_setHorizon_22 : fetch tX3_setHorizon 22 = some (.aload_n 0, 1, 0, 0, 0, 0) := rfl
theorem fX3_setHorizon_23 : fetch tX3_setHorizon 23 = some (.getfield 12, 3, 3, 0, 0, 0) := rfl
theorem fX3_setHorizon_26 : fetch tX3_setHorizon 26 = some (.iload_n 1, 1, 1, 0, 0, 0) := rfl
theorem fX3_setHorizon_27 : fetch tX3_setHorizon 27 = some (.putfield 93, 3, 0, 5, 0, 0) := rfl
theorem fX3_setHorizon_30 : fetch tX3_setHorizon 30 = some (.iload_n 2, 1, 2, 0, 0, 0) := rfl
theorem fX3_setHorizon_31 : fetch tX3_setHorizon 31 = some (.ireturn, 1, 0, 0, 0, 0) := rfl
def tX3_observe : List (Nat × TE) := [(0, .iload_n 1, 1, 1, 0, 0, 0), (1, .invokestatic 42, 3, 0, 3, 0, 0), (4, .ifCond .ne 6, 3, 10, 0, 0, 0), (7, .bipush (-2), 2, 0, 0, (-2), 0), (9, .ireturn, 1, 0, 0, 0, 0), (10, .iload_n 2, 1, 2, 0, 0, 0), (11, .invokestatic 96, 3, 1, 3, 0, 0), (14, .ifCond .ne 6, 3, 20, 0, 0, 0), (17, .bipush (-3), 2, 0, 0, (-3), 0), (19, .ireturn, 1, 0, 0, 0, 0), (20, .aload_n 0, 1, 0, 0, 0, 0), (21, .iload_n 1, 1, 1, 0, 0, 0), (22, .iload_n 2, 1, 2, 0, 0, 0), (23, .invokevirtual 99, 3, 2, 3, 0, 0), (26, .ireturn, 1, 0, 0, 0, 0)]
theorem tkX3_observe : tOk cX3_observe "RumourSource" 3 tX3_observe = true := by decide +kernel
theorem fX3_observe_0 : fetch tX3_observe 0 = some (.iload_n 1, 1, 1, 0, 0, 0) := rfl
theorem fX3_observe_1 : fetch tX3_observe 1 = some (.invokestatic 42, 3, 0, 3, 0, 0) := rfl
theorem fX3_observe_4 : fetch tX3_observe 4 = some (.ifCond .ne 6, 3, 10, 0, 0, 0) := rfl
theorem fX3_observe_7 : fetch tX3_observe 7 = some (.bipush (-2), 2, 0, 0, (-2), 0) := rfl
theorem fX3_observe_9 : fetch tX3_observe 9 = some (.ireturn, 1, 0, 0, 0, 0) := rfl
theorem fX3_observe_10 : fetch tX3_observe 10 = some (.iload_n 2, 1, 2, 0, 0, 0) := rfl
theorem fX3_observe_11 : fetch tX3_observe 11 = some (.invokestatic 96, 3, 1, 3, 0, 0) := rfl
theorem fX3_observe_14 : fetch tX3_observe 14 = some (.ifCond .ne 6, 3, 20, 0, 0, 0) := rfl
theorem fX3_observe_17 : fetch tX3_observe 17 = some (.bipush (-3), 2, 0, 0, (-3), 0) := rfl
theorem fX3_observe_19 : fetch tX3_observe 19 = some (.ireturn, 1, 0, 0, 0, 0) := rfl
theorem fX3_observe_20 : fetch tX3_observe 20 = some (.aload_n 0, 1, 0, 0, 0, 0) := rfl
theorem fX3_observe_21 : fetch tX3_observe 21 = some (.iload_n 1, 1, 1, 0, 0, 0) := rfl
theorem fX3_observe_22 : fetch tX3_observe 22 = some (.iload_n 2, 1, 2, 0, 0, 0) := rfl
theorem fX3_observe_23 : fetch tX3_observe 23 = some (.invokevirtual 99, 3, 2, 3, 0, 0) := rfl
theorem fX3_observe_26 : fetch tX3_observe 26 = some (.ireturn, 1, 0, 0, 0, 0) := rfl
def tX3_forget : List (Nat × TE) := [(0, .iload_n 1, 1, 1, 0, 0, 0), (1, .invokestatic 42, 3, 0, 3, 0, 0), (4, .ifCond .ne 6, 3, 10, 0, 0, 0), (7, .bipush (-2), 2, 0, 0, (-2), 0), (9, .ireturn, 1, 0, 0, 0, 0), (10, .aload_n 0, 1, 0, 0, 0, 0), (11, .iload_n 1, 1, 1, 0, 0, 0), (12, .bipush 100, 2, 0, 0, 100, 0), (14, .invokevirtual 99, 3, 1, 3, 0, 0), (17, .ireturn, 1, 0, 0, 0, 0)]
theorem tkX3_forget : tOk cX3_forget "RumourSource" 2 tX3_forget = true := by decide +kernel
theorem fX3_forget_0 : fetch tX3_forget 0 = some (.iload_n 1, 1, 1, 0, 0, 0) := rfl
theorem fX3_forget_1 : fetch tX3_forget 1 = some (.invokestatic 42, 3, 0, 3, 0, 0) := rfl
theorem fX3_forget_4 : fetch tX3_forget 4 = some (.ifCond .ne 6, 3, 10, 0, 0, 0) := rfl
theorem fX3_forget_7 : fetch tX3_forget 7 = some (.bipush (-2), 2, 0, 0, (-2), 0) := rfl
theorem fX3_forget_9 : fetch tX3_forget 9 = some (.ireturn, 1, 0, 0, 0, 0) := rfl
theorem fX3_forget_10 : fetch tX3_forget 10 = some (.aload_n 0, 1, 0, 0, 0, 0) := rfl
theorem fX3_forget_11 : fetch tX3_forget 11 = some (.iload_n 1, 1, 1, 0, 0, 0) := rfl
theorem fX3_forget_12 : fetch tX3_forget 12 = some (.bipush 100, 2, 0, 0, 100, 0) := rfl
theorem fX3_forget_14 : fetch tX3_forget 14 = some (.invokevirtual 99, 3, 1, 3, 0, 0) := rfl
theorem fX3_forget_17 : fetch tX3_forget 17 = some (.ireturn, 1, 0, 0, 0, 0) := rfl
def tX3_observed : List (Nat × TE) := [(0, .iload_n 1, 1, 1, 0, 0, 0), (1, .invokestatic 42, 3, 0, 3, 0, 0), (4, .ifCond .ne 6, 3, 10, 0, 0, 0), (7, .bipush (-2), 2, 0, 0, (-2), 0), (9, .ireturn, 1, 0, 0, 0, 0), (10, .aload_n 0, 1, 0, 0, 0, 0), (11, .getfield 12, 3, 3, 0, 0, 0), (14, .getfield 102, 3, 0, 6, 0, 0), (17, .iload_n 1, 1, 1, 0, 0, 0), (18, .iaload, 1, 0, 0, 0, 0), (19, .ireturn, 1, 0, 0, 0, 0)]
theorem tkX3_observed : tOk cX3_observed "RumourSource" 2 tX3_observed = true := by decide +kernel
theorem fX3_observed_0 : fetch tX3_observed 0 = some (.iload_n 1, 1, 1, 0, 0, 0) := rfl
theorem fX3_observed_1 : fetch tX3_observed 1 = some (.invokestatic 42, 3, 0, 3, 0, 0) := rfl
theorem fX3_observed_4 : fetch tX3_observed 4 = some (.ifCond .ne 6, 3, 10, 0, 0, 0) := rfl
theorem fX3_observed_7 : fetch tX3_observed 7 = some (.bipush (-2), 2, 0, 0, (-2), 0) := rfl
theorem fX3_observed_9 : fetch tX3_observed 9 = some (.ireturn, 1, 0, 0, 0, 0) := rfl
theorem fX3_observed_10 : fetch tX3_observed 10 = some (.aload_n 0, 1, 0, 0, 0, 0) := rfl
theorem fX3_observed_11 : fetch tX3_observed 11 = some (.getfield 12, 3, 3, 0, 0, 0) := rfl
theorem fX3_observed_14 : fetch tX3_observed 14 = some (.getfield 102, 3, 0, 6, 0, 0) := rfl
theorem fX3_observed_17 : fetch tX3_observed 17 = some (.iload_n 1, 1, 1, 0, 0, 0) := rfl
theorem fX3_observed_18 : fetch tX3_observed 18 = some (.iaload, 1, 0, 0, 0, 0) := rfl
theorem fX3_observed_19 : fetch tX3_observed 19 = some (.ireturn, 1, 0, 0, 0, 0) := rfl
def tX3_setSensors : List (Nat × TE) := [(0, .iload_n 1, 1, 1, 0, 0, 0), (1, .ifCond .lt 10, 3, 11, 0, 0, 0), (4, .iload_n 1, 1, 1, 0, 0, 0), (5, .sipush 255, 3, 0, 0, 255, 0), (8, .if_icmp .le 6, 3, 14, 0, 0, 0), (11, .bipush (-3), 2, 0, 0, (-3), 0), (13, .ireturn, 1, 0, 0, 0, 0), (14, .aload_n 0, 1, 0, 0, 0, 0), (15, .invokevirtual 60, 3, 0, 3, 0, 0), (18, .aload_n 0, 1, 0, 0, 0, 0), (19, .getfield 12, 3, 3, 0, 0, 0), (22, .getfield 105, 3, 0, 7, 0, 0), (25, .istore_n 2, 1, 2, 0, 0, 0), (26, .aload_n 0, 1, 0, 0, 0, 0), (27, .getfield 12, 3, 3, 0, 0, 0), (30, .iload_n 1, 1, 1, 0, 0, 0), (31, .putfield 105, 3, 0, 7, 0, 0), (34, .iload_n 2, 1, 2, 0, 0, 0), (35, .ireturn, 1, 0, 0, 0, 0)]
theorem tkX3_setSensors : tOk cX3_setSensors "RumourSource" 3 tX3_setSensors = true := by decide +kernel
theorem fX3_setSensors_0 : fetch tX3_setSensors 0 = some (.iload_n 1, 1, 1, 0, 0, 0) := rfl
theorem fX3_setSensors_1 : fetch tX3_setSensors 1 = some (.ifCond .lt 10, 3, 11, 0, 0, 0) := rfl
theorem fX3_setSensors_4 : fetch tX3_setSensors 4 = some (.iload_n 1, 1, 1, 0, 0, 0) := rfl
theorem fX3_setSensors_5 : fetch tX3_setSensors 5 = some (.sipush 255, 3, 0, 0, 255, 0) := rfl
theorem fX3_setSensors_8 : fetch tX3_setSensors 8 = some (.if_icmp .le 6, 3, 14, 0, 0, 0) := rfl
theorem fX3_setSensors_11 : fetch tX3_setSensors 11 = some (.bipush (-3), 2, 0, 0, (-3), 0) := rfl
theorem fX3_setSensors_13 : fetch tX3_setSensors 13 = some (.ireturn, 1, 0, 0, 0, 0) := rfl
theorem fX3_setSensors_14 : fetch tX3_setSensors 14 = some (.aload_n 0, 1, 0, 0, 0, 0) := rfl
theorem fX3_setSensors_15 : fetch tX3_setSensors 15 = some (.invokevirtual 60, 3, 0, 3, 0, 0) := rfl
theorem fX3_setSensors_18 : fetch tX3_setSensors 18 = some (.aload_n 0, 1, 0, 0, 0, 0) := rfl
theorem fX3_setSensors_19 : fetch tX3_setSensors 19 = some (.getfield 12, 3, 3, 0, 0, 0) := rfl
theorem fX3_setSensors_22 : fetch tX3_setSensors 22 = some (.getfield 105, 3, 0, 7, 0, 0) := rfl
theorem fX3_setSensors_25 : fetch tX3_setSensors 25 = some (.istore_n 2, 1, 2, 0, 0, 0) := rfl
theorem fX3_setSensors_26 : fetch tX3_setSensors 26 = some (.aload_n 0, 1, 0, 0, 0, 0) := rfl
theorem fX3_setSensors_27 : fetch tX3_setSensors 27 = some (.getfield 12, 3, 3, 0, 0, 0) := rfl
theorem fX3_setSensors_30 : fetch tX3_setSensors 30 = some (.iload_n 1, 1, 1, 0, 0, 0) := rfl
theorem fX3_setSensors_31 : fetch tX3_setSensors 31 = some (.putfield 105, 3, 0, 7, 0, 0) := rfl
theorem fX3_setSensors_34 : fetch tX3_setSensors 34 = some (.iload_n 2, 1, 2, 0, 0, 0) := rfl
theorem fX3_setSensors_35 : fetch tX3_setSensors 35 = some (.ireturn, 1, 0, 0, 0, 0) := rfl
def tX3_simulate : List (Nat × TE) := [(0, .iload_n 1, 1, 1, 0, 0, 0), (1, .invokestatic 108, 3, 0, 3, 0, 0), (4, .ifCond .ne 6, 3, 10, 0, 0, 0), (7, .bipush (-3), 2, 0, 0, (-3), 0), (9, .ireturn, 1, 0, 0, 0, 0), (10, .aload_n 0, 1, 0, 0, 0, 0), (11, .invokevirtual 60, 3, 1, 3, 0, 0), (14, .aload_n 0, 1, 0, 0, 0, 0), (15, .getfield 23, 3, 3, 2, 0, 0), (18, .aload_n 0, 1, 0, 0, 0, 0), (19, .getfield 12, 3, 3, 0, 0, 0), (22, .iload_n 1, 1, 1, 0, 0, 0), (23, .aload_n 0, 1, 0, 0, 0, 0), (24, .iload_n 2, 1, 2, 0, 0, 0), (25, .invokevirtual 111, 3, 2, 3, 0, 0), (28, .invokevirtual 115, 3, 3, 1, 0, 0), (31, .iconst 0, 1, 0, 0, 0, 0), (32, .istore_n 3, 1, 3, 0, 0, 0), (33, .iconst 0, 1, 0, 0, 0, 0), (34, .istore 4, 2, 4, 0, 0, 0), (36, .iload 4, 2, 4, 0, 0, 0), (38, .bipush 8, 2, 0, 0, 8, 0), (40, .if_icmp .ge 66, 3, 106, 0, 0, 0), (43, .aload_n 0, 1, 0, 0, 0, 0), (44, .getfield 23, 3, 3, 2, 0, 0), (47, .getfield 119, 3, 1, 0, 0, 0), (50, .iload 4, 2, 4, 0, 0, 0), (52, .iaload, 1, 0, 0, 0, 0), (53, .invokestatic 122, 3, 4, 3, 0, 0), (56, .istore 5, 2, 5, 0, 0, 0), (58, .aload_n 0, 1, 0, 0, 0, 0), (59, .getfield 12, 3, 3, 0, 0, 0), (62, .getfield 102, 3, 0, 6, 0, 0), (65, .iload 4, 2, 4, 0, 0, 0), (67, .aload_n 0, 1, 0, 0, 0, 0), (68, .getfield 12, 3, 3, 0, 0, 0), (71, .getfield 105, 3, 0, 7, 0, 0), (74, .iload 4, 2, 4, 0, 0, 0), (76, .ishr, 1, 0, 0, 0, 0), (77, .iconst 1, 1, 0, 0, 1, 0), (78, .iand, 1, 0, 0, 0, 0), (79, .iconst 1, 1, 0, 0, 1, 0), (80, .if_icmp .ne 8, 3, 88, 0, 0, 0), (83, .iload 5, 2, 5, 0, 0, 0), (85, .goto 5, 3, 90, 0, 0, 0), (88, .bipush 100, 2, 0, 0, 100, 0), (90, .iastore, 1, 0, 0, 0, 0), (91, .iload 5, 2, 5, 0, 0, 0), (93, .iconst (-1), 1, 0, 0, (-1), 0), (94, .if_icmp .eq 6, 3, 100, 0, 0, 0), (97, .iinc 3 1, 3, 3, 0, 1, 0), (100, .iinc 4 1, 3, 4, 0, 1, 0), (103, .goto (-67), 3, 36, 0, 0, 0), (106, .iload_n 3, 1, 3, 0, 0, 0), (107, .ireturn, 1, 0, 0, 0, 0)]
theorem tkX3_simulate : tOk cX3_simulate "RumourSource" 6 tX3_simulate = true := by decide +kernel
theorem fX3_simulate_0 : fetch tX3_simulate 0 = some (.iload_n 1, 1, 1, 0, 0, 0) := rfl
theorem fX3_simulate_1 : fetch tX3_simulate 1 = some (.invokestatic 108, 3, 0, 3, 0, 0) := rfl
theorem fX3_simulate_4 : fetch tX3_simulate 4 = some (.ifCond .ne 6, 3, 10, 0, 0, 0) := rfl
theorem fX3_simulate_7 : fetch tX3_simulate 7 = some (.bipush (-3), 2, 0, 0, (-3), 0) := rfl
theorem fX3_simulate_9 : fetch tX3_simulate 9 = some (.ireturn, 1, 0, 0, 0, 0) := rfl
theorem fX3_simulate_10 : fetch tX3_simulate 10 = some (.aload_n 0, 1, 0, 0, 0, 0) := rfl
theorem fX3_simulate_11 : fetch tX3_simulate 11 = some (.invokevirtual 60, 3, 1, 3, 0, 0) := rfl
theorem fX3_simulate_14 : fetch tX3_simulate 14 = some (.aload_n 0, 1, 0, 0, 0, 0) := rfl
theorem fX3_simulate_15 : fetch tX3_simulate 15 = some (.getfield 23, 3, 3, 2, 0, 0) := rfl
theorem fX3_simulate_18 : fetch tX3_simulate 18 = some (.aload_n 0, 1, 0, 0, 0, 0) := rfl
theorem fX3_simulate_19 : fetch tX3_simulate 19 = some (.getfield 12, 3, 3, 0, 0, 0) := rfl
theorem fX3_simulate_22 : fetch tX3_simulate 22 = some (.iload_n 1, 1, 1, 0, 0, 0) := rfl
theorem fX3_simulate_23 : fetch tX3_simulate 23 = some (.aload_n 0, 1, 0, 0, 0, 0) := rfl
theorem fX3_simulate_24 : fetch tX3_simulate 24 = some (.iload_n 2, 1, 2, 0, 0, 0) := rfl
theorem fX3_simulate_25 : fetch tX3_simulate 25 = some (.invokevirtual 111, 3, 2, 3, 0, 0) := rfl
theorem fX3_simulate_28 : fetch tX3_simulate 28 = some (.invokevirtual 115, 3, 3, 1, 0, 0) := rfl
theorem fX3_simulate_31 : fetch tX3_simulate 31 = some (.iconst 0, 1, 0, 0, 0, 0) := rfl
theorem fX3_simulate_32 : fetch tX3_simulate 32 = some (.istore_n 3, 1, 3, 0, 0, 0) := rfl
theorem fX3_simulate_33 : fetch tX3_simulate 33 = some (.iconst 0, 1, 0, 0, 0, 0) := rfl
theorem fX3_simulate_34 : fetch tX3_simulate 34 = some (.istore 4, 2, 4, 0, 0, 0) := rfl
theorem fX3_simulate_36 : fetch tX3_simulate 36 = some (.iload 4, 2, 4, 0, 0, 0) := rfl
theorem fX3_simulate_38 : fetch tX3_simulate 38 = some (.bipush 8, 2, 0, 0, 8, 0) := rfl
theorem fX3_simulate_40 : fetch tX3_simulate 40 = some (.if_icmp .ge 66, 3, 106, 0, 0, 0) := rfl
theorem fX3_simulate_43 : fetch tX3_simulate 43 = some (.aload_n 0, 1, 0, 0, 0, 0) := rfl
theorem fX3_simulate_44 : fetch tX3_simulate 44 = some (.getfield 23, 3, 3, 2, 0, 0) := rfl
theorem fX3_simulate_47 : fetch tX3_simulate 47 = some (.getfield 119, 3, 1, 0, 0, 0) := rfl
theorem fX3_simulate_50 : fetch tX3_simulate 50 = some (.iload 4, 2, 4, 0, 0, 0) := rfl
theorem fX3_simulate_52 : fetch tX3_simulate 52 = some (.iaload, 1, 0, 0, 0, 0) := rfl
theorem fX3_simulate_53 : fetch tX3_simulate 53 = some (.invokestatic 122, 3, 4, 3, 0, 0) := rfl
theorem fX3_simulate_56 : fetch tX3_simulate 56 = some (.istore 5, 2, 5, 0, 0, 0) := rfl
theorem fX3_simulate_58 : fetch tX3_simulate 58 = some (.aload_n 0, 1, 0, 0, 0, 0) := rfl
theorem fX3_simulate_59 : fetch tX3_simulate 59 = some (.getfield 12, 3, 3, 0, 0, 0) := rfl
theorem fX3_simulate_62 : fetch tX3_simulate 62 = some (.getfield 102, 3, 0, 6, 0, 0) := rfl
theorem fX3_simulate_65 : fetch tX3_simulate 65 = some (.iload 4, 2, 4, 0, 0, 0) := rfl
theorem fX3_simulate_67 : fetch tX3_simulate 67 = some (.aload_n 0, 1, 0, 0, 0, 0) := rfl
theorem fX3_simulate_68 : fetch tX3_simulate 68 = some (.getfield 12, 3, 3, 0, 0, 0) := rfl
theorem fX3_simulate_71 : fetch tX3_simulate 71 = some (.getfield 105, 3, 0, 7, 0, 0) := rfl
theorem fX3_simulate_74 : fetch tX3_simulate 74 = some (.iload 4, 2, 4, 0, 0, 0) := rfl
theorem fX3_simulate_76 : fetch tX3_simulate 76 = some (.ishr, 1, 0, 0, 0, 0) := rfl
theorem fX3_simulate_77 : fetch tX3_simulate 77 = some (.iconst 1, 1, 0, 0, 1, 0) := rfl
theorem fX3_simulate_78 : fetch tX3_simulate 78 = some (.iand, 1, 0, 0, 0, 0) := rfl
theorem fX3_simulate_79 : fetch tX3_simulate 79 = some (.iconst 1, 1, 0, 0, 1, 0) := rfl
theorem fX3_simulate_80 : fetch tX3_simulate 80 = some (.if_icmp .ne 8, 3, 88, 0, 0, 0) := rfl
theorem fX3_simulate_83 : fetch tX3_simulate 83 = some (.iload 5, 2, 5, 0, 0, 0) := rfl
theorem fX3_simulate_85 : fetch tX3_simulate 85 = some (.goto 5, 3, 90, 0, 0, 0) := rfl
theorem fX3_simulate_88 : fetch tX3_simulate 88 = some (.bipush 100, 2, 0, 0, 100, 0) := rfl
theorem fX3_simulate_90 : fetch tX3_simulate 90 = some (.iastore, 1, 0, 0, 0, 0) := rfl
theorem fX3_simulate_91 : fetch tX3_simulate 91 = some (.iload 5, 2, 5, 0, 0, 0) := rfl
theorem fX3_simulate_93 : fetch tX3_simulate 93 = some (.iconst (-1), 1, 0, 0, (-1), 0) := rfl
theorem fX3_simulate_94 : fetch tX3_simulate 94 = some (.if_icmp .eq 6, 3, 100, 0, 0, 0) := rfl
theorem fX3_simulate_97 : fetch tX3_simulate 97 = some (.iinc 3 1, 3, 3, 0, 1, 0) := rfl
theorem fX3_simulate_100 : fetch tX3_simulate 100 = some (.iinc 4 1, 3, 4, 0, 1, 0) := rfl
theorem fX3_simulate_103 : fetch tX3_simulate 103 = some (.goto (-67), 3, 36, 0, 0, 0) := rfl
theorem fX3_simulate_106 : fetch tX3_simulate 106 = some (.iload_n 3, 1, 3, 0, 0, 0) := rfl
theorem fX3_simulate_107 : fetch tX3_simulate 107 = some (.ireturn, 1, 0, 0, 0, 0) := rfl
def tX3_timeBy : List (Nat × TE) := [(0, .iload_n 3, 1, 3, 0, 0, 0), (1, .invokestatic 42, 3, 0, 3, 0, 0), (4, .ifCond .ne 6, 3, 10, 0, 0, 0), (7, .bipush (-2), 2, 0, 0, (-2), 0), (9, .ireturn, 1, 0, 0, 0, 0), (10, .iload_n 1, 1, 1, 0, 0, 0), (11, .invokestatic 108, 3, 1, 3, 0, 0), (14, .ifCond .eq 11, 3, 25, 0, 0, 0), (17, .aload_n 0, 1, 0, 0, 0, 0), (18, .iload_n 2, 1, 2, 0, 0, 0), (19, .invokevirtual 125, 3, 2, 3, 0, 0), (22, .ifCond .ne 6, 3, 28, 0, 0, 0), (25, .bipush (-3), 2, 0, 0, (-3), 0), (27, .ireturn, 1, 0, 0, 0, 0), (28, .aload_n 0, 1, 0, 0, 0, 0), (29, .getfield 23, 3, 3, 2, 0, 0), (32, .aload_n 0, 1, 0, 0, 0, 0), (33, .getfield 12, 3, 3, 0, 0, 0), (36, .iload_n 1, 1, 1, 0, 0, 0), (37, .iload_n 2, 1, 2, 0, 0, 0), (38, .invokevirtual 115, 3, 3, 1, 0, 0), (41, .aload_n 0, 1, 0, 0, 0, 0), (42, .getfield 23, 3, 3, 2, 0, 0), (45, .getfield 119, 3, 1, 0, 0, 0), (48, .iload_n 3, 1, 3, 0, 0, 0), (49, .iaload, 1, 0, 0, 0, 0), (50, .invokestatic 122, 3, 4, 3, 0, 0), (53, .ireturn, 1, 0, 0, 0, 0)]
theorem tkX3_timeBy : tOk cX3_timeBy "RumourSource" 4 tX3_timeBy = true := by decide +kernel
theorem fX3_timeBy_0 : fetch tX3_timeBy 0 = some (.iload_n 3, 1, 3, 0, 0, 0) := rfl
theorem fX3_timeBy_1 : fetch tX3_timeBy 1 = some (.invokestatic 42, 3, 0, 3, 0, 0) := rfl
theorem fX3_timeBy_4 : fetch tX3_timeBy 4 = some (.ifCond .ne 6, 3, 10, 0, 0, 0) := rfl
theorem fX3_timeBy_7 : fetch tX3_timeBy 7 = some (.bipush (-2), 2, 0, 0, (-2), 0) := rfl
theorem fX3_timeBy_9 : fetch tX3_timeBy 9 = some (.ireturn, 1, 0, 0, 0, 0) := rfl
theorem fX3_timeBy_10 : fetch tX3_timeBy 10 = some (.iload_n 1, 1, 1, 0, 0, 0) := rfl
theorem fX3_timeBy_11 : fetch tX3_timeBy 11 = some (.invokestatic 108, 3, 1, 3, 0, 0) := rfl
theorem fX3_timeBy_14 : fetch tX3_timeBy 14 = some (.ifCond .eq 11, 3, 25, 0, 0, 0) := rfl
theorem fX3_timeBy_17 : fetch tX3_timeBy 17 = some (.aload_n 0, 1, 0, 0, 0, 0) := rfl
theorem fX3_timeBy_18 : fetch tX3_timeBy 18 = some (.iload_n 2, 1, 2, 0, 0, 0) := rfl
theorem fX3_timeBy_19 : fetch tX3_timeBy 19 = some (.invokevirtual 125, 3, 2, 3, 0, 0) := rfl
theorem fX3_timeBy_22 : fetch tX3_timeBy 22 = some (.ifCond .ne 6, 3, 28, 0, 0, 0) := rfl
theorem fX3_timeBy_25 : fetch tX3_timeBy 25 = some (.bipush (-3), 2, 0, 0, (-3), 0) := rfl
theorem fX3_timeBy_27 : fetch tX3_timeBy 27 = some (.ireturn, 1, 0, 0, 0, 0) := rfl
theorem fX3_timeBy_28 : fetch tX3_timeBy 28 = some (.aload_n 0, 1, 0, 0, 0, 0) := rfl
theorem fX3_timeBy_29 : fetch tX3_timeBy 29 = some (.getfield 23, 3, 3, 2, 0, 0) := rfl
theorem fX3_timeBy_32 : fetch tX3_timeBy 32 = some (.aload_n 0, 1, 0, 0, 0, 0) := rfl
theorem fX3_timeBy_33 : fetch tX3_timeBy 33 = some (.getfield 12, 3, 3, 0, 0, 0) := rfl
theorem fX3_timeBy_36 : fetch tX3_timeBy 36 = some (.iload_n 1, 1, 1, 0, 0, 0) := rfl
theorem fX3_timeBy_37 : fetch tX3_timeBy 37 = some (.iload_n 2, 1, 2, 0, 0, 0) := rfl
theorem fX3_timeBy_38 : fetch tX3_timeBy 38 = some (.invokevirtual 115, 3, 3, 1, 0, 0) := rfl
theorem fX3_timeBy_41 : fetch tX3_timeBy 41 = some (.aload_n 0, 1, 0, 0, 0, 0) := rfl
theorem fX3_timeBy_42 : fetch tX3_timeBy 42 = some (.getfield 23, 3, 3, 2, 0, 0) := rfl
theorem fX3_timeBy_45 : fetch tX3_timeBy 45 = some (.getfield 119, 3, 1, 0, 0, 0) := rfl
theorem fX3_timeBy_48 : fetch tX3_timeBy 48 = some (.iload_n 3, 1, 3, 0, 0, 0) := rfl
theorem fX3_timeBy_49 : fetch tX3_timeBy 49 = some (.iaload, 1, 0, 0, 0, 0) := rfl
theorem fX3_timeBy_50 : fetch tX3_timeBy 50 = some (.invokestatic 122, 3, 4, 3, 0, 0) := rfl
theorem fX3_timeBy_53 : fetch tX3_timeBy 53 = some (.ireturn, 1, 0, 0, 0, 0) := rfl
def tX3_weight : List (Nat × TE) := [(0, .aload_n 0, 1, 0, 0, 0, 0), (1, .iload_n 1, 1, 1, 0, 0, 0), (2, .invokevirtual 125, 3, 0, 3, 0, 0), (5, .ifCond .ne 7, 3, 12, 0, 0, 0), (8, .ldc2_w 128, 3, 0, 0, 0, (-3)), (11, .lreturn, 1, 0, 0, 0, 0), (12, .lconst 1, 1, 0, 0, 0, 1), (13, .lstore_n 2, 1, 2, 0, 0, 0), (14, .iconst 0, 1, 0, 0, 0, 0), (15, .istore 4, 2, 4, 0, 0, 0), (17, .iload 4, 2, 4, 0, 0, 0), (19, .aload_n 0, 1, 0, 0, 0, 0), (20, .getfield 12, 3, 3, 0, 0, 0), (23, .getfield 81, 3, 0, 4, 0, 0), (26, .if_icmp .ge 46, 3, 72, 0, 0, 0), (29, .aload_n 0, 1, 0, 0, 0, 0), (30, .getfield 12, 3, 3, 0, 0, 0), (33, .getfield 70, 3, 0, 2, 0, 0), (36, .iload 4, 2, 4, 0, 0, 0), (38, .iaload, 1, 0, 0, 0, 0), (39, .istore 5, 2, 5, 0, 0, 0), (41, .lload_n 2, 1, 2, 0, 0, 0), (42, .iload_n 1, 1, 1, 0, 0, 0), (43, .iload 4, 2, 4, 0, 0, 0), (45, .ishr, 1, 0, 0, 0, 0), (46, .iconst 1, 1, 0, 0, 1, 0), (47, .iand, 1, 0, 0, 0, 0), (48, .iconst 1, 1, 0, 0, 1, 0), (49, .if_icmp .ne 9, 3, 58, 0, 0, 0), (52, .iload 5, 2, 5, 0, 0, 0), (54, .i2l, 1, 0, 0, 0, 0), (55, .goto 9, 3, 64, 0, 0, 0), (58, .bipush 10, 2, 0, 0, 10, 0), (60, .iload 5, 2, 5, 0, 0, 0), (62, .isub, 1, 0, 0, 0, 0), (63, .i2l, 1, 0, 0, 0, 0), (64, .lmul, 1, 0, 0, 0, 0), (65, .lstore_n 2, 1, 2, 0, 0, 0), (66, .iinc 4 1, 3, 4, 0, 1, 0), (69, .goto (-52), 3, 17, 0, 0, 0), (72, .lload_n 2, 1, 2, 0, 0, 0), (73, .lreturn, 1, 0, 0, 0, 0)]
theorem tkX3_weight : tOk cX3_weight "RumourSource" 6 tX3_weight = true := by decide +kernel
theorem fX3_weight_0 : fetch tX3_weight 0 = some (.aload_n 0, 1, 0, 0, 0, 0) := rfl
theorem fX3_weight_1 : fetch tX3_weight 1 = some (.iload_n 1, 1, 1, 0, 0, 0) := rfl
theorem fX3_weight_2 : fetch tX3_weight 2 = some (.invokevirtual 125, 3, 0, 3, 0, 0) := rfl
theorem fX3_weight_5 : fetch tX3_weight 5 = some (.ifCond .ne 7, 3, 12, 0, 0, 0) := rfl
theorem fX3_weight_8 : fetch tX3_weight 8 = some (.ldc2_w 128, 3, 0, 0, 0, (-3)) := rfl
theorem fX3_weight_11 : fetch tX3_weight 11 = some (.lreturn, 1, 0, 0, 0, 0) := rfl
theorem fX3_weight_12 : fetch tX3_weight 12 = some (.lconst 1, 1, 0, 0, 0, 1) := rfl
theorem fX3_weight_13 : fetch tX3_weight 13 = some (.lstore_n 2, 1, 2, 0, 0, 0) := rfl
theorem fX3_weight_14 : fetch tX3_weight 14 = some (.iconst 0, 1, 0, 0, 0, 0) := rfl
theorem fX3_weight_15 : fetch tX3_weight 15 = some (.istore 4, 2, 4, 0, 0, 0) := rfl
theorem fX3_weight_17 : fetch tX3_weight 17 = some (.iload 4, 2, 4, 0, 0, 0) := rfl
theorem fX3_weight_19 : fetch tX3_weight 19 = some (.aload_n 0, 1, 0, 0, 0, 0) := rfl
theorem fX3_weight_20 : fetch tX3_weight 20 = some (.getfield 12, 3, 3, 0, 0, 0) := rfl
theorem fX3_weight_23 : fetch tX3_weight 23 = some (.getfield 81, 3, 0, 4, 0, 0) := rfl
theorem fX3_weight_26 : fetch tX3_weight 26 = some (.if_icmp .ge 46, 3, 72, 0, 0, 0) := rfl
theorem fX3_weight_29 : fetch tX3_weight 29 = some (.aload_n 0, 1, 0, 0, 0, 0) := rfl
theorem fX3_weight_30 : fetch tX3_weight 30 = some (.getfield 12, 3, 3, 0, 0, 0) := rfl
theorem fX3_weight_33 : fetch tX3_weight 33 = some (.getfield 70, 3, 0, 2, 0, 0) := rfl
theorem fX3_weight_36 : fetch tX3_weight 36 = some (.iload 4, 2, 4, 0, 0, 0) := rfl
theorem fX3_weight_38 : fetch tX3_weight 38 = some (.iaload, 1, 0, 0, 0, 0) := rfl
theorem fX3_weight_39 : fetch tX3_weight 39 = some (.istore 5, 2, 5, 0, 0, 0) := rfl
theorem fX3_weight_41 : fetch tX3_weight 41 = some (.lload_n 2, 1, 2, 0, 0, 0) := rfl
theorem fX3_weight_42 : fetch tX3_weight 42 = some (.iload_n 1, 1, 1, 0, 0, 0) := rfl
theorem fX3_weight_43 : fetch tX3_weight 43 = some (.iload 4, 2, 4, 0, 0, 0) := rfl
theorem fX3_weight_45 : fetch tX3_weight 45 = some (.ishr, 1, 0, 0, 0, 0) := rfl
theorem fX3_weight_46 : fetch tX3_weight 46 = some (.iconst 1, 1, 0, 0, 1, 0) := rfl
theorem fX3_weight_47 : fetch tX3_weight 47 = some (.iand, 1, 0, 0, 0, 0) := rfl
theorem fX3_weight_48 : fetch tX3_weight 48 = some (.iconst 1, 1, 0, 0, 1, 0) := rfl
theorem fX3_weight_49 : fetch tX3_weight 49 = some (.if_icmp .ne 9, 3, 58, 0, 0, 0) := rfl
theorem fX3_weight_52 : fetch tX3_weight 52 = some (.iload 5, 2, 5, 0, 0, 0) := rfl
theorem fX3_weight_54 : fetch tX3_weight 54 = some (.i2l, 1, 0, 0, 0, 0) := rfl
theorem fX3_weight_55 : fetch tX3_weight 55 = some (.goto 9, 3, 64, 0, 0, 0) := rfl
theorem fX3_weight_58 : fetch tX3_weight 58 = some (.bipush 10, 2, 0, 0, 10, 0) := rfl
theorem fX3_weight_60 : fetch tX3_weight 60 = some (.iload 5, 2, 5, 0, 0, 0) := rfl
theorem fX3_weight_62 : fetch tX3_weight 62 = some (.isub, 1, 0, 0, 0, 0) := rfl
theorem fX3_weight_63 : fetch tX3_weight 63 = some (.i2l, 1, 0, 0, 0, 0) := rfl
theorem fX3_weight_64 : fetch tX3_weight 64 = some (.lmul, 1, 0, 0, 0, 0) := rfl
theorem fX3_weight_65 : fetch tX3_weight 65 = some (.lstore_n 2, 1, 2, 0, 0, 0) := rfl
theorem fX3_weight_66 : fetch tX3_weight 66 = some (.iinc 4 1, 3, 4, 0, 1, 0) := rfl
theorem fX3_weight_69 : fetch tX3_weight 69 = some (.goto (-52), 3, 17, 0, 0, 0) := rfl
theorem fX3_weight_72 : fetch tX3_weight 72 = some (.lload_n 2, 1, 2, 0, 0, 0) := rfl
theorem fX3_weight_73 : fetch tX3_weight 73 = some (.lreturn, 1, 0, 0, 0, 0) := rfl
def tX3_fits : List (Nat × TE) := [(0, .iload_n 1, 1, 1, 0, 0, 0), (1, .invokestatic 108, 3, 0, 3, 0, 0), (4, .ifCond .eq 11, 3, 15, 0, 0, 0), (7, .aload_n 0, 1, 0, 0, 0, 0), (8, .iload_n 2, 1, 2, 0, 0, 0), (9, .invokevirtual 125, 3, 1, 3, 0, 0), (12, .ifCond .ne 6, 3, 18, 0, 0, 0), (15, .bipush (-3), 2, 0, 0, (-3), 0), (17, .ireturn, 1, 0, 0, 0, 0), (18, .aload_n 0, 1, 0, 0, 0, 0), (19, .getfield 23, 3, 3, 2, 0, 0), (22, .aload_n 0, 1, 0, 0, 0, 0), (23, .getfield 12, 3, 3, 0, 0, 0), (26, .invokevirtual 130, 3, 2, 1, 0, 0), (29, .aload_n 0, 1, 0, 0, 0, 0), (30, .getfield 23, 3, 3, 2, 0, 0), (33, .aload_n 0, 1, 0, 0, 0, 0), (34, .getfield 12, 3, 3, 0, 0, 0), (37, .iload_n 1, 1, 1, 0, 0, 0), (38, .iload_n 2, 1, 2, 0, 0, 0), (39, .invokevirtual 115, 3, 3, 1, 0, 0), (42, .aload_n 0, 1, 0, 0, 0, 0), (43, .getfield 23, 3, 3, 2, 0, 0), (46, .invokevirtual 134, 3, 4, 1, 0, 0), (49, .ifCond .eq 7, 3, 56, 0, 0, 0), (52, .iconst 1, 1, 0, 0, 1, 0), (53, .goto 4, 3, 57, 0, 0, 0), (56, .iconst 0, 1, 0, 0, 0, 0), (57, .ireturn, 1, 0, 0, 0, 0)]
theorem tkX3_fits : tOk cX3_fits "RumourSource" 3 tX3_fits = true := by decide +kernel
theorem fX3_fits_0 : fetch tX3_fits 0 = some (.iload_n 1, 1, 1, 0, 0, 0) := rfl
theorem fX3_fits_1 : fetch tX3_fits 1 = some (.invokestatic 108, 3, 0, 3, 0, 0) := rfl
theorem fX3_fits_4 : fetch tX3_fits 4 = some (.ifCond .eq 11, 3, 15, 0, 0, 0) := rfl
theorem fX3_fits_7 : fetch tX3_fits 7 = some (.aload_n 0, 1, 0, 0, 0, 0) := rfl
theorem fX3_fits_8 : fetch tX3_fits 8 = some (.iload_n 2, 1, 2, 0, 0, 0) := rfl
theorem fX3_fits_9 : fetch tX3_fits 9 = some (.invokevirtual 125, 3, 1, 3, 0, 0) := rfl
theorem fX3_fits_12 : fetch tX3_fits 12 = some (.ifCond .ne 6, 3, 18, 0, 0, 0) := rfl
theorem fX3_fits_15 : fetch tX3_fits 15 = some (.bipush (-3), 2, 0, 0, (-3), 0) := rfl
theorem fX3_fits_17 : fetch tX3_fits 17 = some (.ireturn, 1, 0, 0, 0, 0) := rfl
theorem fX3_fits_18 : fetch tX3_fits 18 = some (.aload_n 0, 1, 0, 0, 0, 0) := rfl
theorem fX3_fits_19 : fetch tX3_fits 19 = some (.getfield 23, 3, 3, 2, 0, 0) := rfl
theorem fX3_fits_22 : fetch tX3_fits 22 = some (.aload_n 0, 1, 0, 0, 0, 0) := rfl
theorem fX3_fits_23 : fetch tX3_fits 23 = some (.getfield 12, 3, 3, 0, 0, 0) := rfl
theorem fX3_fits_26 : fetch tX3_fits 26 = some (.invokevirtual 130, 3, 2, 1, 0, 0) := rfl
theorem fX3_fits_29 : fetch tX3_fits 29 = some (.aload_n 0, 1, 0, 0, 0, 0) := rfl
theorem fX3_fits_30 : fetch tX3_fits 30 = some (.getfield 23, 3, 3, 2, 0, 0) := rfl
theorem fX3_fits_33 : fetch tX3_fits 33 = some (.aload_n 0, 1, 0, 0, 0, 0) := rfl
theorem fX3_fits_34 : fetch tX3_fits 34 = some (.getfield 12, 3, 3, 0, 0, 0) := rfl
theorem fX3_fits_37 : fetch tX3_fits 37 = some (.iload_n 1, 1, 1, 0, 0, 0) := rfl
theorem fX3_fits_38 : fetch tX3_fits 38 = some (.iload_n 2, 1, 2, 0, 0, 0) := rfl
theorem fX3_fits_39 : fetch tX3_fits 39 = some (.invokevirtual 115, 3, 3, 1, 0, 0) := rfl
theorem fX3_fits_42 : fetch tX3_fits 42 = some (.aload_n 0, 1, 0, 0, 0, 0) := rfl
theorem fX3_fits_43 : fetch tX3_fits 43 = some (.getfield 23, 3, 3, 2, 0, 0) := rfl
theorem fX3_fits_46 : fetch tX3_fits 46 = some (.invokevirtual 134, 3, 4, 1, 0, 0) := rfl
theorem fX3_fits_49 : fetch tX3_fits 49 = some (.ifCond .eq 7, 3, 56, 0, 0, 0) := rfl
theorem fX3_fits_52 : fetch tX3_fits 52 = some (.iconst 1, 1, 0, 0, 1, 0) := rfl
theorem fX3_fits_53 : fetch tX3_fits 53 = some (.goto 4, 3, 57, 0, 0, 0) := rfl
theorem fX3_fits_56 : fetch tX3_fits 56 = some (.iconst 0, 1, 0, 0, 0, 0) := rfl
theorem fX3_fits_57 : fetch tX3_fits 57 = some (.ireturn, 1, 0, 0, 0, 0) := rfl
def tX3_timeWeight : List (Nat × TE) := [(0, .iload_n 2, 1, 2, 0, 0, 0), (1, .invokestatic 42, 3, 0, 3, 0, 0), (4, .ifCond .ne 7, 3, 11, 0, 0, 0), (7, .ldc2_w 137, 3, 0, 0, 0, (-2)), (10, .lreturn, 1, 0, 0, 0, 0), (11, .iload_n 1, 1, 1, 0, 0, 0), (12, .invokestatic 108, 3, 1, 3, 0, 0), (15, .ifCond .eq 10, 3, 25, 0, 0, 0), (18, .iload_n 3, 1, 3, 0, 0, 0), (19, .invokestatic 96, 3, 2, 3, 0, 0), (22, .ifCond .ne 7, 3, 29, 0, 0, 0), (25, .ldc2_w 128, 3, 0, 0, 0, (-3)), (28, .lreturn, 1, 0, 0, 0, 0), (29, .aload_n 0, 1, 0, 0, 0, 0), (30, .getfield 23, 3, 3, 2, 0, 0), (33, .iload_n 2, 1, 2, 0, 0, 0), (34, .iload_n 3, 1, 3, 0, 0, 0), (35, .invokevirtual 139, 3, 3, 1, 0, 0), (38, .aload_n 0, 1, 0, 0, 0, 0), (39, .getfield 23, 3, 3, 2, 0, 0), (42, .aload_n 0, 1, 0, 0, 0, 0), (43, .getfield 12, 3, 3, 0, 0, 0), (46, .iload_n 1, 1, 1, 0, 0, 0), (47, .iconst 0, 1, 0, 0, 0, 0), (48, .invokevirtual 143, 3, 4, 1, 0, 0), (51, .aload_n 0, 1, 0, 0, 0, 0), (52, .getfield 23, 3, 3, 2, 0, 0), (55, .getfield 147, 3, 1, 2, 0, 0), (58, .lreturn, 1, 0, 0, 0, 0)]
theorem tkX3_timeWeight : tOk cX3_timeWeight "RumourSource" 4 tX3_timeWeight = true := by decide +kernel
theorem fX3_timeWeight_0 : fetch tX3_timeWeight 0 = some (.iload_n 2, 1, 2, 0, 0, 0) := rfl
theorem fX3_timeWeight_1 : fetch tX3_timeWeight 1 = some (.invokestatic 42, 3, 0, 3, 0, 0) := rfl
theorem fX3_timeWeight_4 : fetch tX3_timeWeight 4 = some (.ifCond .ne 7, 3, 11, 0, 0, 0) := rfl
theorem fX3_timeWeight_7 : fetch tX3_timeWeight 7 = some (.ldc2_w 137, 3, 0, 0, 0, (-2)) := rfl
theorem fX3_timeWeight_10 : fetch tX3_timeWeight 10 = some (.lreturn, 1, 0, 0, 0, 0) := rfl
theorem fX3_timeWeight_11 : fetch tX3_timeWeight 11 = some (.iload_n 1, 1, 1, 0, 0, 0) := rfl
theorem fX3_timeWeight_12 : fetch tX3_timeWeight 12 = some (.invokestatic 108, 3, 1, 3, 0, 0) := rfl
theorem fX3_timeWeight_15 : fetch tX3_timeWeight 15 = some (.ifCond .eq 10, 3, 25, 0, 0, 0) := rfl
theorem fX3_timeWeight_18 : fetch tX3_timeWeight 18 = some (.iload_n 3, 1, 3, 0, 0, 0) := rfl
theorem fX3_timeWeight_19 : fetch tX3_timeWeight 19 = some (.invokestatic 96, 3, 2, 3, 0, 0) := rfl
theorem fX3_timeWeight_22 : fetch tX3_timeWeight 22 = some (.ifCond .ne 7, 3, 29, 0, 0, 0) := rfl
theorem fX3_timeWeight_25 : fetch tX3_timeWeight 25 = some (.ldc2_w 128, 3, 0, 0, 0, (-3)) := rfl
theorem fX3_timeWeight_28 : fetch tX3_timeWeight 28 = some (.lreturn, 1, 0, 0, 0, 0) := rfl
theorem fX3_timeWeight_29 : fetch tX3_timeWeight 29 = some (.aload_n 0, 1, 0, 0, 0, 0) := rfl
theorem fX3_timeWeight_30 : fetch tX3_timeWeight 30 = some (.getfield 23, 3, 3, 2, 0, 0) := rfl
theorem fX3_timeWeight_33 : fetch tX3_timeWeight 33 = some (.iload_n 2, 1, 2, 0, 0, 0) := rfl
theorem fX3_timeWeight_34 : fetch tX3_timeWeight 34 = some (.iload_n 3, 1, 3, 0, 0, 0) := rfl
theorem fX3_timeWeight_35 : fetch tX3_timeWeight 35 = some (.invokevirtual 139, 3, 3, 1, 0, 0) := rfl
theorem fX3_timeWeight_38 : fetch tX3_timeWeight 38 = some (.aload_n 0, 1, 0, 0, 0, 0) := rfl
theorem fX3_timeWeight_39 : fetch tX3_timeWeight 39 = some (.getfield 23, 3, 3, 2, 0, 0) := rfl
theorem fX3_timeWeight_42 : fetch tX3_timeWeight 42 = some (.aload_n 0, 1, 0, 0, 0, 0) := rfl
theorem fX3_timeWeight_43 : fetch tX3_timeWeight 43 = some (.getfield 12, 3, 3, 0, 0, 0) := rfl
theorem fX3_timeWeight_46 : fetch tX3_timeWeight 46 = some (.iload_n 1, 1, 1, 0, 0, 0) := rfl
theorem fX3_timeWeight_47 : fetch tX3_timeWeight 47 = some (.iconst 0, 1, 0, 0, 0, 0) := rfl
theorem fX3_timeWeight_48 : fetch tX3_timeWeight 48 = some (.invokevirtual 143, 3, 4, 1, 0, 0) := rfl
theorem fX3_timeWeight_51 : fetch tX3_timeWeight 51 = some (.aload_n 0, 1, 0, 0, 0, 0) := rfl
theorem fX3_timeWeight_52 : fetch tX3_timeWeight 52 = some (.getfield 23, 3, 3, 2, 0, 0) := rfl
theorem fX3_timeWeight_55 : fetch tX3_timeWeight 55 = some (.getfield 147, 3, 1, 2, 0, 0) := rfl
theorem fX3_timeWeight_58 : fetch tX3_timeWeight 58 = some (.lreturn, 1, 0, 0, 0, 0) := rfl
def tX3_reach : List (Nat × TE) := [(0, .iload_n 1, 1, 1, 0, 0, 0), (1, .invokestatic 108, 3, 0, 3, 0, 0), (4, .ifCond .ne 7, 3, 11, 0, 0, 0), (7, .ldc2_w 128, 3, 0, 0, 0, (-3)), (10, .lreturn, 1, 0, 0, 0, 0), (11, .aload_n 0, 1, 0, 0, 0, 0), (12, .getfield 23, 3, 3, 2, 0, 0), (15, .invokevirtual 151, 3, 1, 1, 0, 0), (18, .aload_n 0, 1, 0, 0, 0, 0), (19, .getfield 23, 3, 3, 2, 0, 0), (22, .aload_n 0, 1, 0, 0, 0, 0), (23, .getfield 12, 3, 3, 0, 0, 0), (26, .iload_n 1, 1, 1, 0, 0, 0), (27, .iconst 0, 1, 0, 0, 0, 0), (28, .invokevirtual 143, 3, 2, 1, 0, 0), (31, .aload_n 0, 1, 0, 0, 0, 0), (32, .getfield 23, 3, 3, 2, 0, 0), (35, .getfield 154, 3, 1, 3, 0, 0), (38, .lreturn, 1, 0, 0, 0, 0)]
theorem tkX3_reach : tOk cX3_reach "RumourSource" 2 tX3_reach = true := by decide +kernel
theorem fX3_reach_0 : fetch tX3_reach 0 = some (.iload_n 1, 1, 1, 0, 0, 0) := rfl
theorem fX3_reach_1 : fetch tX3_reach 1 = some (.invokestatic 108, 3, 0, 3, 0, 0) := rfl
theorem fX3_reach_4 : fetch tX3_reach 4 = some (.ifCond .ne 7, 3, 11, 0, 0, 0) := rfl
theorem fX3_reach_7 : fetch tX3_reach 7 = some (.ldc2_w 128, 3, 0, 0, 0, (-3)) := rfl
theorem fX3_reach_10 : fetch tX3_reach 10 = some (.lreturn, 1, 0, 0, 0, 0) := rfl
theorem fX3_reach_11 : fetch tX3_reach 11 = some (.aload_n 0, 1, 0, 0, 0, 0) := rfl
theorem fX3_reach_12 : fetch tX3_reach 12 = some (.getfield 23, 3, 3, 2, 0, 0) := rfl
theorem fX3_reach_15 : fetch tX3_reach 15 = some (.invokevirtual 151, 3, 1, 1, 0, 0) := rfl
theorem fX3_reach_18 : fetch tX3_reach 18 = some (.aload_n 0, 1, 0, 0, 0, 0) := rfl
theorem fX3_reach_19 : fetch tX3_reach 19 = some (.getfield 23, 3, 3, 2, 0, 0) := rfl
theorem fX3_reach_22 : fetch tX3_reach 22 = some (.aload_n 0, 1, 0, 0, 0, 0) := rfl
theorem fX3_reach_23 : fetch tX3_reach 23 = some (.getfield 12, 3, 3, 0, 0, 0) := rfl
theorem fX3_reach_26 : fetch tX3_reach 26 = some (.iload_n 1, 1, 1, 0, 0, 0) := rfl
theorem fX3_reach_27 : fetch tX3_reach 27 = some (.iconst 0, 1, 0, 0, 0, 0) := rfl
theorem fX3_reach_28 : fetch tX3_reach 28 = some (.invokevirtual 143, 3, 2, 1, 0, 0) := rfl
theorem fX3_reach_31 : fetch tX3_reach 31 = some (.aload_n 0, 1, 0, 0, 0, 0) := rfl
theorem fX3_reach_32 : fetch tX3_reach 32 = some (.getfield 23, 3, 3, 2, 0, 0) := rfl
theorem fX3_reach_35 : fetch tX3_reach 35 = some (.getfield 154, 3, 1, 3, 0, 0) := rfl
theorem fX3_reach_38 : fetch tX3_reach 38 = some (.lreturn, 1, 0, 0, 0, 0) := rfl
def tX3_likelihood : List (Nat × TE) := [(0, .iload_n 1, 1, 1, 0, 0, 0), (1, .invokestatic 108, 3, 0, 3, 0, 0), (4, .ifCond .ne 7, 3, 11, 0, 0, 0), (7, .ldc2_w 128, 3, 0, 0, 0, (-3)), (10, .lreturn, 1, 0, 0, 0, 0), (11, .aload_n 0, 1, 0, 0, 0, 0), (12, .iload_n 1, 1, 1, 0, 0, 0), (13, .invokevirtual 157, 3, 1, 3, 0, 0), (16, .lreturn, 1, 0, 0, 0, 0)]
theorem tkX3_likelihood : tOk cX3_likelihood "RumourSource" 2 tX3_likelihood = true := by decide +kernel
theorem fX3_likelihood_0 : fetch tX3_likelihood 0 = some (.iload_n 1, 1, 1, 0, 0, 0) := rfl
theorem fX3_likelihood_1 : fetch tX3_likelihood 1 = some (.invokestatic 108, 3, 0, 3, 0, 0) := rfl
theorem fX3_likelihood_4 : fetch tX3_likelihood 4 = some (.ifCond .ne 7, 3, 11, 0, 0, 0) := rfl
theorem fX3_likelihood_7 : fetch tX3_likelihood 7 = some (.ldc2_w 128, 3, 0, 0, 0, (-3)) := rfl
theorem fX3_likelihood_10 : fetch tX3_likelihood 10 = some (.lreturn, 1, 0, 0, 0, 0) := rfl
theorem fX3_likelihood_11 : fetch tX3_likelihood 11 = some (.aload_n 0, 1, 0, 0, 0, 0) := rfl
theorem fX3_likelihood_12 : fetch tX3_likelihood 12 = some (.iload_n 1, 1, 1, 0, 0, 0) := rfl
theorem fX3_likelihood_13 : fetch tX3_likelihood 13 = some (.invokevirtual 157, 3, 1, 3, 0, 0) := rfl
theorem fX3_likelihood_16 : fetch tX3_likelihood 16 = some (.lreturn, 1, 0, 0, 0, 0) := rfl
def tX3_candidates : List (Nat × TE) := [(0, .iconst 0, 1, 0, 0, 0, 0), (1, .istore_n 1, 1, 1, 0, 0, 0), (2, .iconst 0, 1, 0, 0, 0, 0), (3, .istore_n 2, 1, 2, 0, 0, 0), (4, .iload_n 2, 1, 2, 0, 0, 0), (5, .bipush 8, 2, 0, 0, 8, 0), (7, .if_icmp .ge 19, 3, 26, 0, 0, 0), (10, .iload_n 1, 1, 1, 0, 0, 0), (11, .aload_n 0, 1, 0, 0, 0, 0), (12, .iconst 1, 1, 0, 0, 1, 0), (13, .iload_n 2, 1, 2, 0, 0, 0), (14, .ishl, 1, 0, 0, 0, 0), (15, .invokevirtual 161, 3, 0, 3, 0, 0), (18, .iadd, 1, 0, 0, 0, 0), (19, .istore_n 1, 1, 1, 0, 0, 0), (20, .iinc 2 1, 3, 2, 0, 1, 0), (23, .goto (-19), 3, 4, 0, 0, 0), (26, .iload_n 1, 1, 1, 0, 0, 0), (27, .ireturn, 1, 0, 0, 0, 0)]
theorem tkX3_candidates : tOk cX3_candidates "RumourSource" 3 tX3_candidates = true := by decide +kernel
theorem fX3_candidates_0 : fetch tX3_candidates 0 = some (.iconst 0, 1, 0, 0, 0, 0) := rfl
theorem fX3_candidates_1 : fetch tX3_candidates 1 = some (.istore_n 1, 1, 1, 0, 0, 0) := rfl
theorem fX3_candidates_2 : fetch tX3_candidates 2 = some (.iconst 0, 1, 0, 0, 0, 0) := rfl
theorem fX3_candidates_3 : fetch tX3_candidates 3 = some (.istore_n 2, 1, 2, 0, 0, 0) := rfl
theorem fX3_candidates_4 : fetch tX3_candidates 4 = some (.iload_n 2, 1, 2, 0, 0, 0) := rfl
theorem fX3_candidates_5 : fetch tX3_candidates 5 = some (.bipush 8, 2, 0, 0, 8, 0) := rfl
theorem fX3_candidates_7 : fetch tX3_candidates 7 = some (.if_icmp .ge 19, 3, 26, 0, 0, 0) := rfl
theorem fX3_candidates_10 : fetch tX3_candidates 10 = some (.iload_n 1, 1, 1, 0, 0, 0) := rfl
theorem fX3_candidates_11 : fetch tX3_candidates 11 = some (.aload_n 0, 1, 0, 0, 0, 0) := rfl
theorem fX3_candidates_12 : fetch tX3_candidates 12 = some (.iconst 1, 1, 0, 0, 1, 0) := rfl
theorem fX3_candidates_13 : fetch tX3_candidates 13 = some (.iload_n 2, 1, 2, 0, 0, 0) := rfl
theorem fX3_candidates_14 : fetch tX3_candidates 14 = some (.ishl, 1, 0, 0, 0, 0) := rfl
theorem fX3_candidates_15 : fetch tX3_candidates 15 = some (.invokevirtual 161, 3, 0, 3, 0, 0) := rfl
theorem fX3_candidates_18 : fetch tX3_candidates 18 = some (.iadd, 1, 0, 0, 0, 0) := rfl
theorem fX3_candidates_19 : fetch tX3_candidates 19 = some (.istore_n 1, 1, 1, 0, 0, 0) := rfl
theorem fX3_candidates_20 : fetch tX3_candidates 20 = some (.iinc 2 1, 3, 2, 0, 1, 0) := rfl
theorem fX3_candidates_23 : fetch tX3_candidates 23 = some (.goto (-19), 3, 4, 0, 0, 0) := rfl
theorem fX3_candidates_26 : fetch tX3_candidates 26 = some (.iload_n 1, 1, 1, 0, 0, 0) := rfl
theorem fX3_candidates_27 : fetch tX3_candidates 27 = some (.ireturn, 1, 0, 0, 0, 0) := rfl
def tX3_candidate : List (Nat × TE) := [(0, .aload_n 0, 1, 0, 0, 0, 0), (1, .invokevirtual 164, 3, 0, 3, 0, 0), (4, .iconst 0, 1, 0, 0, 0, 0), (5, .istore_n 2, 1, 2, 0, 0, 0), (6, .iload_n 2, 1, 2, 0, 0, 0), (7, .bipush 8, 2, 0, 0, 8, 0), (9, .if_icmp .ge 31, 3, 40, 0, 0, 0), (12, .aload_n 0, 1, 0, 0, 0, 0), (13, .getfield 34, 3, 3, 4, 0, 0), (16, .iload_n 2, 1, 2, 0, 0, 0), (17, .laload, 1, 0, 0, 0, 0), (18, .lconst 0, 1, 0, 0, 0, 0), (19, .lcmp, 1, 0, 0, 0, 0), (20, .ifCond .le 14, 3, 34, 0, 0, 0), (23, .aload_n 0, 1, 0, 0, 0, 0), (24, .iload_n 2, 1, 2, 0, 0, 0), (25, .invokevirtual 167, 3, 1, 3, 0, 0), (28, .iload_n 1, 1, 1, 0, 0, 0), (29, .if_icmp .ne 5, 3, 34, 0, 0, 0), (32, .iload_n 2, 1, 2, 0, 0, 0), (33, .ireturn, 1, 0, 0, 0, 0), (34, .iinc 2 1, 3, 2, 0, 1, 0), (37, .goto (-31), 3, 6, 0, 0, 0), (40, .bipush (-2), 2, 0, 0, (-2), 0), (42, .ireturn, 1, 0, 0, 0, 0)]
theorem tkX3_candidate : tOk cX3_candidate "RumourSource" 3 tX3_candidate = true := by decide +kernel
theorem fX3_candidate_0 : fetch tX3_candidate 0 = some (.aload_n 0, 1, 0, 0, 0, 0) := rfl
theorem fX3_candidate_1 : fetch tX3_candidate 1 = some (.invokevirtual 164, 3, 0, 3, 0, 0) := rfl
theorem fX3_candidate_4 : fetch tX3_candidate 4 = some (.iconst 0, 1, 0, 0, 0, 0) := rfl
theorem fX3_candidate_5 : fetch tX3_candidate 5 = some (.istore_n 2, 1, 2, 0, 0, 0) := rfl
theorem fX3_candidate_6 : fetch tX3_candidate 6 = some (.iload_n 2, 1, 2, 0, 0, 0) := rfl
theorem fX3_candidate_7 : fetch tX3_candidate 7 = some (.bipush 8, 2, 0, 0, 8, 0) := rfl
theorem fX3_candidate_9 : fetch tX3_candidate 9 = some (.if_icmp .ge 31, 3, 40, 0, 0, 0) := rfl
theorem fX3_candidate_12 : fetch tX3_candidate 12 = some (.aload_n 0, 1, 0, 0, 0, 0) := rfl
theorem fX3_candidate_13 : fetch tX3_candidate 13 = some (.getfield 34, 3, 3, 4, 0, 0) := rfl
theorem fX3_candidate_16 : fetch tX3_candidate 16 = some (.iload_n 2, 1, 2, 0, 0, 0) := rfl
theorem fX3_candidate_17 : fetch tX3_candidate 17 = some (.laload, 1, 0, 0, 0, 0) := rfl
theorem fX3_candidate_18 : fetch tX3_candidate 18 = some (.lconst 0, 1, 0, 0, 0, 0) := rfl
theorem fX3_candidate_19 : fetch tX3_candidate 19 = some (.lcmp, 1, 0, 0, 0, 0) := rfl
theorem fX3_candidate_20 : fetch tX3_candidate 20 = some (.ifCond .le 14, 3, 34, 0, 0, 0) := rfl
theorem fX3_candidate_23 : fetch tX3_candidate 23 = some (.aload_n 0, 1, 0, 0, 0, 0) := rfl
theorem fX3_candidate_24 : fetch tX3_candidate 24 = some (.iload_n 2, 1, 2, 0, 0, 0) := rfl
theorem fX3_candidate_25 : fetch tX3_candidate 25 = some (.invokevirtual 167, 3, 1, 3, 0, 0) := rfl
theorem fX3_candidate_28 : fetch tX3_candidate 28 = some (.iload_n 1, 1, 1, 0, 0, 0) := rfl
theorem fX3_candidate_29 : fetch tX3_candidate 29 = some (.if_icmp .ne 5, 3, 34, 0, 0, 0) := rfl
theorem fX3_candidate_32 : fetch tX3_candidate 32 = some (.iload_n 2, 1, 2, 0, 0, 0) := rfl
theorem fX3_candidate_33 : fetch tX3_candidate 33 = some (.ireturn, 1, 0, 0, 0, 0) := rfl
theorem fX3_candidate_34 : fetch tX3_candidate 34 = some (.iinc 2 1, 3, 2, 0, 1, 0) := rfl
theorem fX3_candidate_37 : fetch tX3_candidate 37 = some (.goto (-31), 3, 6, 0, 0, 0) := rfl
theorem fX3_candidate_40 : fetch tX3_candidate 40 = some (.bipush (-2), 2, 0, 0, (-2), 0) := rfl
theorem fX3_candidate_42 : fetch tX3_candidate 42 = some (.ireturn, 1, 0, 0, 0, 0) := rfl
def tX3_belief : List (Nat × TE) := [(0, .iload_n 1, 1, 1, 0, 0, 0), (1, .invokestatic 42, 3, 0, 3, 0, 0), (4, .ifCond .ne 6, 3, 10, 0, 0, 0), (7, .bipush (-2), 2, 0, 0, (-2), 0), (9, .ireturn, 1, 0, 0, 0, 0), (10, .aload_n 0, 1, 0, 0, 0, 0), (11, .invokevirtual 164, 3, 1, 3, 0, 0), (14, .lconst 0, 1, 0, 0, 0, 0), (15, .lstore_n 2, 1, 2, 0, 0, 0), (16, .iconst 0, 1, 0, 0, 0, 0), (17, .istore 4, 2, 4, 0, 0, 0), (19, .iload 4, 2, 4, 0, 0, 0), (21, .bipush 8, 2, 0, 0, 8, 0), (23, .if_icmp .ge 19, 3, 42, 0, 0, 0), (26, .lload_n 2, 1, 2, 0, 0, 0), (27, .aload_n 0, 1, 0, 0, 0, 0), (28, .getfield 34, 3, 3, 4, 0, 0), (31, .iload 4, 2, 4, 0, 0, 0), (33, .laload, 1, 0, 0, 0, 0), (34, .ladd, 1, 0, 0, 0, 0), (35, .lstore_n 2, 1, 2, 0, 0, 0), (36, .iinc 4 1, 3, 4, 0, 1, 0), (39, .goto (-20), 3, 19, 0, 0, 0), (42, .lload_n 2, 1, 2, 0, 0, 0), (43, .lconst 0, 1, 0, 0, 0, 0), (44, .lcmp, 1, 0, 0, 0, 0), (45, .ifCond .le 19, 3, 64, 0, 0, 0), (48, .ldc2_w 170, 3, 0, 0, 0, 1000), (51, .aload_n 0, 1, 0, 0, 0, 0), (52, .getfield 34, 3, 3, 4, 0, 0), (55, .iload_n 1, 1, 1, 0, 0, 0), (56, .laload, 1, 0, 0, 0, 0), (57, .lmul, 1, 0, 0, 0, 0), (58, .lload_n 2, 1, 2, 0, 0, 0), (59, .ldiv, 1, 0, 0, 0, 0), (60, .l2i, 1, 0, 0, 0, 0), (61, .goto 4, 3, 65, 0, 0, 0), (64, .iconst 0, 1, 0, 0, 0, 0), (65, .ireturn, 1, 0, 0, 0, 0)]
theorem tkX3_belief : tOk cX3_belief "RumourSource" 5 tX3_belief = true := by decide +kernel
theorem fX3_belief_0 : fetch tX3_belief 0 = some (.iload_n 1, 1, 1, 0, 0, 0) := rfl
theorem fX3_belief_1 : fetch tX3_belief 1 = some (.invokestatic 42, 3, 0, 3, 0, 0) := rfl
theorem fX3_belief_4 : fetch tX3_belief 4 = some (.ifCond .ne 6, 3, 10, 0, 0, 0) := rfl
theorem fX3_belief_7 : fetch tX3_belief 7 = some (.bipush (-2), 2, 0, 0, (-2), 0) := rfl
theorem fX3_belief_9 : fetch tX3_belief 9 = some (.ireturn, 1, 0, 0, 0, 0) := rfl
theorem fX3_belief_10 : fetch tX3_belief 10 = some (.aload_n 0, 1, 0, 0, 0, 0) := rfl
theorem fX3_belief_11 : fetch tX3_belief 11 = some (.invokevirtual 164, 3, 1, 3, 0, 0) := rfl
theorem fX3_belief_14 : fetch tX3_belief 14 = some (.lconst 0, 1, 0, 0, 0, 0) := rfl
theorem fX3_belief_15 : fetch tX3_belief 15 = some (.lstore_n 2, 1, 2, 0, 0, 0) := rfl
theorem fX3_belief_16 : fetch tX3_belief 16 = some (.iconst 0, 1, 0, 0, 0, 0) := rfl
theorem fX3_belief_17 : fetch tX3_belief 17 = some (.istore 4, 2, 4, 0, 0, 0) := rfl
theorem fX3_belief_19 : fetch tX3_belief 19 = some (.iload 4, 2, 4, 0, 0, 0) := rfl
theorem fX3_belief_21 : fetch tX3_belief 21 = some (.bipush 8, 2, 0, 0, 8, 0) := rfl
theorem fX3_belief_23 : fetch tX3_belief 23 = some (.if_icmp .ge 19, 3, 42, 0, 0, 0) := rfl
theorem fX3_belief_26 : fetch tX3_belief 26 = some (.lload_n 2, 1, 2, 0, 0, 0) := rfl
theorem fX3_belief_27 : fetch tX3_belief 27 = some (.aload_n 0, 1, 0, 0, 0, 0) := rfl
theorem fX3_belief_28 : fetch tX3_belief 28 = some (.getfield 34, 3, 3, 4, 0, 0) := rfl
theorem fX3_belief_31 : fetch tX3_belief 31 = some (.iload 4, 2, 4, 0, 0, 0) := rfl
theorem fX3_belief_33 : fetch tX3_belief 33 = some (.laload, 1, 0, 0, 0, 0) := rfl
theorem fX3_belief_34 : fetch tX3_belief 34 = some (.ladd, 1, 0, 0, 0, 0) := rfl
theorem fX3_belief_35 : fetch tX3_belief 35 = some (.lstore_n 2, 1, 2, 0, 0, 0) := rfl
theorem fX3_belief_36 : fetch tX3_belief 36 = some (.iinc 4 1, 3, 4, 0, 1, 0) := rfl
theorem fX3_belief_39 : fetch tX3_belief 39 = some (.goto (-20), 3, 19, 0, 0, 0) := rfl
theorem fX3_belief_42 : fetch tX3_belief 42 = some (.lload_n 2, 1, 2, 0, 0, 0) := rfl
theorem fX3_belief_43 : fetch tX3_belief 43 = some (.lconst 0, 1, 0, 0, 0, 0) := rfl
theorem fX3_belief_44 : fetch tX3_belief 44 = some (.lcmp, 1, 0, 0, 0, 0) := rfl
theorem fX3_belief_45 : fetch tX3_belief 45 = some (.ifCond .le 19, 3, 64, 0, 0, 0) := rfl
theorem fX3_belief_48 : fetch tX3_belief 48 = some (.ldc2_w 170, 3, 0, 0, 0, 1000) := rfl
theorem fX3_belief_51 : fetch tX3_belief 51 = some (.aload_n 0, 1, 0, 0, 0, 0) := rfl
theorem fX3_belief_52 : fetch tX3_belief 52 = some (.getfield 34, 3, 3, 4, 0, 0) := rfl
theorem fX3_belief_55 : fetch tX3_belief 55 = some (.iload_n 1, 1, 1, 0, 0, 0) := rfl
theorem fX3_belief_56 : fetch tX3_belief 56 = some (.laload, 1, 0, 0, 0, 0) := rfl
theorem fX3_belief_57 : fetch tX3_belief 57 = some (.lmul, 1, 0, 0, 0, 0) := rfl
theorem fX3_belief_58 : fetch tX3_belief 58 = some (.lload_n 2, 1, 2, 0, 0, 0) := rfl
theorem fX3_belief_59 : fetch tX3_belief 59 = some (.ldiv, 1, 0, 0, 0, 0) := rfl
theorem fX3_belief_60 : fetch tX3_belief 60 = some (.l2i, 1, 0, 0, 0, 0) := rfl
theorem fX3_belief_61 : fetch tX3_belief 61 = some (.goto 4, 3, 65, 0, 0, 0) := rfl
theorem fX3_belief_64 : fetch tX3_belief 64 = some (.iconst 0, 1, 0, 0, 0, 0) := rfl
theorem fX3_belief_65 : fetch tX3_belief 65 = some (.ireturn, 1, 0, 0, 0, 0) := rfl
def tX3_decoy : List (Nat × TE) := [(0, .iload_n 1, 1, 1, 0, 0, 0), (1, .invokestatic 42, 3, 0, 3, 0, 0), (4, .ifCond .ne 6, 3, 10, 0, 0, 0), (7, .bipush (-2), 2, 0, 0, (-2), 0), (9, .ireturn, 1, 0, 0, 0, 0), (10, .iconst (-1), 1, 0, 0, (-1), 0), (11, .istore_n 2, 1, 2, 0, 0, 0), (12, .lconst 0, 1, 0, 0, 0, 0), (13, .lstore_n 3, 1, 3, 0, 0, 0), (14, .iconst 0, 1, 0, 0, 0, 0), (15, .istore 5, 2, 5, 0, 0, 0), (17, .iload 5, 2, 5, 0, 0, 0), (19, .bipush 8, 2, 0, 0, 8, 0), (21, .if_icmp .ge 45, 3, 66, 0, 0, 0), (24, .iload 5, 2, 5, 0, 0, 0), (26, .iload_n 1, 1, 1, 0, 0, 0), (27, .if_icmp .ne 6, 3, 33, 0, 0, 0), (30, .goto 30, 3, 60, 0, 0, 0), (33, .aload_n 0, 1, 0, 0, 0, 0), (34, .iconst 1, 1, 0, 0, 1, 0), (35, .iload_n 1, 1, 1, 0, 0, 0), (36, .ishl, 1, 0, 0, 0, 0), (37, .iconst 1, 1, 0, 0, 1, 0), (38, .iload 5, 2, 5, 0, 0, 0), (40, .ishl, 1, 0, 0, 0, 0), (41, .ior, 1, 0, 0, 0, 0), (42, .invokevirtual 157, 3, 1, 3, 0, 0), (45, .lstore 6, 2, 6, 0, 0, 0), (47, .lload 6, 2, 6, 0, 0, 0), (49, .lload_n 3, 1, 3, 0, 0, 0), (50, .lcmp, 1, 0, 0, 0, 0), (51, .ifCond .le 9, 3, 60, 0, 0, 0), (54, .lload 6, 2, 6, 0, 0, 0), (56, .lstore_n 3, 1, 3, 0, 0, 0), (57, .iload 5, 2, 5, 0, 0, 0), (59, .istore_n 2, 1, 2, 0, 0, 0), (60, .iinc 5 1, 3, 5, 0, 1, 0), (63, .goto (-46), 3, 17, 0, 0, 0), (66, .iload_n 2, 1, 2, 0, 0, 0), (67, .ireturn, 1, 0, 0, 0, 0)]
theorem tkX3_decoy : tOk cX3_decoy "RumourSource" 8 tX3_decoy = true := by decide +kernel
theorem fX3_decoy_0 : fetch tX3_decoy 0 = some (.iload_n 1, 1, 1, 0, 0, 0) := rfl
theorem fX3_decoy_1 : fetch tX3_decoy 1 = some (.invokestatic 42, 3, 0, 3, 0, 0) := rfl
theorem fX3_decoy_4 : fetch tX3_decoy 4 = some (.ifCond .ne 6, 3, 10, 0, 0, 0) := rfl
theorem fX3_decoy_7 : fetch tX3_decoy 7 = some (.bipush (-2), 2, 0, 0, (-2), 0) := rfl
theorem fX3_decoy_9 : fetch tX3_decoy 9 = some (.ireturn, 1, 0, 0, 0, 0) := rfl
theorem fX3_decoy_10 : fetch tX3_decoy 10 = some (.iconst (-1), 1, 0, 0, (-1), 0) := rfl
theorem fX3_decoy_11 : fetch tX3_decoy 11 = some (.istore_n 2, 1, 2, 0, 0, 0) := rfl
theorem fX3_decoy_12 : fetch tX3_decoy 12 = some (.lconst 0, 1, 0, 0, 0, 0) := rfl
theorem fX3_decoy_13 : fetch tX3_decoy 13 = some (.lstore_n 3, 1, 3, 0, 0, 0) := rfl
theorem fX3_decoy_14 : fetch tX3_decoy 14 = some (.iconst 0, 1, 0, 0, 0, 0) := rfl
theorem fX3_decoy_15 : fetch tX3_decoy 15 = some (.istore 5, 2, 5, 0, 0, 0) := rfl
theorem fX3_decoy_17 : fetch tX3_decoy 17 = some (.iload 5, 2, 5, 0, 0, 0) := rfl
theorem fX3_decoy_19 : fetch tX3_decoy 19 = some (.bipush 8, 2, 0, 0, 8, 0) := rfl
theorem fX3_decoy_21 : fetch tX3_decoy 21 = some (.if_icmp .ge 45, 3, 66, 0, 0, 0) := rfl
theorem fX3_decoy_24 : fetch tX3_decoy 24 = some (.iload 5, 2, 5, 0, 0, 0) := rfl
theorem fX3_decoy_26 : fetch tX3_decoy 26 = some (.iload_n 1, 1, 1, 0, 0, 0) := rfl
theorem fX3_decoy_27 : fetch tX3_decoy 27 = some (.if_icmp .ne 6, 3, 33, 0, 0, 0) := rfl
theorem fX3_decoy_30 : fetch tX3_decoy 30 = some (.goto 30, 3, 60, 0, 0, 0) := rfl
theorem fX3_decoy_33 : fetch tX3_decoy 33 = some (.aload_n 0, 1, 0, 0, 0, 0) := rfl
theorem fX3_decoy_34 : fetch tX3_decoy 34 = some (.iconst 1, 1, 0, 0, 1, 0) := rfl
theorem fX3_decoy_35 : fetch tX3_decoy 35 = some (.iload_n 1, 1, 1, 0, 0, 0) := rfl
theorem fX3_decoy_36 : fetch tX3_decoy 36 = some (.ishl, 1, 0, 0, 0, 0) := rfl
theorem fX3_decoy_37 : fetch tX3_decoy 37 = some (.iconst 1, 1, 0, 0, 1, 0) := rfl
theorem fX3_decoy_38 : fetch tX3_decoy 38 = some (.iload 5, 2, 5, 0, 0, 0) := rfl
theorem fX3_decoy_40 : fetch tX3_decoy 40 = some (.ishl, 1, 0, 0, 0, 0) := rfl
theorem fX3_decoy_41 : fetch tX3_decoy 41 = some (.ior, 1, 0, 0, 0, 0) := rfl
theorem fX3_decoy_42 : fetch tX3_decoy 42 = some (.invokevirtual 157, 3, 1, 3, 0, 0) := rfl
theorem fX3_decoy_45 : fetch tX3_decoy 45 = some (.lstore 6, 2, 6, 0, 0, 0) := rfl
theorem fX3_decoy_47 : fetch tX3_decoy 47 = some (.lload 6, 2, 6, 0, 0, 0) := rfl
theorem fX3_decoy_49 : fetch tX3_decoy 49 = some (.lload_n 3, 1, 3, 0, 0, 0) := rfl
theorem fX3_decoy_50 : fetch tX3_decoy 50 = some (.lcmp, 1, 0, 0, 0, 0) := rfl
theorem fX3_decoy_51 : fetch tX3_decoy 51 = some (.ifCond .le 9, 3, 60, 0, 0, 0) := rfl
theorem fX3_decoy_54 : fetch tX3_decoy 54 = some (.lload 6, 2, 6, 0, 0, 0) := rfl
theorem fX3_decoy_56 : fetch tX3_decoy 56 = some (.lstore_n 3, 1, 3, 0, 0, 0) := rfl
theorem fX3_decoy_57 : fetch tX3_decoy 57 = some (.iload 5, 2, 5, 0, 0, 0) := rfl
theorem fX3_decoy_59 : fetch tX3_decoy 59 = some (.istore_n 2, 1, 2, 0, 0, 0) := rfl
theorem fX3_decoy_60 : fetch tX3_decoy 60 = some (.iinc 5 1, 3, 5, 0, 1, 0) := rfl
theorem fX3_decoy_63 : fetch tX3_decoy 63 = some (.goto (-46), 3, 17, 0, 0, 0) := rfl
theorem fX3_decoy_66 : fetch tX3_decoy 66 = some (.iload_n 2, 1, 2, 0, 0, 0) := rfl
theorem fX3_decoy_67 : fetch tX3_decoy 67 = some (.ireturn, 1, 0, 0, 0, 0) := rfl
def tX3_possible : List (Nat × TE) := [(0, .iconst 0, 1, 0, 0, 0, 0), (1, .istore_n 1, 1, 1, 0, 0, 0), (2, .iconst 0, 1, 0, 0, 0, 0), (3, .istore_n 2, 1, 2, 0, 0, 0), (4, .iload_n 2, 1, 2, 0, 0, 0), (5, .bipush 8, 2, 0, 0, 8, 0), (7, .if_icmp .ge 37, 3, 44, 0, 0, 0), (10, .iload_n 2, 1, 2, 0, 0, 0), (11, .istore_n 3, 1, 3, 0, 0, 0), (12, .iload_n 3, 1, 3, 0, 0, 0), (13, .bipush 8, 2, 0, 0, 8, 0), (15, .if_icmp .ge 23, 3, 38, 0, 0, 0), (18, .iload_n 1, 1, 1, 0, 0, 0), (19, .aload_n 0, 1, 0, 0, 0, 0), (20, .iconst 1, 1, 0, 0, 1, 0), (21, .iload_n 2, 1, 2, 0, 0, 0), (22, .ishl, 1, 0, 0, 0, 0), (23, .iconst 1, 1, 0, 0, 1, 0), (24, .iload_n 3, 1, 3, 0, 0, 0), (25, .ishl, 1, 0, 0, 0, 0), (26, .ior, 1, 0, 0, 0, 0), (27, .invokevirtual 161, 3, 0, 3, 0, 0), (30, .iadd, 1, 0, 0, 0, 0), (31, .istore_n 1, 1, 1, 0, 0, 0), (32, .iinc 3 1, 3, 3, 0, 1, 0), (35, .goto (-23), 3, 12, 0, 0, 0), (38, .iinc 2 1, 3, 2, 0, 1, 0), (41, .goto (-37), 3, 4, 0, 0, 0), (44, .iload_n 1, 1, 1, 0, 0, 0), (45, .ireturn, 1, 0, 0, 0, 0)]
theorem tkX3_possible : tOk cX3_possible "RumourSource" 4 tX3_possible = true := by decide +kernel
theorem fX3_possible_0 : fetch tX3_possible 0 = some (.iconst 0, 1, 0, 0, 0, 0) := rfl
theorem fX3_possible_1 : fetch tX3_possible 1 = some (.istore_n 1, 1, 1, 0, 0, 0) := rfl
theorem fX3_possible_2 : fetch tX3_possible 2 = some (.iconst 0, 1, 0, 0, 0, 0) := rfl
theorem fX3_possible_3 : fetch tX3_possible 3 = some (.istore_n 2, 1, 2, 0, 0, 0) := rfl
theorem fX3_possible_4 : fetch tX3_possible 4 = some (.iload_n 2, 1, 2, 0, 0, 0) := rfl
theorem fX3_possible_5 : fetch tX3_possible 5 = some (.bipush 8, 2, 0, 0, 8, 0) := rfl
theorem fX3_possible_7 : fetch tX3_possible 7 = some (.if_icmp .ge 37, 3, 44, 0, 0, 0) := rfl
theorem fX3_possible_10 : fetch tX3_possible 10 = some (.iload_n 2, 1, 2, 0, 0, 0) := rfl
theorem fX3_possible_11 : fetch tX3_possible 11 = some (.istore_n 3, 1, 3, 0, 0, 0) := rfl
theorem fX3_possible_12 : fetch tX3_possible 12 = some (.iload_n 3, 1, 3, 0, 0, 0) := rfl
theorem fX3_possible_13 : fetch tX3_possible 13 = some (.bipush 8, 2, 0, 0, 8, 0) := rfl
theorem fX3_possible_15 : fetch tX3_possible 15 = some (.if_icmp .ge 23, 3, 38, 0, 0, 0) := rfl
theorem fX3_possible_18 : fetch tX3_possible 18 = some (.iload_n 1, 1, 1, 0, 0, 0) := rfl
theorem fX3_possible_19 : fetch tX3_possible 19 = some (.aload_n 0, 1, 0, 0, 0, 0) := rfl
theorem fX3_possible_20 : fetch tX3_possible 20 = some (.iconst 1, 1, 0, 0, 1, 0) := rfl
theorem fX3_possible_21 : fetch tX3_possible 21 = some (.iload_n 2, 1, 2, 0, 0, 0) := rfl
theorem fX3_possible_22 : fetch tX3_possible 22 = some (.ishl, 1, 0, 0, 0, 0) := rfl
theorem fX3_possible_23 : fetch tX3_possible 23 = some (.iconst 1, 1, 0, 0, 1, 0) := rfl
theorem fX3_possible_24 : fetch tX3_possible 24 = some (.iload_n 3, 1, 3, 0, 0, 0) := rfl
theorem fX3_possible_25 : fetch tX3_possible 25 = some (.ishl, 1, 0, 0, 0, 0) := rfl
theorem fX3_possible_26 : fetch tX3_possible 26 = some (.ior, 1, 0, 0, 0, 0) := rfl
theorem fX3_possible_27 : fetch tX3_possible 27 = some (.invokevirtual 161, 3, 0, 3, 0, 0) := rfl
theorem fX3_possible_30 : fetch tX3_possible 30 = some (.iadd, 1, 0, 0, 0, 0) := rfl
theorem fX3_possible_31 : fetch tX3_possible 31 = some (.istore_n 1, 1, 1, 0, 0, 0) := rfl
theorem fX3_possible_32 : fetch tX3_possible 32 = some (.iinc 3 1, 3, 3, 0, 1, 0) := rfl
theorem fX3_possible_35 : fetch tX3_possible 35 = some (.goto (-23), 3, 12, 0, 0, 0) := rfl
theorem fX3_possible_38 : fetch tX3_possible 38 = some (.iinc 2 1, 3, 2, 0, 1, 0) := rfl
theorem fX3_possible_41 : fetch tX3_possible 41 = some (.goto (-37), 3, 4, 0, 0, 0) := rfl
theorem fX3_possible_44 : fetch tX3_possible 44 = some (.iload_n 1, 1, 1, 0, 0, 0) := rfl
theorem fX3_possible_45 : fetch tX3_possible 45 = some (.ireturn, 1, 0, 0, 0, 0) := rfl
def tX3_explanation : List (Nat × TE) := [(0, .iload_n 1, 1, 1, 0, 0, 0), (1, .invokestatic 108, 3, 0, 3, 0, 0), (4, .ifCond .ne 6, 3, 10, 0, 0, 0), (7, .bipush (-3), 2, 0, 0, (-3), 0), (9, .ireturn, 1, 0, 0, 0, 0), (10, .aload_n 0, 1, 0, 0, 0, 0), (11, .getfield 23, 3, 3, 2, 0, 0), (14, .aload_n 0, 1, 0, 0, 0, 0), (15, .getfield 12, 3, 3, 0, 0, 0), (18, .invokevirtual 130, 3, 1, 1, 0, 0), (21, .aload_n 0, 1, 0, 0, 0, 0), (22, .getfield 23, 3, 3, 2, 0, 0), (25, .aload_n 0, 1, 0, 0, 0, 0), (26, .getfield 12, 3, 3, 0, 0, 0), (29, .iload_n 1, 1, 1, 0, 0, 0), (30, .iconst 0, 1, 0, 0, 0, 0), (31, .invokevirtual 143, 3, 2, 1, 0, 0), (34, .aload_n 0, 1, 0, 0, 0, 0), (35, .getfield 23, 3, 3, 2, 0, 0), (38, .getfield 172, 3, 1, 5, 0, 0), (41, .ireturn, 1, 0, 0, 0, 0)]
theorem tkX3_explanation : tOk cX3_explanation "RumourSource" 2 tX3_explanation = true := by decide +kernel
theorem fX3_explanation_0 : fetch tX3_explanation 0 = some (.iload_n 1, 1, 1, 0, 0, 0) := rfl
theorem fX3_explanation_1 : fetch tX3_explanation 1 = some (.invokestatic 108, 3, 0, 3, 0, 0) := rfl
theorem fX3_explanation_4 : fetch tX3_explanation 4 = some (.ifCond .ne 6, 3, 10, 0, 0, 0) := rfl
theorem fX3_explanation_7 : fetch tX3_explanation 7 = some (.bipush (-3), 2, 0, 0, (-3), 0) := rfl
theorem fX3_explanation_9 : fetch tX3_explanation 9 = some (.ireturn, 1, 0, 0, 0, 0) := rfl
theorem fX3_explanation_10 : fetch tX3_explanation 10 = some (.aload_n 0, 1, 0, 0, 0, 0) := rfl
theorem fX3_explanation_11 : fetch tX3_explanation 11 = some (.getfield 23, 3, 3, 2, 0, 0) := rfl
theorem fX3_explanation_14 : fetch tX3_explanation 14 = some (.aload_n 0, 1, 0, 0, 0, 0) := rfl
theorem fX3_explanation_15 : fetch tX3_explanation 15 = some (.getfield 12, 3, 3, 0, 0, 0) := rfl
theorem fX3_explanation_18 : fetch tX3_explanation 18 = some (.invokevirtual 130, 3, 1, 1, 0, 0) := rfl
theorem fX3_explanation_21 : fetch tX3_explanation 21 = some (.aload_n 0, 1, 0, 0, 0, 0) := rfl
theorem fX3_explanation_22 : fetch tX3_explanation 22 = some (.getfield 23, 3, 3, 2, 0, 0) := rfl
theorem fX3_explanation_25 : fetch tX3_explanation 25 = some (.aload_n 0, 1, 0, 0, 0, 0) := rfl
theorem fX3_explanation_26 : fetch tX3_explanation 26 = some (.getfield 12, 3, 3, 0, 0, 0) := rfl
theorem fX3_explanation_29 : fetch tX3_explanation 29 = some (.iload_n 1, 1, 1, 0, 0, 0) := rfl
theorem fX3_explanation_30 : fetch tX3_explanation 30 = some (.iconst 0, 1, 0, 0, 0, 0) := rfl
theorem fX3_explanation_31 : fetch tX3_explanation 31 = some (.invokevirtual 143, 3, 2, 1, 0, 0) := rfl
theorem fX3_explanation_34 : fetch tX3_explanation 34 = some (.aload_n 0, 1, 0, 0, 0, 0) := rfl
theorem fX3_explanation_35 : fetch tX3_explanation 35 = some (.getfield 23, 3, 3, 2, 0, 0) := rfl
theorem fX3_explanation_38 : fetch tX3_explanation 38 = some (.getfield 172, 3, 1, 5, 0, 0) := rfl
theorem fX3_explanation_41 : fetch tX3_explanation 41 = some (.ireturn, 1, 0, 0, 0, 0) := rfl
def tX3_values : List (Nat × TE) := [(0, .iload_n 1, 1, 1, 0, 0, 0), (1, .invokestatic 42, 3, 0, 3, 0, 0), (4, .ifCond .ne 6, 3, 10, 0, 0, 0), (7, .bipush (-2), 2, 0, 0, (-2), 0), (9, .ireturn, 1, 0, 0, 0, 0), (10, .aload_n 0, 1, 0, 0, 0, 0), (11, .getfield 12, 3, 3, 0, 0, 0), (14, .getfield 102, 3, 0, 6, 0, 0), (17, .iload_n 1, 1, 1, 0, 0, 0), (18, .iaload, 1, 0, 0, 0, 0), (19, .bipush 100, 2, 0, 0, 100, 0), (21, .if_icmp .eq 16, 3, 37, 0, 0, 0), (24, .aload_n 0, 1, 0, 0, 0, 0), (25, .invokevirtual 175, 3, 1, 3, 0, 0), (28, .ifCond .le 7, 3, 35, 0, 0, 0), (31, .iconst 1, 1, 0, 0, 1, 0), (32, .goto 4, 3, 36, 0, 0, 0), (35, .iconst 0, 1, 0, 0, 0, 0), (36, .ireturn, 1, 0, 0, 0, 0), (37, .aload_n 0, 1, 0, 0, 0, 0), (38, .getfield 23, 3, 3, 2, 0, 0), (41, .aload_n 0, 1, 0, 0, 0, 0), (42, .getfield 12, 3, 3, 0, 0, 0), (45, .invokevirtual 130, 3, 2, 1, 0, 0), (48, .lconst 0, 1, 0, 0, 0, 0), (49, .lstore_n 2, 1, 2, 0, 0, 0), (50, .iconst 0, 1, 0, 0, 0, 0), (51, .istore 4, 2, 4, 0, 0, 0), (53, .iload 4, 2, 4, 0, 0, 0), (55, .bipush 8, 2, 0, 0, 8, 0), (57, .if_icmp .ge 37, 3, 94, 0, 0, 0), (60, .aload_n 0, 1, 0, 0, 0, 0), (61, .getfield 23, 3, 3, 2, 0, 0), (64, .aload_n 0, 1, 0, 0, 0, 0), (65, .getfield 12, 3, 3, 0, 0, 0), (68, .iconst 1, 1, 0, 0, 1, 0), (69, .iload 4, 2, 4, 0, 0, 0), (71, .ishl, 1, 0, 0, 0, 0), (72, .iconst 0, 1, 0, 0, 0, 0), (73, .invokevirtual 143, 3, 3, 1, 0, 0), (76, .lload_n 2, 1, 2, 0, 0, 0), (77, .aload_n 0, 1, 0, 0, 0, 0), (78, .getfield 23, 3, 3, 2, 0, 0), (81, .getfield 179, 3, 1, 6, 0, 0), (84, .iload_n 1, 1, 1, 0, 0, 0), (85, .laload, 1, 0, 0, 0, 0), (86, .lor, 1, 0, 0, 0, 0), (87, .lstore_n 2, 1, 2, 0, 0, 0), (88, .iinc 4 1, 3, 4, 0, 1, 0), (91, .goto (-38), 3, 53, 0, 0, 0), (94, .lload_n 2, 1, 2, 0, 0, 0), (95, .invokestatic 182, 3, 4, 0, 0, 0), (98, .ireturn, 1, 0, 0, 0, 0)]
theorem tkX3_values : tOk cX3_values "RumourSource" 5 tX3_values = true := by decide +kernel
theorem fX3_values_0 : fetch tX3_values 0 = some (.iload_n 1, 1, 1, 0, 0, 0) := rfl
theorem fX3_values_1 : fetch tX3_values 1 = some (.invokestatic 42, 3, 0, 3, 0, 0) := rfl
theorem fX3_values_4 : fetch tX3_values 4 = some (.ifCond .ne 6, 3, 10, 0, 0, 0) := rfl
theorem fX3_values_7 : fetch tX3_values 7 = some (.bipush (-2), 2, 0, 0, (-2), 0) := rfl
theorem fX3_values_9 : fetch tX3_values 9 = some (.ireturn, 1, 0, 0, 0, 0) := rfl
theorem fX3_values_10 : fetch tX3_values 10 = some (.aload_n 0, 1, 0, 0, 0, 0) := rfl
theorem fX3_values_11 : fetch tX3_values 11 = some (.getfield 12, 3, 3, 0, 0, 0) := rfl
theorem fX3_values_14 : fetch tX3_values 14 = some (.getfield 102, 3, 0, 6, 0, 0) := rfl
theorem fX3_values_17 : fetch tX3_values 17 = some (.iload_n 1, 1, 1, 0, 0, 0) := rfl
theorem fX3_values_18 : fetch tX3_values 18 = some (.iaload, 1, 0, 0, 0, 0) := rfl
theorem fX3_values_19 : fetch tX3_values 19 = some (.bipush 100, 2, 0, 0, 100, 0) := rfl
theorem fX3_values_21 : fetch tX3_values 21 = some (.if_icmp .eq 16, 3, 37, 0, 0, 0) := rfl
theorem fX3_values_24 : fetch tX3_values 24 = some (.aload_n 0, 1, 0, 0, 0, 0) := rfl
theorem fX3_values_25 : fetch tX3_values 25 = some (.invokevirtual 175, 3, 1, 3, 0, 0) := rfl
theorem fX3_values_28 : fetch tX3_values 28 = some (.ifCond .le 7, 3, 35, 0, 0, 0) := rfl
theorem fX3_values_31 : fetch tX3_values 31 = some (.iconst 1, 1, 0, 0, 1, 0) := rfl
theorem fX3_values_32 : fetch tX3_values 32 = some (.goto 4, 3, 36, 0, 0, 0) := rfl
theorem fX3_values_35 : fetch tX3_values 35 = some (.iconst 0, 1, 0, 0, 0, 0) := rfl
theorem fX3_values_36 : fetch tX3_values 36 = some (.ireturn, 1, 0, 0, 0, 0) := rfl
theorem fX3_values_37 : fetch tX3_values 37 = some (.aload_n 0, 1, 0, 0, 0, 0) := rfl
theorem fX3_values_38 : fetch tX3_values 38 = some (.getfield 23, 3, 3, 2, 0, 0) := rfl
theorem fX3_values_41 : fetch tX3_values 41 = some (.aload_n 0, 1, 0, 0, 0, 0) := rfl
theorem fX3_values_42 : fetch tX3_values 42 = some (.getfield 12, 3, 3, 0, 0, 0) := rfl
theorem fX3_values_45 : fetch tX3_values 45 = some (.invokevirtual 130, 3, 2, 1, 0, 0) := rfl
theorem fX3_values_48 : fetch tX3_values 48 = some (.lconst 0, 1, 0, 0, 0, 0) := rfl
theorem fX3_values_49 : fetch tX3_values 49 = some (.lstore_n 2, 1, 2, 0, 0, 0) := rfl
theorem fX3_values_50 : fetch tX3_values 50 = some (.iconst 0, 1, 0, 0, 0, 0) := rfl
theorem fX3_values_51 : fetch tX3_values 51 = some (.istore 4, 2, 4, 0, 0, 0) := rfl
theorem fX3_values_53 : fetch tX3_values 53 = some (.iload 4, 2, 4, 0, 0, 0) := rfl
theorem fX3_values_55 : fetch tX3_values 55 = some (.bipush 8, 2, 0, 0, 8, 0) := rfl
theorem fX3_values_57 : fetch tX3_values 57 = some (.if_icmp .ge 37, 3, 94, 0, 0, 0) := rfl
theorem fX3_values_60 : fetch tX3_values 60 = some (.aload_n 0, 1, 0, 0, 0, 0) := rfl
theorem fX3_values_61 : fetch tX3_values 61 = some (.getfield 23, 3, 3, 2, 0, 0) := rfl
theorem fX3_values_64 : fetch tX3_values 64 = some (.aload_n 0, 1, 0, 0, 0, 0) := rfl
theorem fX3_values_65 : fetch tX3_values 65 = some (.getfield 12, 3, 3, 0, 0, 0) := rfl
theorem fX3_values_68 : fetch tX3_values 68 = some (.iconst 1, 1, 0, 0, 1, 0) := rfl
theorem fX3_values_69 : fetch tX3_values 69 = some (.iload 4, 2, 4, 0, 0, 0) := rfl
theorem fX3_values_71 : fetch tX3_values 71 = some (.ishl, 1, 0, 0, 0, 0) := rfl
theorem fX3_values_72 : fetch tX3_values 72 = some (.iconst 0, 1, 0, 0, 0, 0) := rfl
theorem fX3_values_73 : fetch tX3_values 73 = some (.invokevirtual 143, 3, 3, 1, 0, 0) := rfl
theorem fX3_values_76 : fetch tX3_values 76 = some (.lload_n 2, 1, 2, 0, 0, 0) := rfl
theorem fX3_values_77 : fetch tX3_values 77 = some (.aload_n 0, 1, 0, 0, 0, 0) := rfl
theorem fX3_values_78 : fetch tX3_values 78 = some (.getfield 23, 3, 3, 2, 0, 0) := rfl
theorem fX3_values_81 : fetch tX3_values 81 = some (.getfield 179, 3, 1, 6, 0, 0) := rfl
theorem fX3_values_84 : fetch tX3_values 84 = some (.iload_n 1, 1, 1, 0, 0, 0) := rfl
theorem fX3_values_85 : fetch tX3_values 85 = some (.laload, 1, 0, 0, 0, 0) := rfl
theorem fX3_values_86 : fetch tX3_values 86 = some (.lor, 1, 0, 0, 0, 0) := rfl
theorem fX3_values_87 : fetch tX3_values 87 = some (.lstore_n 2, 1, 2, 0, 0, 0) := rfl
theorem fX3_values_88 : fetch tX3_values 88 = some (.iinc 4 1, 3, 4, 0, 1, 0) := rfl
theorem fX3_values_91 : fetch tX3_values 91 = some (.goto (-38), 3, 53, 0, 0, 0) := rfl
theorem fX3_values_94 : fetch tX3_values 94 = some (.lload_n 2, 1, 2, 0, 0, 0) := rfl
theorem fX3_values_95 : fetch tX3_values 95 = some (.invokestatic 182, 3, 4, 0, 0, 0) := rfl
theorem fX3_values_98 : fetch tX3_values 98 = some (.ireturn, 1, 0, 0, 0, 0) := rfl
def tX3_undo : List (Nat × TE) := [(0, .aload_n 0, 1, 0, 0, 0, 0), (1, .getfield 38, 3, 3, 5, 0, 0), (4, .iconst 1, 1, 0, 0, 1, 0), (5, .if_icmp .lt 15, 3, 20, 0, 0, 0), (8, .aload_n 0, 1, 0, 0, 0, 0), (9, .getfield 38, 3, 3, 5, 0, 0), (12, .aload_n 0, 1, 0, 0, 0, 0), (13, .getfield 16, 3, 3, 1, 0, 0), (16, .arraylength, 1, 0, 0, 0, 0), (17, .if_icmp .le 6, 3, 23, 0, 0, 0), (20, .bipush (-4), 2, 0, 0, (-4), 0), (22, .ireturn, 1, 0, 0, 0, 0), (23, .aload_n 0, 1, 0, 0, 0, 0), (24, .dup, 1, 0, 0, 0, 0), (25, .getfield 38, 3, 3, 5, 0, 0), (28, .iconst 1, 1, 0, 0, 1, 0), (29, .isub, 1, 0, 0, 0, 0), (30, .putfield 38, 3, 3, 5, 0, 0), (33, .aload_n 0, 1, 0, 0, 0, 0), (34, .getfield 12, 3, 3, 0, 0, 0), (37, .aload_n 0, 1, 0, 0, 0, 0), (38, .getfield 16, 3, 3, 1, 0, 0), (41, .aload_n 0, 1, 0, 0, 0, 0), (42, .getfield 38, 3, 3, 5, 0, 0), (45, .aaload, 1, 0, 0, 0, 0), (46, .invokevirtual 188, 3, 0, 0, 0, 0), (49, .aload_n 0, 1, 0, 0, 0, 0), (50, .getfield 38, 3, 3, 5, 0, 0), (53, .ireturn, 1, 0, 0, 0, 0)]
theorem tkX3_undo : tOk cX3_undo "RumourSource" 1 tX3_undo = true := by decide +kernel
theorem fX3_undo_0 : fetch tX3_undo 0 = some (.aload_n 0, 1, 0, 0, 0, 0) := rfl
theorem fX3_undo_1 : fetch tX3_undo 1 = some (.getfield 38, 3, 3, 5, 0, 0) := rfl
theorem fX3_undo_4 : fetch tX3_undo 4 = some (.iconst 1, 1, 0, 0, 1, 0) := rfl
theorem fX3_undo_5 : fetch tX3_undo 5 = some (.if_icmp .lt 15, 3, 20, 0, 0, 0) := rfl
theorem fX3_undo_8 : fetch tX3_undo 8 = some (.aload_n 0, 1, 0, 0, 0, 0) := rfl
theorem fX3_undo_9 : fetch tX3_undo 9 = some (.getfield 38, 3, 3, 5, 0, 0) := rfl
theorem fX3_undo_12 : fetch tX3_undo 12 = some (.aload_n 0, 1, 0, 0, 0, 0) := rfl
theorem fX3_undo_13 : fetch tX3_undo 13 = some (.getfield 16, 3, 3, 1, 0, 0) := rfl
theorem fX3_undo_16 : fetch tX3_undo 16 = some (.arraylength, 1, 0, 0, 0, 0) := rfl
theorem fX3_undo_17 : fetch tX3_undo 17 = some (.if_icmp .le 6, 3, 23, 0, 0, 0) := rfl
theorem fX3_undo_20 : fetch tX3_undo 20 = some (.bipush (-4), 2, 0, 0, (-4), 0) := rfl
theorem fX3_undo_22 : fetch tX3_undo 22 = some (.ireturn, 1, 0, 0, 0, 0) := rfl
theorem fX3_undo_23 : fetch tX3_undo 23 = some (.aload_n 0, 1, 0, 0, 0, 0) := rfl
theorem fX3_undo_24 : fetch tX3_undo 24 = some (.dup, 1, 0, 0, 0, 0) := rfl
theorem fX3_undo_25 : fetch tX3_undo 25 = some (.getfield 38, 3, 3, 5, 0, 0) := rfl
theorem fX3_undo_28 : fetch tX3_undo 28 = some (.iconst 1, 1, 0, 0, 1, 0) := rfl
theorem fX3_undo_29 : fetch tX3_undo 29 = some (.isub, 1, 0, 0, 0, 0) := rfl
theorem fX3_undo_30 : fetch tX3_undo 30 = some (.putfield 38, 3, 3, 5, 0, 0) := rfl
theorem fX3_undo_33 : fetch tX3_undo 33 = some (.aload_n 0, 1, 0, 0, 0, 0) := rfl
theorem fX3_undo_34 : fetch tX3_undo 34 = some (.getfield 12, 3, 3, 0, 0, 0) := rfl
theorem fX3_undo_37 : fetch tX3_undo 37 = some (.aload_n 0, 1, 0, 0, 0, 0) := rfl
theorem fX3_undo_38 : fetch tX3_undo 38 = some (.getfield 16, 3, 3, 1, 0, 0) := rfl
theorem fX3_undo_41 : fetch tX3_undo 41 = some (.aload_n 0, 1, 0, 0, 0, 0) := rfl
theorem fX3_undo_42 : fetch tX3_undo 42 = some (.getfield 38, 3, 3, 5, 0, 0) := rfl
theorem fX3_undo_45 : fetch tX3_undo 45 = some (.aaload, 1, 0, 0, 0, 0) := rfl
theorem fX3_undo_46 : fetch tX3_undo 46 = some (.invokevirtual 188, 3, 0, 0, 0, 0) := rfl
theorem fX3_undo_49 : fetch tX3_undo 49 = some (.aload_n 0, 1, 0, 0, 0, 0) := rfl
theorem fX3_undo_50 : fetch tX3_undo 50 = some (.getfield 38, 3, 3, 5, 0, 0) := rfl
theorem fX3_undo_53 : fetch tX3_undo 53 = some (.ireturn, 1, 0, 0, 0, 0) := rfl
def tX3_type : List (Nat × TE) := [(0, .iload_n 1, 1, 1, 0, 0, 0), (1, .ifCond .lt 10, 3, 11, 0, 0, 0), (4, .iload_n 1, 1, 1, 0, 0, 0), (5, .sipush 255, 3, 0, 0, 255, 0), (8, .if_icmp .le 6, 3, 14, 0, 0, 0), (11, .bipush (-3), 2, 0, 0, (-3), 0), (13, .ireturn, 1, 0, 0, 0, 0), (14, .aload_n 0, 1, 0, 0, 0, 0), (15, .getfield 30, 3, 3, 3, 0, 0), (18, .getfield 191, 3, 2, 1, 0, 0), (21, .aload_n 0, 1, 0, 0, 0, 0), (22, .getfield 30, 3, 3, 3, 0, 0), (25, .getfield 194, 3, 2, 0, 0, 0), (28, .arraylength, 1, 0, 0, 0, 0), (29, .if_icmp .lt 6, 3, 35, 0, 0, 0), (32, .bipush (-5), 2, 0, 0, (-5), 0), (34, .ireturn, 1, 0, 0, 0, 0), (35, .aload_n 0, 1, 0, 0, 0, 0), (36, .getfield 30, 3, 3, 3, 0, 0), (39, .getfield 194, 3, 2, 0, 0, 0), (42, .aload_n 0, 1, 0, 0, 0, 0), (43, .getfield 30, 3, 3, 3, 0, 0), (46, .getfield 191, 3, 2, 1, 0, 0), (49, .iload_n 1, 1, 1, 0, 0, 0), (50, .iastore, 1, 0, 0, 0, 0), (51, .aload_n 0, 1, 0, 0, 0, 0), (52, .getfield 30, 3, 3, 3, 0, 0), (55, .dup, 1, 0, 0, 0, 0), (56, .getfield 191, 3, 2, 1, 0, 0), (59, .iconst 1, 1, 0, 0, 1, 0), (60, .iadd, 1, 0, 0, 0, 0), (61, .putfield 191, 3, 2, 1, 0, 0), (64, .aload_n 0, 1, 0, 0, 0, 0), (65, .getfield 30, 3, 3, 3, 0, 0), (68, .getfield 191, 3, 2, 1, 0, 0), (71, .ireturn, 1, 0, 0, 0, 0)]
theorem tkX3_type : tOk cX3_type "RumourSource" 2 tX3_type = true := by decide +kernel
theorem fX3_type_0 : fetch tX3_type 0 = some (.iload_n 1, 1, 1, 0, 0, 0) := rfl
theorem fX3_type_1 : fetch tX3_type 1 = some (.ifCond .lt 10, 3, 11, 0, 0, 0) := rfl
theorem fX3_type_4 : fetch tX3_type 4 = some (.iload_n 1, 1, 1, 0, 0, 0) := rfl
theorem fX3_type_5 : fetch tX3_type 5 = some (.sipush 255, 3, 0, 0, 255, 0) := rfl
theorem fX3_type_8 : fetch tX3_type 8 = some (.if_icmp .le 6, 3, 14, 0, 0, 0) := rfl
theorem fX3_type_11 : fetch tX3_type 11 = some (.bipush (-3), 2, 0, 0, (-3), 0) := rfl
theorem fX3_type_13 : fetch tX3_type 13 = some (.ireturn, 1, 0, 0, 0, 0) := rfl
theorem fX3_type_14 : fetch tX3_type 14 = some (.aload_n 0, 1, 0, 0, 0, 0) := rfl
theorem fX3_type_15 : fetch tX3_type 15 = some (.getfield 30, 3, 3, 3, 0, 0) := rfl
theorem fX3_type_18 : fetch tX3_type 18 = some (.getfield 191, 3, 2, 1, 0, 0) := rfl
theorem fX3_type_21 : fetch tX3_type 21 = some (.aload_n 0, 1, 0, 0, 0, 0) := rfl
theorem fX3_type_22 : fetch tX3_type 22 = some (.getfield 30, 3, 3, 3, 0, 0) := rfl
theorem fX3_type_25 : fetch tX3_type 25 = some (.getfield 194, 3, 2, 0, 0, 0) := rfl
theorem fX3_type_28 : fetch tX3_type 28 = some (.arraylength, 1, 0, 0, 0, 0) := rfl
theorem fX3_type_29 : fetch tX3_type 29 = some (.if_icmp .lt 6, 3, 35, 0, 0, 0) := rfl
theorem fX3_type_32 : fetch tX3_type 32 = some (.bipush (-5), 2, 0, 0, (-5), 0) := rfl
theorem fX3_type_34 : fetch tX3_type 34 = some (.ireturn, 1, 0, 0, 0, 0) := rfl
theorem fX3_type_35 : fetch tX3_type 35 = some (.aload_n 0, 1, 0, 0, 0, 0) := rfl
theorem fX3_type_36 : fetch tX3_type 36 = some (.getfield 30, 3, 3, 3, 0, 0) := rfl
theorem fX3_type_39 : fetch tX3_type 39 = some (.getfield 194, 3, 2, 0, 0, 0) := rfl
theorem fX3_type_42 : fetch tX3_type 42 = some (.aload_n 0, 1, 0, 0, 0, 0) := rfl
theorem fX3_type_43 : fetch tX3_type 43 = some (.getfield 30, 3, 3, 3, 0, 0) := rfl
theorem fX3_type_46 : fetch tX3_type 46 = some (.getfield 191, 3, 2, 1, 0, 0) := rfl
theorem fX3_type_49 : fetch tX3_type 49 = some (.iload_n 1, 1, 1, 0, 0, 0) := rfl
theorem fX3_type_50 : fetch tX3_type 50 = some (.iastore, 1, 0, 0, 0, 0) := rfl
theorem fX3_type_51 : fetch tX3_type 51 = some (.aload_n 0, 1, 0, 0, 0, 0) := rfl
theorem fX3_type_52 : fetch tX3_type 52 = some (.getfield 30, 3, 3, 3, 0, 0) := rfl
theorem fX3_type_55 : fetch tX3_type 55 = some (.dup, 1, 0, 0, 0, 0) := rfl
theorem fX3_type_56 : fetch tX3_type 56 = some (.getfield 191, 3, 2, 1, 0, 0) := rfl
theorem fX3_type_59 : fetch tX3_type 59 = some (.iconst 1, 1, 0, 0, 1, 0) := rfl
theorem fX3_type_60 : fetch tX3_type 60 = some (.iadd, 1, 0, 0, 0, 0) := rfl
theorem fX3_type_61 : fetch tX3_type 61 = some (.putfield 191, 3, 2, 1, 0, 0) := rfl
theorem fX3_type_64 : fetch tX3_type 64 = some (.aload_n 0, 1, 0, 0, 0, 0) := rfl
theorem fX3_type_65 : fetch tX3_type 65 = some (.getfield 30, 3, 3, 3, 0, 0) := rfl
theorem fX3_type_68 : fetch tX3_type 68 = some (.getfield 191, 3, 2, 1, 0, 0) := rfl
theorem fX3_type_71 : fetch tX3_type 71 = some (.ireturn, 1, 0, 0, 0, 0) := rfl
def tX3_clearText : List (Nat × TE) := [(0, .aload_n 0, 1, 0, 0, 0, 0), (1, .getfield 30, 3, 3, 3, 0, 0), (4, .getfield 191, 3, 2, 1, 0, 0), (7, .istore_n 1, 1, 1, 0, 0, 0), (8, .aload_n 0, 1, 0, 0, 0, 0), (9, .getfield 30, 3, 3, 3, 0, 0), (12, .iconst 0, 1, 0, 0, 0, 0), (13, .putfield 191, 3, 2, 1, 0, 0), (16, .iload_n 1, 1, 1, 0, 0, 0), (17, .ireturn, 1, 0, 0, 0, 0)]
theorem tkX3_clearText : tOk cX3_clearText "RumourSource" 2 tX3_clearText = true := by decide +kernel
theorem fX3_clearText_0 : fetch tX3_clearText 0 = some (.aload_n 0, 1, 0, 0, 0, 0) := rfl
theorem fX3_clearText_1 : fetch tX3_clearText 1 = some (.getfield 30, 3, 3, 3, 0, 0) := rfl
theorem fX3_clearText_4 : fetch tX3_clearText 4 = some (.getfield 191, 3, 2, 1, 0, 0) := rfl
theorem fX3_clearText_7 : fetch tX3_clearText 7 = some (.istore_n 1, 1, 1, 0, 0, 0) := rfl
theorem fX3_clearText_8 : fetch tX3_clearText 8 = some (.aload_n 0, 1, 0, 0, 0, 0) := rfl
theorem fX3_clearText_9 : fetch tX3_clearText 9 = some (.getfield 30, 3, 3, 3, 0, 0) := rfl
theorem fX3_clearText_12 : fetch tX3_clearText 12 = some (.iconst 0, 1, 0, 0, 0, 0) := rfl
theorem fX3_clearText_13 : fetch tX3_clearText 13 = some (.putfield 191, 3, 2, 1, 0, 0) := rfl
theorem fX3_clearText_16 : fetch tX3_clearText 16 = some (.iload_n 1, 1, 1, 0, 0, 0) := rfl
theorem fX3_clearText_17 : fetch tX3_clearText 17 = some (.ireturn, 1, 0, 0, 0, 0) := rfl
def tX3_textFault : List (Nat × TE) := [(0, .aload_n 0, 1, 0, 0, 0, 0), (1, .getfield 30, 3, 3, 3, 0, 0), (4, .aload_n 0, 1, 0, 0, 0, 0), (5, .getfield 12, 3, 3, 0, 0, 0), (8, .invokevirtual 197, 3, 0, 2, 0, 0), (11, .ireturn, 1, 0, 0, 0, 0)]
theorem tkX3_textFault : tOk cX3_textFault "RumourSource" 1 tX3_textFault = true := by decide +kernel
theorem fX3_textFault_0 : fetch tX3_textFault 0 = some (.aload_n 0, 1, 0, 0, 0, 0) := rfl
theorem fX3_textFault_1 : fetch tX3_textFault 1 = some (.getfield 30, 3, 3, 3, 0, 0) := rfl
theorem fX3_textFault_4 : fetch tX3_textFault 4 = some (.aload_n 0, 1, 0, 0, 0, 0) := rfl
theorem fX3_textFault_5 : fetch tX3_textFault 5 = some (.getfield 12, 3, 3, 0, 0, 0) := rfl
theorem fX3_textFault_8 : fetch tX3_textFault 8 = some (.invokevirtual 197, 3, 0, 2, 0, 0) := rfl
theorem fX3_textFault_11 : fetch tX3_textFault 11 = some (.ireturn, 1, 0, 0, 0, 0) := rfl
def tX3_load : List (Nat × TE) := [(0, .aload_n 0, 1, 0, 0, 0, 0), (1, .getfield 30, 3, 3, 3, 0, 0), (4, .aload_n 0, 1, 0, 0, 0, 0), (5, .getfield 12, 3, 3, 0, 0, 0), (8, .invokevirtual 197, 3, 0, 2, 0, 0), (11, .iconst (-1), 1, 0, 0, (-1), 0), (12, .if_icmp .eq 6, 3, 18, 0, 0, 0), (15, .bipush (-4), 2, 0, 0, (-4), 0), (17, .ireturn, 1, 0, 0, 0, 0), (18, .aload_n 0, 1, 0, 0, 0, 0), (19, .invokevirtual 60, 3, 1, 3, 0, 0), (22, .aload_n 0, 1, 0, 0, 0, 0), (23, .getfield 12, 3, 3, 0, 0, 0), (26, .aload_n 0, 1, 0, 0, 0, 0), (27, .getfield 30, 3, 3, 3, 0, 0), (30, .getfield 201, 3, 2, 2, 0, 0), (33, .invokevirtual 188, 3, 2, 0, 0, 0), (36, .aload_n 0, 1, 0, 0, 0, 0), (37, .getfield 12, 3, 3, 0, 0, 0), (40, .getfield 81, 3, 0, 4, 0, 0), (43, .ireturn, 1, 0, 0, 0, 0)]
theorem tkX3_load : tOk cX3_load "RumourSource" 1 tX3_load = true := by decide +kernel
theorem fX3_load_0 : fetch tX3_load 0 = some (.aload_n 0, 1, 0, 0, 0, 0) := rfl
theorem fX3_load_1 : fetch tX3_load 1 = some (.getfield 30, 3, 3, 3, 0, 0) := rfl
theorem fX3_load_4 : fetch tX3_load 4 = some (.aload_n 0, 1, 0, 0, 0, 0) := rfl
theorem fX3_load_5 : fetch tX3_load 5 = some (.getfield 12, 3, 3, 0, 0, 0) := rfl
theorem fX3_load_8 : fetch tX3_load 8 = some (.invokevirtual 197, 3, 0, 2, 0, 0) := rfl
theorem fX3_load_11 : fetch tX3_load 11 = some (.iconst (-1), 1, 0, 0, (-1), 0) := rfl
theorem fX3_load_12 : fetch tX3_load 12 = some (.if_icmp .eq 6, 3, 18, 0, 0, 0) := rfl
theorem fX3_load_15 : fetch tX3_load 15 = some (.bipush (-4), 2, 0, 0, (-4), 0) := rfl
theorem fX3_load_17 : fetch tX3_load 17 = some (.ireturn, 1, 0, 0, 0, 0) := rfl
theorem fX3_load_18 : fetch tX3_load 18 = some (.aload_n 0, 1, 0, 0, 0, 0) := rfl
theorem fX3_load_19 : fetch tX3_load 19 = some (.invokevirtual 60, 3, 1, 3, 0, 0) := rfl
theorem fX3_load_22 : fetch tX3_load 22 = some (.aload_n 0, 1, 0, 0, 0, 0) := rfl
theorem fX3_load_23 : fetch tX3_load 23 = some (.getfield 12, 3, 3, 0, 0, 0) := rfl
theorem fX3_load_26 : fetch tX3_load 26 = some (.aload_n 0, 1, 0, 0, 0, 0) := rfl
theorem fX3_load_27 : fetch tX3_load 27 = some (.getfield 30, 3, 3, 3, 0, 0) := rfl
theorem fX3_load_30 : fetch tX3_load 30 = some (.getfield 201, 3, 2, 2, 0, 0) := rfl
theorem fX3_load_33 : fetch tX3_load 33 = some (.invokevirtual 188, 3, 2, 0, 0, 0) := rfl
theorem fX3_load_36 : fetch tX3_load 36 = some (.aload_n 0, 1, 0, 0, 0, 0) := rfl
theorem fX3_load_37 : fetch tX3_load 37 = some (.getfield 12, 3, 3, 0, 0, 0) := rfl
theorem fX3_load_40 : fetch tX3_load 40 = some (.getfield 81, 3, 0, 4, 0, 0) := rfl
theorem fX3_load_43 : fetch tX3_load 43 = some (.ireturn, 1, 0, 0, 0, 0) := rfl
def tX3_digest : List (Nat × TE) := [(0, .ldc2_w 204, 3, 0, 0, 0, 527), (3, .aload_n 0, 1, 0, 0, 0, 0), (4, .getfield 12, 3, 3, 0, 0, 0), (7, .getfield 81, 3, 0, 4, 0, 0), (10, .i2l, 1, 0, 0, 0, 0), (11, .ladd, 1, 0, 0, 0, 0), (12, .lstore_n 1, 1, 1, 0, 0, 0), (13, .iconst 0, 1, 0, 0, 0, 0), (14, .istore_n 3, 1, 3, 0, 0, 0), (15, .iload_n 3, 1, 3, 0, 0, 0), (16, .aload_n 0, 1, 0, 0, 0, 0), (17, .getfield 12, 3, 3, 0, 0, 0), (20, .getfield 81, 3, 0, 4, 0, 0), (23, .if_icmp .ge 77, 3, 100, 0, 0, 0), (26, .ldc2_w 206, 3, 0, 0, 0, 31), (29, .lload_n 1, 1, 1, 0, 0, 0), (30, .lmul, 1, 0, 0, 0, 0), (31, .aload_n 0, 1, 0, 0, 0, 0), (32, .getfield 12, 3, 3, 0, 0, 0), (35, .getfield 84, 3, 0, 0, 0, 0), (38, .iload_n 3, 1, 3, 0, 0, 0), (39, .iaload, 1, 0, 0, 0, 0), (40, .i2l, 1, 0, 0, 0, 0), (41, .ladd, 1, 0, 0, 0, 0), (42, .lstore_n 1, 1, 1, 0, 0, 0), (43, .ldc2_w 206, 3, 0, 0, 0, 31), (46, .lload_n 1, 1, 1, 0, 0, 0), (47, .lmul, 1, 0, 0, 0, 0), (48, .aload_n 0, 1, 0, 0, 0, 0), (49, .getfield 12, 3, 3, 0, 0, 0), (52, .getfield 87, 3, 0, 1, 0, 0), (55, .iload_n 3, 1, 3, 0, 0, 0), (56, .iaload, 1, 0, 0, 0, 0), (57, .i2l, 1, 0, 0, 0, 0), (58, .ladd, 1, 0, 0, 0, 0), (59, .lstore_n 1, 1, 1, 0, 0, 0), (60, .ldc2_w 206, 3, 0, 0, 0, 31), (63, .lload_n 1, 1, 1, 0, 0, 0), (64, .lmul, 1, 0, 0, 0, 0), (65, .aload_n 0, 1, 0, 0, 0, 0), (66, .getfield 12, 3, 3, 0, 0, 0), (69, .getfield 70, 3, 0, 2, 0, 0), (72, .iload_n 3, 1, 3, 0, 0, 0), (73, .iaload, 1, 0, 0, 0, 0), (74, .i2l, 1, 0, 0, 0, 0), (75, .ladd, 1, 0, 0, 0, 0), (76, .lstore_n 1, 1, 1, 0, 0, 0), (77, .ldc2_w 206, 3, 0, 0, 0, 31), (80, .lload_n 1, 1, 1, 0, 0, 0), (81, .lmul, 1, 0, 0, 0, 0), (82, .aload_n 0, 1, 0, 0, 0, 0), (83, .getfield 12, 3, 3, 0, 0, 0), (86, .getfield 74, 3, 0, 3, 0, 0), (89, .iload_n 3, 1, 3, 0, 0, 0), (90, .iaload, 1, 0, 0, 0, 0), (91, .i2l, 1, 0, 0, 0, 0), (92, .ladd, 1, 0, 0, 0, 0), (93, .lstore_n 1, 1, 1, 0, 0, 0), (94, .iinc 3 1, 3, 3, 0, 1, 0), (97, .goto (-82), 3, 15, 0, 0, 0), (100, .ldc2_w 206, 3, 0, 0, 0, 31), (103, .lload_n 1, 1, 1, 0, 0, 0), (104, .lmul, 1, 0, 0, 0, 0), (105, .aload_n 0, 1, 0, 0, 0, 0), (106, .getfield 12, 3, 3, 0, 0, 0), (109, .getfield 93, 3, 0, 5, 0, 0), (112, .i2l, 1, 0, 0, 0, 0), (113, .ladd, 1, 0, 0, 0, 0), (114, .lstore_n 1, 1, 1, 0, 0, 0), (115, .iconst 0, 1, 0, 0, 0, 0), (116, .istore_n 3, 1, 3, 0, 0, 0), (117, .iload_n 3, 1, 3, 0, 0, 0), (118, .bipush 8, 2, 0, 0, 8, 0), (120, .if_icmp .ge 26, 3, 146, 0, 0, 0), (123, .ldc2_w 206, 3, 0, 0, 0, 31), (126, .lload_n 1, 1, 1, 0, 0, 0), (127, .lmul, 1, 0, 0, 0, 0), (128, .aload_n 0, 1, 0, 0, 0, 0), (129, .getfield 12, 3, 3, 0, 0, 0), (132, .getfield 102, 3, 0, 6, 0, 0), (135, .iload_n 3, 1, 3, 0, 0, 0), (136, .iaload, 1, 0, 0, 0, 0), (137, .i2l, 1, 0, 0, 0, 0), (138, .ladd, 1, 0, 0, 0, 0), (139, .lstore_n 1, 1, 1, 0, 0, 0), (140, .iinc 3 1, 3, 3, 0, 1, 0), (143, .goto (-26), 3, 117, 0, 0, 0), (146, .ldc2_w 206, 3, 0, 0, 0, 31), (149, .lload_n 1, 1, 1, 0, 0, 0), (150, .lmul, 1, 0, 0, 0, 0), (151, .aload_n 0, 1, 0, 0, 0, 0), (152, .getfield 12, 3, 3, 0, 0, 0), (155, .getfield 105, 3, 0, 7, 0, 0), (158, .i2l, 1, 0, 0, 0, 0), (159, .ladd, 1, 0, 0, 0, 0), (160, .lreturn, 1, 0, 0, 0, 0)]
theorem tkX3_digest : tOk cX3_digest "RumourSource" 4 tX3_digest = true := by decide +kernel
theorem fX3_digest_0 : fetch tX3_digest 0 = some (.ldc2_w 204, 3, 0, 0, 0, 527) := rfl
theorem fX3_digest_3 : fetch tX3_digest 3 = some (.aload_n 0, 1, 0, 0, 0, 0) := rfl
theorem fX3_digest_4 : fetch tX3_digest 4 = some (.getfield 12, 3, 3, 0, 0, 0) := rfl
theorem fX3_digest_7 : fetch tX3_digest 7 = some (.getfield 81, 3, 0, 4, 0, 0) := rfl
theorem fX3_digest_10 : fetch tX3_digest 10 = some (.i2l, 1, 0, 0, 0, 0) := rfl
theorem fX3_digest_11 : fetch tX3_digest 11 = some (.ladd, 1, 0, 0, 0, 0) := rfl
theorem fX3_digest_12 : fetch tX3_digest 12 = some (.lstore_n 1, 1, 1, 0, 0, 0) := rfl
theorem fX3_digest_13 : fetch tX3_digest 13 = some (.iconst 0, 1, 0, 0, 0, 0) := rfl
theorem fX3_digest_14 : fetch tX3_digest 14 = some (.istore_n 3, 1, 3, 0, 0, 0) := rfl
theorem fX3_digest_15 : fetch tX3_digest 15 = some (.iload_n 3, 1, 3, 0, 0, 0) := rfl
theorem fX3_digest_16 : fetch tX3_digest 16 = some (.aload_n 0, 1, 0, 0, 0, 0) := rfl
theorem fX3_digest_17 : fetch tX3_digest 17 = some (.getfield 12, 3, 3, 0, 0, 0) := rfl
theorem fX3_digest_20 : fetch tX3_digest 20 = some (.getfield 81, 3, 0, 4, 0, 0) := rfl
theorem fX3_digest_23 : fetch tX3_digest 23 = some (.if_icmp .ge 77, 3, 100, 0, 0, 0) := rfl
theorem fX3_digest_26 : fetch tX3_digest 26 = some (.ldc2_w 206, 3, 0, 0, 0, 31) := rfl
theorem fX3_digest_29 : fetch tX3_digest 29 = some (.lload_n 1, 1, 1, 0, 0, 0) := rfl
theorem fX3_digest_30 : fetch tX3_digest 30 = some (.lmul, 1, 0, 0, 0, 0) := rfl
theorem fX3_digest_31 : fetch tX3_digest 31 = some (.aload_n 0, 1, 0, 0, 0, 0) := rfl
theorem fX3_digest_32 : fetch tX3_digest 32 = some (.getfield 12, 3, 3, 0, 0, 0) := rfl
theorem fX3_digest_35 : fetch tX3_digest 35 = some (.getfield 84, 3, 0, 0, 0, 0) := rfl
theorem fX3_digest_38 : fetch tX3_digest 38 = some (.iload_n 3, 1, 3, 0, 0, 0) := rfl
theorem fX3_digest_39 : fetch tX3_digest 39 = some (.iaload, 1, 0, 0, 0, 0) := rfl
theorem fX3_digest_40 : fetch tX3_digest 40 = some (.i2l, 1, 0, 0, 0, 0) := rfl
theorem fX3_digest_41 : fetch tX3_digest 41 = some (.ladd, 1, 0, 0, 0, 0) := rfl
theorem fX3_digest_42 : fetch tX3_digest 42 = some (.lstore_n 1, 1, 1, 0, 0, 0) := rfl
theorem fX3_digest_43 : fetch tX3_digest 43 = some (.ldc2_w 206, 3, 0, 0, 0, 31) := rfl
theorem fX3_digest_46 : fetch tX3_digest 46 = some (.lload_n 1, 1, 1, 0, 0, 0) := rfl
theorem fX3_digest_47 : fetch tX3_digest 47 = some (.lmul, 1, 0, 0, 0, 0) := rfl
theorem fX3_digest_48 : fetch tX3_digest 48 = some (.aload_n 0, 1, 0, 0, 0, 0) := rfl
theorem fX3_digest_49 : fetch tX3_digest 49 = some (.getfield 12, 3, 3, 0, 0, 0) := rfl
theorem fX3_digest_52 : fetch tX3_digest 52 = some (.getfield 87, 3, 0, 1, 0, 0) := rfl
theorem fX3_digest_55 : fetch tX3_digest 55 = some (.iload_n 3, 1, 3, 0, 0, 0) := rfl
theorem fX3_digest_56 : fetch tX3_digest 56 = some (.iaload, 1, 0, 0, 0, 0) := rfl
theorem fX3_digest_57 : fetch tX3_digest 57 = some (.i2l, 1, 0, 0, 0, 0) := rfl
theorem fX3_digest_58 : fetch tX3_digest 58 = some (.ladd, 1, 0, 0, 0, 0) := rfl
theorem fX3_digest_59 : fetch tX3_digest 59 = some (.lstore_n 1, 1, 1, 0, 0, 0) := rfl
theorem fX3_digest_60 : fetch tX3_digest 60 = some (.ldc2_w 206, 3, 0, 0, 0, 31) := rfl
theorem fX3_digest_63 : fetch tX3_digest 63 = some (.lload_n 1, 1, 1, 0, 0, 0) := rfl
theorem fX3_digest_64 : fetch tX3_digest 64 = some (.lmul, 1, 0, 0, 0, 0) := rfl
theorem fX3_digest_65 : fetch tX3_digest 65 = some (.aload_n 0, 1, 0, 0, 0, 0) := rfl
theorem fX3_digest_66 : fetch tX3_digest 66 = some (.getfield 12, 3, 3, 0, 0, 0) := rfl
theorem fX3_digest_69 : fetch tX3_digest 69 = some (.getfield 70, 3, 0, 2, 0, 0) := rfl
theorem fX3_digest_72 : fetch tX3_digest 72 = some (.iload_n 3, 1, 3, 0, 0, 0) := rfl
theorem fX3_digest_73 : fetch tX3_digest 73 = some (.iaload, 1, 0, 0, 0, 0) := rfl
theorem fX3_digest_74 : fetch tX3_digest 74 = some (.i2l, 1, 0, 0, 0, 0) := rfl
theorem fX3_digest_75 : fetch tX3_digest 75 = some (.ladd, 1, 0, 0, 0, 0) := rfl
theorem fX3_digest_76 : fetch tX3_digest 76 = some (.lstore_n 1, 1, 1, 0, 0, 0) := rfl
theorem fX3_digest_77 : fetch tX3_digest 77 = some (.ldc2_w 206, 3, 0, 0, 0, 31) := rfl
theorem fX3_digest_80 : fetch tX3_digest 80 = some (.lload_n 1, 1, 1, 0, 0, 0) := rfl
theorem fX3_digest_81 : fetch tX3_digest 81 = some (.lmul, 1, 0, 0, 0, 0) := rfl
theorem fX3_digest_82 : fetch tX3_digest 82 = some (.aload_n 0, 1, 0, 0, 0, 0) := rfl
theorem fX3_digest_83 : fetch tX3_digest 83 = some (.getfield 12, 3, 3, 0, 0, 0) := rfl
theorem fX3_digest_86 : fetch tX3_digest 86 = some (.getfield 74, 3, 0, 3, 0, 0) := rfl
theorem fX3_digest_89 : fetch tX3_digest 89 = some (.iload_n 3, 1, 3, 0, 0, 0) := rfl
theorem fX3_digest_90 : fetch tX3_digest 90 = some (.iaload, 1, 0, 0, 0, 0) := rfl
theorem fX3_digest_91 : fetch tX3_digest 91 = some (.i2l, 1, 0, 0, 0, 0) := rfl
theorem fX3_digest_92 : fetch tX3_digest 92 = some (.ladd, 1, 0, 0, 0, 0) := rfl
theorem fX3_digest_93 : fetch tX3_digest 93 = some (.lstore_n 1, 1, 1, 0, 0, 0) := rfl
theorem fX3_digest_94 : fetch tX3_digest 94 = some (.iinc 3 1, 3, 3, 0, 1, 0) := rfl
theorem fX3_digest_97 : fetch tX3_digest 97 = some (.goto (-82), 3, 15, 0, 0, 0) := rfl
theorem fX3_digest_100 : fetch tX3_digest 100 = some (.ldc2_w 206, 3, 0, 0, 0, 31) := rfl
theorem fX3_digest_103 : fetch tX3_digest 103 = some (.lload_n 1, 1, 1, 0, 0, 0) := rfl
theorem fX3_digest_104 : fetch tX3_digest 104 = some (.lmul, 1, 0, 0, 0, 0) := rfl
theorem fX3_digest_105 : fetch tX3_digest 105 = some (.aload_n 0, 1, 0, 0, 0, 0) := rfl
theorem fX3_digest_106 : fetch tX3_digest 106 = some (.getfield 12, 3, 3, 0, 0, 0) := rfl
theorem fX3_digest_109 : fetch tX3_digest 109 = some (.getfield 93, 3, 0, 5, 0, 0) := rfl
theorem fX3_digest_112 : fetch tX3_digest 112 = some (.i2l, 1, 0, 0, 0, 0) := rfl
theorem fX3_digest_113 : fetch tX3_digest 113 = some (.ladd, 1, 0, 0, 0, 0) := rfl
theorem fX3_digest_114 : fetch tX3_digest 114 = some (.lstore_n 1, 1, 1, 0, 0, 0) := rfl
theorem fX3_digest_115 : fetch tX3_digest 115 = some (.iconst 0, 1, 0, 0, 0, 0) := rfl
theorem fX3_digest_116 : fetch tX3_digest 116 = some (.istore_n 3, 1, 3, 0, 0, 0) := rfl
theorem fX3_digest_117 : fetch tX3_digest 117 = some (.iload_n 3, 1, 3, 0, 0, 0) := rfl
theorem fX3_digest_118 : fetch tX3_digest 118 = some (.bipush 8, 2, 0, 0, 8, 0) := rfl
theorem fX3_digest_120 : fetch tX3_digest 120 = some (.if_icmp .ge 26, 3, 146, 0, 0, 0) := rfl
theorem fX3_digest_123 : fetch tX3_digest 123 = some (.ldc2_w 206, 3, 0, 0, 0, 31) := rfl
theorem fX3_digest_126 : fetch tX3_digest 126 = some (.lload_n 1, 1, 1, 0, 0, 0) := rfl
theorem fX3_digest_127 : fetch tX3_digest 127 = some (.lmul, 1, 0, 0, 0, 0) := rfl
theorem fX3_digest_128 : fetch tX3_digest 128 = some (.aload_n 0, 1, 0, 0, 0, 0) := rfl
theorem fX3_digest_129 : fetch tX3_digest 129 = some (.getfield 12, 3, 3, 0, 0, 0) := rfl
theorem fX3_digest_132 : fetch tX3_digest 132 = some (.getfield 102, 3, 0, 6, 0, 0) := rfl
theorem fX3_digest_135 : fetch tX3_digest 135 = some (.iload_n 3, 1, 3, 0, 0, 0) := rfl
theorem fX3_digest_136 : fetch tX3_digest 136 = some (.iaload, 1, 0, 0, 0, 0) := rfl
theorem fX3_digest_137 : fetch tX3_digest 137 = some (.i2l, 1, 0, 0, 0, 0) := rfl
theorem fX3_digest_138 : fetch tX3_digest 138 = some (.ladd, 1, 0, 0, 0, 0) := rfl
theorem fX3_digest_139 : fetch tX3_digest 139 = some (.lstore_n 1, 1, 1, 0, 0, 0) := rfl
theorem fX3_digest_140 : fetch tX3_digest 140 = some (.iinc 3 1, 3, 3, 0, 1, 0) := rfl
theorem fX3_digest_143 : fetch tX3_digest 143 = some (.goto (-26), 3, 117, 0, 0, 0) := rfl
theorem fX3_digest_146 : fetch tX3_digest 146 = some (.ldc2_w 206, 3, 0, 0, 0, 31) := rfl
theorem fX3_digest_149 : fetch tX3_digest 149 = some (.lload_n 1, 1, 1, 0, 0, 0) := rfl
theorem fX3_digest_150 : fetch tX3_digest 150 = some (.lmul, 1, 0, 0, 0, 0) := rfl
theorem fX3_digest_151 : fetch tX3_digest 151 = some (.aload_n 0, 1, 0, 0, 0, 0) := rfl
theorem fX3_digest_152 : fetch tX3_digest 152 = some (.getfield 12, 3, 3, 0, 0, 0) := rfl
theorem fX3_digest_155 : fetch tX3_digest 155 = some (.getfield 105, 3, 0, 7, 0, 0) := rfl
theorem fX3_digest_158 : fetch tX3_digest 158 = some (.i2l, 1, 0, 0, 0, 0) := rfl
theorem fX3_digest_159 : fetch tX3_digest 159 = some (.ladd, 1, 0, 0, 0, 0) := rfl
theorem fX3_digest_160 : fetch tX3_digest 160 = some (.lreturn, 1, 0, 0, 0, 0) := rfl
def tX3_isNode : List (Nat × TE) := [(0, .iload_n 0, 1, 0, 0, 0, 0), (1, .ifCond .lt 13, 3, 14, 0, 0, 0), (4, .iload_n 0, 1, 0, 0, 0, 0), (5, .bipush 8, 2, 0, 0, 8, 0), (7, .if_icmp .ge 7, 3, 14, 0, 0, 0), (10, .iconst 1, 1, 0, 0, 1, 0), (11, .goto 4, 3, 15, 0, 0, 0), (14, .iconst 0, 1, 0, 0, 0, 0), (15, .ireturn, 1, 0, 0, 0, 0)]
theorem tkX3_isNode : tOk cX3_isNode "RumourSource" 1 tX3_isNode = true := by decide +kernel
theorem fX3_isNode_0 : fetch tX3_isNode 0 = some (.iload_n 0, 1, 0, 0, 0, 0) := rfl
theorem fX3_isNode_1 : fetch tX3_isNode 1 = some (.ifCond .lt 13, 3, 14, 0, 0, 0) := rfl
theorem fX3_isNode_4 : fetch tX3_isNode 4 = some (.iload_n 0, 1, 0, 0, 0, 0) := rfl
theorem fX3_isNode_5 : fetch tX3_isNode 5 = some (.bipush 8, 2, 0, 0, 8, 0) := rfl
theorem fX3_isNode_7 : fetch tX3_isNode 7 = some (.if_icmp .ge 7, 3, 14, 0, 0, 0) := rfl
theorem fX3_isNode_10 : fetch tX3_isNode 10 = some (.iconst 1, 1, 0, 0, 1, 0) := rfl
theorem fX3_isNode_11 : fetch tX3_isNode 11 = some (.goto 4, 3, 15, 0, 0, 0) := rfl
theorem fX3_isNode_14 : fetch tX3_isNode 14 = some (.iconst 0, 1, 0, 0, 0, 0) := rfl
theorem fX3_isNode_15 : fetch tX3_isNode 15 = some (.ireturn, 1, 0, 0, 0, 0) := rfl
def tX3_isTrust : List (Nat × TE) := [(0, .iload_n 0, 1, 0, 0, 0, 0), (1, .ifCond .lt 13, 3, 14, 0, 0, 0), (4, .iload_n 0, 1, 0, 0, 0, 0), (5, .bipush 10, 2, 0, 0, 10, 0), (7, .if_icmp .gt 7, 3, 14, 0, 0, 0), (10, .iconst 1, 1, 0, 0, 1, 0), (11, .goto 4, 3, 15, 0, 0, 0), (14, .iconst 0, 1, 0, 0, 0, 0), (15, .ireturn, 1, 0, 0, 0, 0)]
theorem tkX3_isTrust : tOk cX3_isTrust "RumourSource" 1 tX3_isTrust = true := by decide +kernel
theorem fX3_isTrust_0 : fetch tX3_isTrust 0 = some (.iload_n 0, 1, 0, 0, 0, 0) := rfl
theorem fX3_isTrust_1 : fetch tX3_isTrust 1 = some (.ifCond .lt 13, 3, 14, 0, 0, 0) := rfl
theorem fX3_isTrust_4 : fetch tX3_isTrust 4 = some (.iload_n 0, 1, 0, 0, 0, 0) := rfl
theorem fX3_isTrust_5 : fetch tX3_isTrust 5 = some (.bipush 10, 2, 0, 0, 10, 0) := rfl
theorem fX3_isTrust_7 : fetch tX3_isTrust 7 = some (.if_icmp .gt 7, 3, 14, 0, 0, 0) := rfl
theorem fX3_isTrust_10 : fetch tX3_isTrust 10 = some (.iconst 1, 1, 0, 0, 1, 0) := rfl
theorem fX3_isTrust_11 : fetch tX3_isTrust 11 = some (.goto 4, 3, 15, 0, 0, 0) := rfl
theorem fX3_isTrust_14 : fetch tX3_isTrust 14 = some (.iconst 0, 1, 0, 0, 0, 0) := rfl
theorem fX3_isTrust_15 : fetch tX3_isTrust 15 = some (.ireturn, 1, 0, 0, 0, 0) := rfl
def tX3_isDelay : List (Nat × TE) := [(0, .iload_n 0, 1, 0, 0, 0, 0), (1, .iconst 1, 1, 0, 0, 1, 0), (2, .if_icmp .lt 12, 3, 14, 0, 0, 0), (5, .iload_n 0, 1, 0, 0, 0, 0), (6, .iconst 5, 1, 0, 0, 5, 0), (7, .if_icmp .gt 7, 3, 14, 0, 0, 0), (10, .iconst 1, 1, 0, 0, 1, 0), (11, .goto 4, 3, 15, 0, 0, 0), (14, .iconst 0, 1, 0, 0, 0, 0), (15, .ireturn, 1, 0, 0, 0, 0)]
theorem tkX3_isDelay : tOk cX3_isDelay "RumourSource" 1 tX3_isDelay = true := by decide +kernel
theorem fX3_isDelay_0 : fetch tX3_isDelay 0 = some (.iload_n 0, 1, 0, 0, 0, 0) := rfl
theorem fX3_isDelay_1 : fetch tX3_isDelay 1 = some (.iconst 1, 1, 0, 0, 1, 0) := rfl
theorem fX3_isDelay_2 : fetch tX3_isDelay 2 = some (.if_icmp .lt 12, 3, 14, 0, 0, 0) := rfl
theorem fX3_isDelay_5 : fetch tX3_isDelay 5 = some (.iload_n 0, 1, 0, 0, 0, 0) := rfl
theorem fX3_isDelay_6 : fetch tX3_isDelay 6 = some (.iconst 5, 1, 0, 0, 5, 0) := rfl
theorem fX3_isDelay_7 : fetch tX3_isDelay 7 = some (.if_icmp .gt 7, 3, 14, 0, 0, 0) := rfl
theorem fX3_isDelay_10 : fetch tX3_isDelay 10 = some (.iconst 1, 1, 0, 0, 1, 0) := rfl
theorem fX3_isDelay_11 : fetch tX3_isDelay 11 = some (.goto 4, 3, 15, 0, 0, 0) := rfl
theorem fX3_isDelay_14 : fetch tX3_isDelay 14 = some (.iconst 0, 1, 0, 0, 0, 0) := rfl
theorem fX3_isDelay_15 : fetch tX3_isDelay 15 = some (.ireturn, 1, 0, 0, 0, 0) := rfl
def tX3_isTime : List (Nat × TE) := [(0, .iload_n 0, 1, 0, 0, 0, 0), (1, .ifCond .lt 13, 3, 14, 0, 0, 0), (4, .iload_n 0, 1, 0, 0, 0, 0), (5, .bipush 30, 2, 0, 0, 30, 0), (7, .if_icmp .gt 7, 3, 14, 0, 0, 0), (10, .iconst 1, 1, 0, 0, 1, 0), (11, .goto 4, 3, 15, 0, 0, 0), (14, .iconst 0, 1, 0, 0, 0, 0), (15, .ireturn, 1, 0, 0, 0, 0)]
theorem tkX3_isTime : tOk cX3_isTime "RumourSource" 1 tX3_isTime = true := by decide +kernel
theorem fX3_isTime_0 : fetch tX3_isTime 0 = some (.iload_n 0, 1, 0, 0, 0, 0) := rfl
theorem fX3_isTime_1 : fetch tX3_isTime 1 = some (.ifCond .lt 13, 3, 14, 0, 0, 0) := rfl
theorem fX3_isTime_4 : fetch tX3_isTime 4 = some (.iload_n 0, 1, 0, 0, 0, 0) := rfl
theorem fX3_isTime_5 : fetch tX3_isTime 5 = some (.bipush 30, 2, 0, 0, 30, 0) := rfl
theorem fX3_isTime_7 : fetch tX3_isTime 7 = some (.if_icmp .gt 7, 3, 14, 0, 0, 0) := rfl
theorem fX3_isTime_10 : fetch tX3_isTime 10 = some (.iconst 1, 1, 0, 0, 1, 0) := rfl
theorem fX3_isTime_11 : fetch tX3_isTime 11 = some (.goto 4, 3, 15, 0, 0, 0) := rfl
theorem fX3_isTime_14 : fetch tX3_isTime 14 = some (.iconst 0, 1, 0, 0, 0, 0) := rfl
theorem fX3_isTime_15 : fetch tX3_isTime 15 = some (.ireturn, 1, 0, 0, 0, 0) := rfl
def tX3_isTimeOrNone : List (Nat × TE) := [(0, .iload_n 0, 1, 0, 0, 0, 0), (1, .iconst (-1), 1, 0, 0, (-1), 0), (2, .if_icmp .eq 10, 3, 12, 0, 0, 0), (5, .iload_n 0, 1, 0, 0, 0, 0), (6, .invokestatic 90, 3, 0, 3, 0, 0), (9, .ifCond .eq 7, 3, 16, 0, 0, 0), (12, .iconst 1, 1, 0, 0, 1, 0), (13, .goto 4, 3, 17, 0, 0, 0), (16, .iconst 0, 1, 0, 0, 0, 0), (17, .ireturn, 1, 0, 0, 0, 0)]
theorem tkX3_isTimeOrNone : tOk cX3_isTimeOrNone "RumourSource" 1 tX3_isTimeOrNone = true := by decide +kernel
theorem fX3_isTimeOrNone_0 : fetch tX3_isTimeOrNone 0 = some (.iload_n 0, 1, 0, 0, 0, 0) := rfl
theorem fX3_isTimeOrNone_1 : fetch tX3_isTimeOrNone 1 = some (.iconst (-1), 1, 0, 0, (-1), 0) := rfl
theorem fX3_isTimeOrNone_2 : fetch tX3_isTimeOrNone 2 = some (.if_icmp .eq 10, 3, 12, 0, 0, 0) := rfl
theorem fX3_isTimeOrNone_5 : fetch tX3_isTimeOrNone 5 = some (.iload_n 0, 1, 0, 0, 0, 0) := rfl
theorem fX3_isTimeOrNone_6 : fetch tX3_isTimeOrNone 6 = some (.invokestatic 90, 3, 0, 3, 0, 0) := rfl
theorem fX3_isTimeOrNone_9 : fetch tX3_isTimeOrNone 9 = some (.ifCond .eq 7, 3, 16, 0, 0, 0) := rfl
theorem fX3_isTimeOrNone_12 : fetch tX3_isTimeOrNone 12 = some (.iconst 1, 1, 0, 0, 1, 0) := rfl
theorem fX3_isTimeOrNone_13 : fetch tX3_isTimeOrNone 13 = some (.goto 4, 3, 17, 0, 0, 0) := rfl
theorem fX3_isTimeOrNone_16 : fetch tX3_isTimeOrNone 16 = some (.iconst 0, 1, 0, 0, 0, 0) := rfl
theorem fX3_isTimeOrNone_17 : fetch tX3_isTimeOrNone 17 = some (.ireturn, 1, 0, 0, 0, 0) := rfl
def tX3_isStart : List (Nat × TE) := [(0, .iload_n 0, 1, 0, 0, 0, 0), (1, .iconst 1, 1, 0, 0, 1, 0), (2, .if_icmp .lt 14, 3, 16, 0, 0, 0), (5, .iload_n 0, 1, 0, 0, 0, 0), (6, .sipush 255, 3, 0, 0, 255, 0), (9, .if_icmp .gt 7, 3, 16, 0, 0, 0), (12, .iconst 1, 1, 0, 0, 1, 0), (13, .goto 4, 3, 17, 0, 0, 0), (16, .iconst 0, 1, 0, 0, 0, 0), (17, .ireturn, 1, 0, 0, 0, 0)]
theorem tkX3_isStart : tOk cX3_isStart "RumourSource" 1 tX3_isStart = true := by decide +kernel
theorem fX3_isStart_0 : fetch tX3_isStart 0 = some (.iload_n 0, 1, 0, 0, 0, 0) := rfl
theorem fX3_isStart_1 : fetch tX3_isStart 1 = some (.iconst 1, 1, 0, 0, 1, 0) := rfl
theorem fX3_isStart_2 : fetch tX3_isStart 2 = some (.if_icmp .lt 14, 3, 16, 0, 0, 0) := rfl
theorem fX3_isStart_5 : fetch tX3_isStart 5 = some (.iload_n 0, 1, 0, 0, 0, 0) := rfl
theorem fX3_isStart_6 : fetch tX3_isStart 6 = some (.sipush 255, 3, 0, 0, 255, 0) := rfl
theorem fX3_isStart_9 : fetch tX3_isStart 9 = some (.if_icmp .gt 7, 3, 16, 0, 0, 0) := rfl
theorem fX3_isStart_12 : fetch tX3_isStart 12 = some (.iconst 1, 1, 0, 0, 1, 0) := rfl
theorem fX3_isStart_13 : fetch tX3_isStart 13 = some (.goto 4, 3, 17, 0, 0, 0) := rfl
theorem fX3_isStart_16 : fetch tX3_isStart 16 = some (.iconst 0, 1, 0, 0, 0, 0) := rfl
theorem fX3_isStart_17 : fetch tX3_isStart 17 = some (.ireturn, 1, 0, 0, 0, 0) := rfl
def tX3_isOutcome : List (Nat × TE) := [(0, .iload_n 1, 1, 1, 0, 0, 0), (1, .ifCond .lt 20, 3, 21, 0, 0, 0), (4, .iload_n 1, 1, 1, 0, 0, 0), (5, .iconst 1, 1, 0, 0, 1, 0), (6, .aload_n 0, 1, 0, 0, 0, 0), (7, .getfield 12, 3, 3, 0, 0, 0), (10, .getfield 81, 3, 0, 4, 0, 0), (13, .ishl, 1, 0, 0, 0, 0), (14, .if_icmp .ge 7, 3, 21, 0, 0, 0), (17, .iconst 1, 1, 0, 0, 1, 0), (18, .goto 4, 3, 22, 0, 0, 0), (21, .iconst 0, 1, 0, 0, 0, 0), (22, .ireturn, 1, 0, 0, 0, 0)]
theorem tkX3_isOutcome : tOk cX3_isOutcome "RumourSource" 2 tX3_isOutcome = true := by decide +kernel
theorem fX3_isOutcome_0 : fetch tX3_isOutcome 0 = some (.iload_n 1, 1, 1, 0, 0, 0) := rfl
theorem fX3_isOutcome_1 : fetch tX3_isOutcome 1 = some (.ifCond .lt 20, 3, 21, 0, 0, 0) := rfl
theorem fX3_isOutcome_4 : fetch tX3_isOutcome 4 = some (.iload_n 1, 1, 1, 0, 0, 0) := rfl
theorem fX3_isOutcome_5 : fetch tX3_isOutcome 5 = some (.iconst 1, 1, 0, 0, 1, 0) := rfl
theorem fX3_isOutcome_6 : fetch tX3_isOutcome 6 = some (.aload_n 0, 1, 0, 0, 0, 0) := rfl
theorem fX3_isOutcome_7 : fetch tX3_isOutcome 7 = some (.getfield 12, 3, 3, 0, 0, 0) := rfl
theorem fX3_isOutcome_10 : fetch tX3_isOutcome 10 = some (.getfield 81, 3, 0, 4, 0, 0) := rfl
theorem fX3_isOutcome_13 : fetch tX3_isOutcome 13 = some (.ishl, 1, 0, 0, 0, 0) := rfl
theorem fX3_isOutcome_14 : fetch tX3_isOutcome 14 = some (.if_icmp .ge 7, 3, 21, 0, 0, 0) := rfl
theorem fX3_isOutcome_17 : fetch tX3_isOutcome 17 = some (.iconst 1, 1, 0, 0, 1, 0) := rfl
theorem fX3_isOutcome_18 : fetch tX3_isOutcome 18 = some (.goto 4, 3, 22, 0, 0, 0) := rfl
theorem fX3_isOutcome_21 : fetch tX3_isOutcome 21 = some (.iconst 0, 1, 0, 0, 0, 0) := rfl
theorem fX3_isOutcome_22 : fetch tX3_isOutcome 22 = some (.ireturn, 1, 0, 0, 0, 0) := rfl
def tX3_timeOrNone : List (Nat × TE) := [(0, .iload_n 0, 1, 0, 0, 0, 0), (1, .bipush 31, 2, 0, 0, 31, 0), (3, .if_icmp .ne 7, 3, 10, 0, 0, 0), (6, .iconst (-1), 1, 0, 0, (-1), 0), (7, .goto 4, 3, 11, 0, 0, 0), (10, .iload_n 0, 1, 0, 0, 0, 0), (11, .ireturn, 1, 0, 0, 0, 0)]
theorem tkX3_timeOrNone : tOk cX3_timeOrNone "RumourSource" 1 tX3_timeOrNone = true := by decide +kernel
theorem fX3_timeOrNone_0 : fetch tX3_timeOrNone 0 = some (.iload_n 0, 1, 0, 0, 0, 0) := rfl
theorem fX3_timeOrNone_1 : fetch tX3_timeOrNone 1 = some (.bipush 31, 2, 0, 0, 31, 0) := rfl
theorem fX3_timeOrNone_3 : fetch tX3_timeOrNone 3 = some (.if_icmp .ne 7, 3, 10, 0, 0, 0) := rfl
theorem fX3_timeOrNone_6 : fetch tX3_timeOrNone 6 = some (.iconst (-1), 1, 0, 0, (-1), 0) := rfl
theorem fX3_timeOrNone_7 : fetch tX3_timeOrNone 7 = some (.goto 4, 3, 11, 0, 0, 0) := rfl
theorem fX3_timeOrNone_10 : fetch tX3_timeOrNone 10 = some (.iload_n 0, 1, 0, 0, 0, 0) := rfl
theorem fX3_timeOrNone_11 : fetch tX3_timeOrNone 11 = some (.ireturn, 1, 0, 0, 0, 0) := rfl
def tX3_remember : List (Nat × TE) := [(0, .aload_n 0, 1, 0, 0, 0, 0), (1, .getfield 38, 3, 3, 5, 0, 0), (4, .aload_n 0, 1, 0, 0, 0, 0), (5, .getfield 16, 3, 3, 1, 0, 0), (8, .arraylength, 1, 0, 0, 0, 0), (9, .if_icmp .lt 65, 3, 74, 0, 0, 0), (12, .aload_n 0, 1, 0, 0, 0, 0), (13, .getfield 16, 3, 3, 1, 0, 0), (16, .iconst 0, 1, 0, 0, 0, 0), (17, .aaload, 1, 0, 0, 0, 0), (18, .astore_n 1, 1, 1, 0, 0, 0), (19, .iconst 1, 1, 0, 0, 1, 0), (20, .istore_n 2, 1, 2, 0, 0, 0), (21, .iload_n 2, 1, 2, 0, 0, 0), (22, .aload_n 0, 1, 0, 0, 0, 0), (23, .getfield 16, 3, 3, 1, 0, 0), (26, .arraylength, 1, 0, 0, 0, 0), (27, .if_icmp .ge 23, 3, 50, 0, 0, 0), (30, .aload_n 0, 1, 0, 0, 0, 0), (31, .getfield 16, 3, 3, 1, 0, 0), (34, .iload_n 2, 1, 2, 0, 0, 0), (35, .iconst 1, 1, 0, 0, 1, 0), (36, .isub, 1, 0, 0, 0, 0), (37, .aload_n 0, 1, 0, 0, 0, 0), (38, .getfield 16, 3, 3, 1, 0, 0), (41, .iload_n 2, 1, 2, 0, 0, 0), (42, .aaload, 1, 0, 0, 0, 0), (43, .aastore, 1, 0, 0, 0, 0), (44, .iinc 2 1, 3, 2, 0, 1, 0), (47, .goto (-26), 3, 21, 0, 0, 0), (50, .aload_n 0, 1, 0, 0, 0, 0), (51, .getfield 16, 3, 3, 1, 0, 0), (54, .aload_n 0, 1, 0, 0, 0, 0), (55, .getfield 16, 3, 3, 1, 0, 0), (58, .arraylength, 1, 0, 0, 0, 0), (59, .iconst 1, 1, 0, 0, 1, 0), (60, .isub, 1, 0, 0, 0, 0), (61, .aload_n 1, 1, 1, 0, 0, 0), (62, .aastore, 1, 0, 0, 0, 0), (63, .aload_n 0, 1, 0, 0, 0, 0), (64, .aload_n 0, 1, 0, 0, 0, 0), (65, .getfield 16, 3, 3, 1, 0, 0), (68, .arraylength, 1, 0, 0, 0, 0), (69, .iconst 1, 1, 0, 0, 1, 0), (70, .isub, 1, 0, 0, 0, 0), (71, .putfield 38, 3, 3, 5, 0, 0), (74, .aload_n 0, 1, 0, 0, 0, 0), (75, .getfield 16, 3, 3, 1, 0, 0), (78, .aload_n 0, 1, 0, 0, 0, 0), (79, .getfield 38, 3, 3, 5, 0, 0), (82, .aaload, 1, 0, 0, 0, 0), (83, .aload_n 0, 1, 0, 0, 0, 0), (84, .getfield 12, 3, 3, 0, 0, 0), (87, .invokevirtual 188, 3, 0, 0, 0, 0), (90, .aload_n 0, 1, 0, 0, 0, 0), (91, .dup, 1, 0, 0, 0, 0), (92, .getfield 38, 3, 3, 5, 0, 0), (95, .iconst 1, 1, 0, 0, 1, 0), (96, .iadd, 1, 0, 0, 0, 0), (97, .putfield 38, 3, 3, 5, 0, 0), (100, .return_, 1, 0, 0, 0, 0)]
theorem tkX3_remember : tOk cX3_remember "RumourSource" 3 tX3_remember = true := by decide +kernel
theorem fX3_remember_0 : fetch tX3_remember 0 = some (.aload_n 0, 1, 0, 0, 0, 0) := rfl
theorem fX3_remember_1 : fetch tX3_remember 1 = some (.getfield 38, 3, 3, 5, 0, 0) := rfl
theorem fX3_remember_4 : fetch tX3_remember 4 = some (.aload_n 0, 1, 0, 0, 0, 0) := rfl
theorem fX3_remember_5 : fetch tX3_remember 5 = some (.getfield 16, 3, 3, 1, 0, 0) := rfl
theorem fX3_remember_8 : fetch tX3_remember 8 = some (.arraylength, 1, 0, 0, 0, 0) := rfl
theorem fX3_remember_9 : fetch tX3_remember 9 = some (.if_icmp .lt 65, 3, 74, 0, 0, 0) := rfl
theorem fX3_remember_12 : fetch tX3_remember 12 = some (.aload_n 0, 1, 0, 0, 0, 0) := rfl
theorem fX3_remember_13 : fetch tX3_remember 13 = some (.getfield 16, 3, 3, 1, 0, 0) := rfl
theorem fX3_remember_16 : fetch tX3_remember 16 = some (.iconst 0, 1, 0, 0, 0, 0) := rfl
theorem fX3_remember_17 : fetch tX3_remember 17 = some (.aaload, 1, 0, 0, 0, 0) := rfl
theorem fX3_remember_18 : fetch tX3_remember 18 = some (.astore_n 1, 1, 1, 0, 0, 0) := rfl
theorem fX3_remember_19 : fetch tX3_remember 19 = some (.iconst 1, 1, 0, 0, 1, 0) := rfl
theorem fX3_remember_20 : fetch tX3_remember 20 = some (.istore_n 2, 1, 2, 0, 0, 0) := rfl
theorem fX3_remember_21 : fetch tX3_remember 21 = some (.iload_n 2, 1, 2, 0, 0, 0) := rfl
theorem fX3_remember_22 : fetch tX3_remember 22 = some (.aload_n 0, 1, 0, 0, 0, 0) := rfl
theorem fX3_remember_23 : fetch tX3_remember 23 = some (.getfield 16, 3, 3, 1, 0, 0) := rfl
theorem fX3_remember_26 : fetch tX3_remember 26 = some (.arraylength, 1, 0, 0, 0, 0) := rfl
theorem fX3_remember_27 : fetch tX3_remember 27 = some (.if_icmp .ge 23, 3, 50, 0, 0, 0) := rfl
theorem fX3_remember_30 : fetch tX3_remember 30 = some (.aload_n 0, 1, 0, 0, 0, 0) := rfl
theorem fX3_remember_31 : fetch tX3_remember 31 = some (.getfield 16, 3, 3, 1, 0, 0) := rfl
theorem fX3_remember_34 : fetch tX3_remember 34 = some (.iload_n 2, 1, 2, 0, 0, 0) := rfl
theorem fX3_remember_35 : fetch tX3_remember 35 = some (.iconst 1, 1, 0, 0, 1, 0) := rfl
theorem fX3_remember_36 : fetch tX3_remember 36 = some (.isub, 1, 0, 0, 0, 0) := rfl
theorem fX3_remember_37 : fetch tX3_remember 37 = some (.aload_n 0, 1, 0, 0, 0, 0) := rfl
theorem fX3_remember_38 : fetch tX3_remember 38 = some (.getfield 16, 3, 3, 1, 0, 0) := rfl
theorem fX3_remember_41 : fetch tX3_remember 41 = some (.iload_n 2, 1, 2, 0, 0, 0) := rfl
theorem fX3_remember_42 : fetch tX3_remember 42 = some (.aaload, 1, 0, 0, 0, 0) := rfl
theorem fX3_remember_43 : fetch tX3_remember 43 = some (.aastore, 1, 0, 0, 0, 0) := rfl
theorem fX3_remember_44 : fetch tX3_remember 44 = some (.iinc 2 1, 3, 2, 0, 1, 0) := rfl
theorem fX3_remember_47 : fetch tX3_remember 47 = some (.goto (-26), 3, 21, 0, 0, 0) := rfl
theorem fX3_remember_50 : fetch tX3_remember 50 = some (.aload_n 0, 1, 0, 0, 0, 0) := rfl
theorem fX3_remember_51 : fetch tX3_remember 51 = some (.getfield 16, 3, 3, 1, 0, 0) := rfl
theorem fX3_remember_54 : fetch tX3_remember 54 = some (.aload_n 0, 1, 0, 0, 0, 0) := rfl
theorem fX3_remember_55 : fetch tX3_remember 55 = some (.getfield 16, 3, 3, 1, 0, 0) := rfl
theorem fX3_remember_58 : fetch tX3_remember 58 = some (.arraylength, 1, 0, 0, 0, 0) := rfl
theorem fX3_remember_59 : fetch tX3_remember 59 = some (.iconst 1, 1, 0, 0, 1, 0) := rfl
theorem fX3_remember_60 : fetch tX3_remember 60 = some (.isub, 1, 0, 0, 0, 0) := rfl
theorem fX3_remember_61 : fetch tX3_remember 61 = some (.aload_n 1, 1, 1, 0, 0, 0) := rfl
theorem fX3_remember_62 : fetch tX3_remember 62 = some (.aastore, 1, 0, 0, 0, 0) := rfl
theorem fX3_remember_63 : fetch tX3_remember 63 = some (.aload_n 0, 1, 0, 0, 0, 0) := rfl
theorem fX3_remember_64 : fetch tX3_remember 64 = some (.aload_n 0, 1, 0, 0, 0, 0) := rfl
theorem fX3_remember_65 : fetch tX3_remember 65 = some (.getfield 16, 3, 3, 1, 0, 0) := rfl
theorem fX3_remember_68 : fetch tX3_remember 68 = some (.arraylength, 1, 0, 0, 0, 0) := rfl
theorem fX3_remember_69 : fetch tX3_remember 69 = some (.iconst 1, 1, 0, 0, 1, 0) := rfl
theorem fX3_remember_70 : fetch tX3_remember 70 = some (.isub, 1, 0, 0, 0, 0) := rfl
theorem fX3_remember_71 : fetch tX3_remember 71 = some (.putfield 38, 3, 3, 5, 0, 0) := rfl
theorem fX3_remember_74 : fetch tX3_remember 74 = some (.aload_n 0, 1, 0, 0, 0, 0) := rfl
theorem fX3_remember_75 : fetch tX3_remember 75 = some (.getfield 16, 3, 3, 1, 0, 0) := rfl
theorem fX3_remember_78 : fetch tX3_remember 78 = some (.aload_n 0, 1, 0, 0, 0, 0) := rfl
theorem fX3_remember_79 : fetch tX3_remember 79 = some (.getfield 38, 3, 3, 5, 0, 0) := rfl
theorem fX3_remember_82 : fetch tX3_remember 82 = some (.aaload, 1, 0, 0, 0, 0) := rfl
theorem fX3_remember_83 : fetch tX3_remember 83 = some (.aload_n 0, 1, 0, 0, 0, 0) := rfl
theorem fX3_remember_84 : fetch tX3_remember 84 = some (.getfield 12, 3, 3, 0, 0, 0) := rfl
theorem fX3_remember_87 : fetch tX3_remember 87 = some (.invokevirtual 188, 3, 0, 0, 0, 0) := rfl
theorem fX3_remember_90 : fetch tX3_remember 90 = some (.aload_n 0, 1, 0, 0, 0, 0) := rfl
theorem fX3_remember_91 : fetch tX3_remember 91 = some (.dup, 1, 0, 0, 0, 0) := rfl
theorem fX3_remember_92 : fetch tX3_remember 92 = some (.getfield 38, 3, 3, 5, 0, 0) := rfl
theorem fX3_remember_95 : fetch tX3_remember 95 = some (.iconst 1, 1, 0, 0, 1, 0) := rfl
theorem fX3_remember_96 : fetch tX3_remember 96 = some (.iadd, 1, 0, 0, 0, 0) := rfl
theorem fX3_remember_97 : fetch tX3_remember 97 = some (.putfield 38, 3, 3, 5, 0, 0) := rfl
theorem fX3_remember_100 : fetch tX3_remember 100 = some (.return_, 1, 0, 0, 0, 0) := rfl
def tX3_replaceSeen : List (Nat × TE) := [(0, .aload_n 0, 1, 0, 0, 0, 0), (1, .invokevirtual 60, 3, 0, 3, 0, 0), (4, .aload_n 0, 1, 0, 0, 0, 0), (5, .getfield 12, 3, 3, 0, 0, 0), (8, .getfield 102, 3, 0, 6, 0, 0), (11, .iload_n 1, 1, 1, 0, 0, 0), (12, .iaload, 1, 0, 0, 0, 0), (13, .istore_n 3, 1, 3, 0, 0, 0), (14, .aload_n 0, 1, 0, 0, 0, 0), (15, .getfield 12, 3, 3, 0, 0, 0), (18, .getfield 102, 3, 0, 6, 0, 0), (21, .iload_n 1, 1, 1, 0, 0, 0), (22, .iload_n 2, 1, 2, 0, 0, 0), (23, .iastore, 1, 0, 0, 0, 0), (24, .iload_n 3, 1, 3, 0, 0, 0), (25, .ireturn, 1, 0, 0, 0, 0)]
theorem tkX3_replaceSeen : tOk cX3_replaceSeen "RumourSource" 4 tX3_replaceSeen = true := by decide +kernel
theorem fX3_replaceSeen_0 : fetch tX3_replaceSeen 0 = some (.aload_n 0, 1, 0, 0, 0, 0) := rfl
theorem fX3_replaceSeen_1 : fetch tX3_replaceSeen 1 = some (.invokevirtual 60, 3, 0, 3, 0, 0) := rfl
theorem fX3_replaceSeen_4 : fetch tX3_replaceSeen 4 = some (.aload_n 0, 1, 0, 0, 0, 0) := rfl
theorem fX3_replaceSeen_5 : fetch tX3_replaceSeen 5 = some (.getfield 12, 3, 3, 0, 0, 0) := rfl
theorem fX3_replaceSeen_8 : fetch tX3_replaceSeen 8 = some (.getfield 102, 3, 0, 6, 0, 0) := rfl
theorem fX3_replaceSeen_11 : fetch tX3_replaceSeen 11 = some (.iload_n 1, 1, 1, 0, 0, 0) := rfl
theorem fX3_replaceSeen_12 : fetch tX3_replaceSeen 12 = some (.iaload, 1, 0, 0, 0, 0) := rfl
theorem fX3_replaceSeen_13 : fetch tX3_replaceSeen 13 = some (.istore_n 3, 1, 3, 0, 0, 0) := rfl
theorem fX3_replaceSeen_14 : fetch tX3_replaceSeen 14 = some (.aload_n 0, 1, 0, 0, 0, 0) := rfl
theorem fX3_replaceSeen_15 : fetch tX3_replaceSeen 15 = some (.getfield 12, 3, 3, 0, 0, 0) := rfl
theorem fX3_replaceSeen_18 : fetch tX3_replaceSeen 18 = some (.getfield 102, 3, 0, 6, 0, 0) := rfl
theorem fX3_replaceSeen_21 : fetch tX3_replaceSeen 21 = some (.iload_n 1, 1, 1, 0, 0, 0) := rfl
theorem fX3_replaceSeen_22 : fetch tX3_replaceSeen 22 = some (.iload_n 2, 1, 2, 0, 0, 0) := rfl
theorem fX3_replaceSeen_23 : fetch tX3_replaceSeen 23 = some (.iastore, 1, 0, 0, 0, 0) := rfl
theorem fX3_replaceSeen_24 : fetch tX3_replaceSeen 24 = some (.iload_n 3, 1, 3, 0, 0, 0) := rfl
theorem fX3_replaceSeen_25 : fetch tX3_replaceSeen 25 = some (.ireturn, 1, 0, 0, 0, 0) := rfl
def tX3_drawOutcome : List (Nat × TE) := [(0, .iconst 0, 1, 0, 0, 0, 0), (1, .istore_n 2, 1, 2, 0, 0, 0), (2, .iload_n 1, 1, 1, 0, 0, 0), (3, .istore_n 3, 1, 3, 0, 0, 0), (4, .iconst 0, 1, 0, 0, 0, 0), (5, .istore 4, 2, 4, 0, 0, 0), (7, .iload 4, 2, 4, 0, 0, 0), (9, .aload_n 0, 1, 0, 0, 0, 0), (10, .getfield 12, 3, 3, 0, 0, 0), (13, .getfield 81, 3, 0, 4, 0, 0), (16, .if_icmp .ge 45, 3, 61, 0, 0, 0), (19, .iload_n 3, 1, 3, 0, 0, 0), (20, .ldc 208, 2, 0, 0, 1103515245, 0), (22, .imul, 1, 0, 0, 0, 0), (23, .sipush 12345, 3, 0, 0, 12345, 0), (26, .iadd, 1, 0, 0, 0, 0), (27, .istore_n 3, 1, 3, 0, 0, 0), (28, .iload_n 3, 1, 3, 0, 0, 0), (29, .bipush 8, 2, 0, 0, 8, 0), (31, .iushr, 1, 0, 0, 0, 0), (32, .bipush 10, 2, 0, 0, 10, 0), (34, .irem, 1, 0, 0, 0, 0), (35, .aload_n 0, 1, 0, 0, 0, 0), (36, .getfield 12, 3, 3, 0, 0, 0), (39, .getfield 70, 3, 0, 2, 0, 0), (42, .iload 4, 2, 4, 0, 0, 0), (44, .iaload, 1, 0, 0, 0, 0), (45, .if_icmp .ge 10, 3, 55, 0, 0, 0), (48, .iload_n 2, 1, 2, 0, 0, 0), (49, .iconst 1, 1, 0, 0, 1, 0), (50, .iload 4, 2, 4, 0, 0, 0), (52, .ishl, 1, 0, 0, 0, 0), (53, .ior, 1, 0, 0, 0, 0), (54, .istore_n 2, 1, 2, 0, 0, 0), (55, .iinc 4 1, 3, 4, 0, 1, 0), (58, .goto (-51), 3, 7, 0, 0, 0), (61, .iload_n 2, 1, 2, 0, 0, 0), (62, .ireturn, 1, 0, 0, 0, 0)]
theorem tkX3_drawOutcome : tOk cX3_drawOutcome "RumourSource" 5 tX3_drawOutcome = true := by decide +kernel
theorem fX3_drawOutcome_0 : fetch tX3_drawOutcome 0 = some (.iconst 0, 1, 0, 0, 0, 0) := rfl
theorem fX3_drawOutcome_1 : fetch tX3_drawOutcome 1 = some (.istore_n 2, 1, 2, 0, 0, 0) := rfl
theorem fX3_drawOutcome_2 : fetch tX3_drawOutcome 2 = some (.iload_n 1, 1, 1, 0, 0, 0) := rfl
theorem fX3_drawOutcome_3 : fetch tX3_drawOutcome 3 = some (.istore_n 3, 1, 3, 0, 0, 0) := rfl
theorem fX3_drawOutcome_4 : fetch tX3_drawOutcome 4 = some (.iconst 0, 1, 0, 0, 0, 0) := rfl
theorem fX3_drawOutcome_5 : fetch tX3_drawOutcome 5 = some (.istore 4, 2, 4, 0, 0, 0) := rfl
theorem fX3_drawOutcome_7 : fetch tX3_drawOutcome 7 = some (.iload 4, 2, 4, 0, 0, 0) := rfl
theorem fX3_drawOutcome_9 : fetch tX3_drawOutcome 9 = some (.aload_n 0, 1, 0, 0, 0, 0) := rfl
theorem fX3_drawOutcome_10 : fetch tX3_drawOutcome 10 = some (.getfield 12, 3, 3, 0, 0, 0) := rfl
theorem fX3_drawOutcome_13 : fetch tX3_drawOutcome 13 = some (.getfield 81, 3, 0, 4, 0, 0) := rfl
theorem fX3_drawOutcome_16 : fetch tX3_drawOutcome 16 = some (.if_icmp .ge 45, 3, 61, 0, 0, 0) := rfl
theorem fX3_drawOutcome_19 : fetch tX3_drawOutcome 19 = some (.iload_n 3, 1, 3, 0, 0, 0) := rfl
theorem fX3_drawOutcome_20 : fetch tX3_drawOutcome 20 = some (.ldc 208, 2, 0, 0, 1103515245, 0) := rfl
theorem fX3_drawOutcome_22 : fetch tX3_drawOutcome 22 = some (.imul, 1, 0, 0, 0, 0) := rfl
theorem fX3_drawOutcome_23 : fetch tX3_drawOutcome 23 = some (.sipush 12345, 3, 0, 0, 12345, 0) := rfl
theorem fX3_drawOutcome_26 : fetch tX3_drawOutcome 26 = some (.iadd, 1, 0, 0, 0, 0) := rfl
theorem fX3_drawOutcome_27 : fetch tX3_drawOutcome 27 = some (.istore_n 3, 1, 3, 0, 0, 0) := rfl
theorem fX3_drawOutcome_28 : fetch tX3_drawOutcome 28 = some (.iload_n 3, 1, 3, 0, 0, 0) := rfl
theorem fX3_drawOutcome_29 : fetch tX3_drawOutcome 29 = some (.bipush 8, 2, 0, 0, 8, 0) := rfl
theorem fX3_drawOutcome_31 : fetch tX3_drawOutcome 31 = some (.iushr, 1, 0, 0, 0, 0) := rfl
theorem fX3_drawOutcome_32 : fetch tX3_drawOutcome 32 = some (.bipush 10, 2, 0, 0, 10, 0) := rfl
theorem fX3_drawOutcome_34 : fetch tX3_drawOutcome 34 = some (.irem, 1, 0, 0, 0, 0) := rfl
theorem fX3_drawOutcome_35 : fetch tX3_drawOutcome 35 = some (.aload_n 0, 1, 0, 0, 0, 0) := rfl
theorem fX3_drawOutcome_36 : fetch tX3_drawOutcome 36 = some (.getfield 12, 3, 3, 0, 0, 0) := rfl
theorem fX3_drawOutcome_39 : fetch tX3_drawOutcome 39 = some (.getfield 70, 3, 0, 2, 0, 0) := rfl
theorem fX3_drawOutcome_42 : fetch tX3_drawOutcome 42 = some (.iload 4, 2, 4, 0, 0, 0) := rfl
theorem fX3_drawOutcome_44 : fetch tX3_drawOutcome 44 = some (.iaload, 1, 0, 0, 0, 0) := rfl
theorem fX3_drawOutcome_45 : fetch tX3_drawOutcome 45 = some (.if_icmp .ge 10, 3, 55, 0, 0, 0) := rfl
theorem fX3_drawOutcome_48 : fetch tX3_drawOutcome 48 = some (.iload_n 2, 1, 2, 0, 0, 0) := rfl
theorem fX3_drawOutcome_49 : fetch tX3_drawOutcome 49 = some (.iconst 1, 1, 0, 0, 1, 0) := rfl
theorem fX3_drawOutcome_50 : fetch tX3_drawOutcome 50 = some (.iload 4, 2, 4, 0, 0, 0) := rfl
theorem fX3_drawOutcome_52 : fetch tX3_drawOutcome 52 = some (.ishl, 1, 0, 0, 0, 0) := rfl
theorem fX3_drawOutcome_53 : fetch tX3_drawOutcome 53 = some (.ior, 1, 0, 0, 0, 0) := rfl
theorem fX3_drawOutcome_54 : fetch tX3_drawOutcome 54 = some (.istore_n 2, 1, 2, 0, 0, 0) := rfl
theorem fX3_drawOutcome_55 : fetch tX3_drawOutcome 55 = some (.iinc 4 1, 3, 4, 0, 1, 0) := rfl
theorem fX3_drawOutcome_58 : fetch tX3_drawOutcome 58 = some (.goto (-51), 3, 7, 0, 0, 0) := rfl
theorem fX3_drawOutcome_61 : fetch tX3_drawOutcome 61 = some (.iload_n 2, 1, 2, 0, 0, 0) := rfl
theorem fX3_drawOutcome_62 : fetch tX3_drawOutcome 62 = some (.ireturn, 1, 0, 0, 0, 0) := rfl
def tX3_likelihoodOf : List (Nat × TE) := [(0, .aload_n 0, 1, 0, 0, 0, 0), (1, .getfield 23, 3, 3, 2, 0, 0), (4, .aload_n 0, 1, 0, 0, 0, 0), (5, .getfield 12, 3, 3, 0, 0, 0), (8, .invokevirtual 130, 3, 0, 1, 0, 0), (11, .aload_n 0, 1, 0, 0, 0, 0), (12, .getfield 23, 3, 3, 2, 0, 0), (15, .aload_n 0, 1, 0, 0, 0, 0), (16, .getfield 12, 3, 3, 0, 0, 0), (19, .iload_n 1, 1, 1, 0, 0, 0), (20, .iconst 0, 1, 0, 0, 0, 0), (21, .invokevirtual 143, 3, 1, 1, 0, 0), (24, .aload_n 0, 1, 0, 0, 0, 0), (25, .getfield 23, 3, 3, 2, 0, 0), (28, .getfield 147, 3, 1, 2, 0, 0), (31, .lreturn, 1, 0, 0, 0, 0)]
theorem tkX3_likelihoodOf : tOk cX3_likelihoodOf "RumourSource" 2 tX3_likelihoodOf = true := by decide +kernel
theorem fX3_likelihoodOf_0 : fetch tX3_likelihoodOf 0 = some (.aload_n 0, 1, 0, 0, 0, 0) := rfl
theorem fX3_likelihoodOf_1 : fetch tX3_likelihoodOf 1 = some (.getfield 23, 3, 3, 2, 0, 0) := rfl
theorem fX3_likelihoodOf_4 : fetch tX3_likelihoodOf 4 = some (.aload_n 0, 1, 0, 0, 0, 0) := rfl
theorem fX3_likelihoodOf_5 : fetch tX3_likelihoodOf 5 = some (.getfield 12, 3, 3, 0, 0, 0) := rfl
theorem fX3_likelihoodOf_8 : fetch tX3_likelihoodOf 8 = some (.invokevirtual 130, 3, 0, 1, 0, 0) := rfl
theorem fX3_likelihoodOf_11 : fetch tX3_likelihoodOf 11 = some (.aload_n 0, 1, 0, 0, 0, 0) := rfl
theorem fX3_likelihoodOf_12 : fetch tX3_likelihoodOf 12 = some (.getfield 23, 3, 3, 2, 0, 0) := rfl
theorem fX3_likelihoodOf_15 : fetch tX3_likelihoodOf 15 = some (.aload_n 0, 1, 0, 0, 0, 0) := rfl
theorem fX3_likelihoodOf_16 : fetch tX3_likelihoodOf 16 = some (.getfield 12, 3, 3, 0, 0, 0) := rfl
theorem fX3_likelihoodOf_19 : fetch tX3_likelihoodOf 19 = some (.iload_n 1, 1, 1, 0, 0, 0) := rfl
theorem fX3_likelihoodOf_20 : fetch tX3_likelihoodOf 20 = some (.iconst 0, 1, 0, 0, 0, 0) := rfl
theorem fX3_likelihoodOf_21 : fetch tX3_likelihoodOf 21 = some (.invokevirtual 143, 3, 1, 1, 0, 0) := rfl
theorem fX3_likelihoodOf_24 : fetch tX3_likelihoodOf 24 = some (.aload_n 0, 1, 0, 0, 0, 0) := rfl
theorem fX3_likelihoodOf_25 : fetch tX3_likelihoodOf 25 = some (.getfield 23, 3, 3, 2, 0, 0) := rfl
theorem fX3_likelihoodOf_28 : fetch tX3_likelihoodOf 28 = some (.getfield 147, 3, 1, 2, 0, 0) := rfl
theorem fX3_likelihoodOf_31 : fetch tX3_likelihoodOf 31 = some (.lreturn, 1, 0, 0, 0, 0) := rfl
def tX3_countIfPossible : List (Nat × TE) := [(0, .aload_n 0, 1, 0, 0, 0, 0), (1, .getfield 23, 3, 3, 2, 0, 0), (4, .aload_n 0, 1, 0, 0, 0, 0), (5, .getfield 12, 3, 3, 0, 0, 0), (8, .invokevirtual 130, 3, 0, 1, 0, 0), (11, .aload_n 0, 1, 0, 0, 0, 0), (12, .getfield 23, 3, 3, 2, 0, 0), (15, .aload_n 0, 1, 0, 0, 0, 0), (16, .getfield 12, 3, 3, 0, 0, 0), (19, .iload_n 1, 1, 1, 0, 0, 0), (20, .iconst 1, 1, 0, 0, 1, 0), (21, .invokevirtual 143, 3, 1, 1, 0, 0), (24, .aload_n 0, 1, 0, 0, 0, 0), (25, .getfield 23, 3, 3, 2, 0, 0), (28, .getfield 147, 3, 1, 2, 0, 0), (31, .lconst 0, 1, 0, 0, 0, 0), (32, .lcmp, 1, 0, 0, 0, 0), (33, .ifCond .le 7, 3, 40, 0, 0, 0), (36, .iconst 1, 1, 0, 0, 1, 0), (37, .goto 4, 3, 41, 0, 0, 0), (40, .iconst 0, 1, 0, 0, 0, 0), (41, .ireturn, 1, 0, 0, 0, 0)]
theorem tkX3_countIfPossible : tOk cX3_countIfPossible "RumourSource" 2 tX3_countIfPossible = true := by decide +kernel
theorem fX3_countIfPossible_0 : fetch tX3_countIfPossible 0 = some (.aload_n 0, 1, 0, 0, 0, 0) := rfl
theorem fX3_countIfPossible_1 : fetch tX3_countIfPossible 1 = some (.getfield 23, 3, 3, 2, 0, 0) := rfl
theorem fX3_countIfPossible_4 : fetch tX3_countIfPossible 4 = some (.aload_n 0, 1, 0, 0, 0, 0) := rfl
theorem fX3_countIfPossible_5 : fetch tX3_countIfPossible 5 = some (.getfield 12, 3, 3, 0, 0, 0) := rfl
theorem fX3_countIfPossible_8 : fetch tX3_countIfPossible 8 = some (.invokevirtual 130, 3, 0, 1, 0, 0) := rfl
theorem fX3_countIfPossible_11 : fetch tX3_countIfPossible 11 = some (.aload_n 0, 1, 0, 0, 0, 0) := rfl
theorem fX3_countIfPossible_12 : fetch tX3_countIfPossible 12 = some (.getfield 23, 3, 3, 2, 0, 0) := rfl
theorem fX3_countIfPossible_15 : fetch tX3_countIfPossible 15 = some (.aload_n 0, 1, 0, 0, 0, 0) := rfl
theorem fX3_countIfPossible_16 : fetch tX3_countIfPossible 16 = some (.getfield 12, 3, 3, 0, 0, 0) := rfl
theorem fX3_countIfPossible_19 : fetch tX3_countIfPossible 19 = some (.iload_n 1, 1, 1, 0, 0, 0) := rfl
theorem fX3_countIfPossible_20 : fetch tX3_countIfPossible 20 = some (.iconst 1, 1, 0, 0, 1, 0) := rfl
theorem fX3_countIfPossible_21 : fetch tX3_countIfPossible 21 = some (.invokevirtual 143, 3, 1, 1, 0, 0) := rfl
theorem fX3_countIfPossible_24 : fetch tX3_countIfPossible 24 = some (.aload_n 0, 1, 0, 0, 0, 0) := rfl
theorem fX3_countIfPossible_25 : fetch tX3_countIfPossible 25 = some (.getfield 23, 3, 3, 2, 0, 0) := rfl
theorem fX3_countIfPossible_28 : fetch tX3_countIfPossible 28 = some (.getfield 147, 3, 1, 2, 0, 0) := rfl
theorem fX3_countIfPossible_31 : fetch tX3_countIfPossible 31 = some (.lconst 0, 1, 0, 0, 0, 0) := rfl
theorem fX3_countIfPossible_32 : fetch tX3_countIfPossible 32 = some (.lcmp, 1, 0, 0, 0, 0) := rfl
theorem fX3_countIfPossible_33 : fetch tX3_countIfPossible 33 = some (.ifCond .le 7, 3, 40, 0, 0, 0) := rfl
theorem fX3_countIfPossible_36 : fetch tX3_countIfPossible 36 = some (.iconst 1, 1, 0, 0, 1, 0) := rfl
theorem fX3_countIfPossible_37 : fetch tX3_countIfPossible 37 = some (.goto 4, 3, 41, 0, 0, 0) := rfl
theorem fX3_countIfPossible_40 : fetch tX3_countIfPossible 40 = some (.iconst 0, 1, 0, 0, 0, 0) := rfl
theorem fX3_countIfPossible_41 : fetch tX3_countIfPossible 41 = some (.ireturn, 1, 0, 0, 0, 0) := rfl
def tX3_findLikelihoods : List (Nat × TE) := [(0, .iconst 0, 1, 0, 0, 0, 0), (1, .istore_n 1, 1, 1, 0, 0, 0), (2, .iload_n 1, 1, 1, 0, 0, 0), (3, .bipush 8, 2, 0, 0, 8, 0), (5, .if_icmp .ge 22, 3, 27, 0, 0, 0), (8, .aload_n 0, 1, 0, 0, 0, 0), (9, .getfield 34, 3, 3, 4, 0, 0), (12, .iload_n 1, 1, 1, 0, 0, 0), (13, .aload_n 0, 1, 0, 0, 0, 0), (14, .iconst 1, 1, 0, 0, 1, 0), (15, .iload_n 1, 1, 1, 0, 0, 0), (16, .ishl, 1, 0, 0, 0, 0), (17, .invokevirtual 157, 3, 0, 3, 0, 0), (20, .lastore, 1, 0, 0, 0, 0), (21, .iinc 1 1, 3, 1, 0, 1, 0), (24, .goto (-22), 3, 2, 0, 0, 0), (27, .return_, 1, 0, 0, 0, 0)]
theorem tkX3_findLikelihoods : tOk cX3_findLikelihoods "RumourSource" 2 tX3_findLikelihoods = true := by decide +kernel
theorem fX3_findLikelihoods_0 : fetch tX3_findLikelihoods 0 = some (.iconst 0, 1, 0, 0, 0, 0) := rfl
theorem fX3_findLikelihoods_1 : fetch tX3_findLikelihoods 1 = some (.istore_n 1, 1, 1, 0, 0, 0) := rfl
theorem fX3_findLikelihoods_2 : fetch tX3_findLikelihoods 2 = some (.iload_n 1, 1, 1, 0, 0, 0) := rfl
theorem fX3_findLikelihoods_3 : fetch tX3_findLikelihoods 3 = some (.bipush 8, 2, 0, 0, 8, 0) := rfl
theorem fX3_findLikelihoods_5 : fetch tX3_findLikelihoods 5 = some (.if_icmp .ge 22, 3, 27, 0, 0, 0) := rfl
theorem fX3_findLikelihoods_8 : fetch tX3_findLikelihoods 8 = some (.aload_n 0, 1, 0, 0, 0, 0) := rfl
theorem fX3_findLikelihoods_9 : fetch tX3_findLikelihoods 9 = some (.getfield 34, 3, 3, 4, 0, 0) := rfl
theorem fX3_findLikelihoods_12 : fetch tX3_findLikelihoods 12 = some (.iload_n 1, 1, 1, 0, 0, 0) := rfl
theorem fX3_findLikelihoods_13 : fetch tX3_findLikelihoods 13 = some (.aload_n 0, 1, 0, 0, 0, 0) := rfl
theorem fX3_findLikelihoods_14 : fetch tX3_findLikelihoods 14 = some (.iconst 1, 1, 0, 0, 1, 0) := rfl
theorem fX3_findLikelihoods_15 : fetch tX3_findLikelihoods 15 = some (.iload_n 1, 1, 1, 0, 0, 0) := rfl
theorem fX3_findLikelihoods_16 : fetch tX3_findLikelihoods 16 = some (.ishl, 1, 0, 0, 0, 0) := rfl
theorem fX3_findLikelihoods_17 : fetch tX3_findLikelihoods 17 = some (.invokevirtual 157, 3, 0, 3, 0, 0) := rfl
theorem fX3_findLikelihoods_20 : fetch tX3_findLikelihoods 20 = some (.lastore, 1, 0, 0, 0, 0) := rfl
theorem fX3_findLikelihoods_21 : fetch tX3_findLikelihoods 21 = some (.iinc 1 1, 3, 1, 0, 1, 0) := rfl
theorem fX3_findLikelihoods_24 : fetch tX3_findLikelihoods 24 = some (.goto (-22), 3, 2, 0, 0, 0) := rfl
theorem fX3_findLikelihoods_27 : fetch tX3_findLikelihoods 27 = some (.return_, 1, 0, 0, 0, 0) := rfl
def tX3_rankOf : List (Nat × TE) := [(0, .iconst 0, 1, 0, 0, 0, 0), (1, .istore_n 2, 1, 2, 0, 0, 0), (2, .iconst 0, 1, 0, 0, 0, 0), (3, .istore_n 3, 1, 3, 0, 0, 0), (4, .iload_n 3, 1, 3, 0, 0, 0), (5, .bipush 8, 2, 0, 0, 8, 0), (7, .if_icmp .ge 73, 3, 80, 0, 0, 0), (10, .aload_n 0, 1, 0, 0, 0, 0), (11, .getfield 34, 3, 3, 4, 0, 0), (14, .iload_n 3, 1, 3, 0, 0, 0), (15, .laload, 1, 0, 0, 0, 0), (16, .aload_n 0, 1, 0, 0, 0, 0), (17, .getfield 34, 3, 3, 4, 0, 0), (20, .iload_n 1, 1, 1, 0, 0, 0), (21, .laload, 1, 0, 0, 0, 0), (22, .lcmp, 1, 0, 0, 0, 0), (23, .ifCond .le 7, 3, 30, 0, 0, 0), (26, .iconst 1, 1, 0, 0, 1, 0), (27, .goto 4, 3, 31, 0, 0, 0), (30, .iconst 0, 1, 0, 0, 0, 0), (31, .istore 4, 2, 4, 0, 0, 0), (33, .aload_n 0, 1, 0, 0, 0, 0), (34, .getfield 34, 3, 3, 4, 0, 0), (37, .iload_n 3, 1, 3, 0, 0, 0), (38, .laload, 1, 0, 0, 0, 0), (39, .aload_n 0, 1, 0, 0, 0, 0), (40, .getfield 34, 3, 3, 4, 0, 0), (43, .iload_n 1, 1, 1, 0, 0, 0), (44, .laload, 1, 0, 0, 0, 0), (45, .lcmp, 1, 0, 0, 0, 0), (46, .ifCond .ne 12, 3, 58, 0, 0, 0), (49, .iload_n 3, 1, 3, 0, 0, 0), (50, .iload_n 1, 1, 1, 0, 0, 0), (51, .if_icmp .ge 7, 3, 58, 0, 0, 0), (54, .iconst 1, 1, 0, 0, 1, 0), (55, .goto 4, 3, 59, 0, 0, 0), (58, .iconst 0, 1, 0, 0, 0, 0), (59, .istore 5, 2, 5, 0, 0, 0), (61, .iload 4, 2, 4, 0, 0, 0), (63, .ifCond .ne 8, 3, 71, 0, 0, 0), (66, .iload 5, 2, 5, 0, 0, 0), (68, .ifCond .eq 6, 3, 74, 0, 0, 0), (71, .iinc 2 1, 3, 2, 0, 1, 0), (74, .iinc 3 1, 3, 3, 0, 1, 0), (77, .goto (-73), 3, 4, 0, 0, 0), (80, .iload_n 2, 1, 2, 0, 0, 0), (81, .ireturn, 1, 0, 0, 0, 0)]
theorem tkX3_rankOf : tOk cX3_rankOf "RumourSource" 6 tX3_rankOf = true := by decide +kernel
theorem fX3_rankOf_0 : fetch tX3_rankOf 0 = some (.iconst 0, 1, 0, 0, 0, 0) := rfl
theorem fX3_rankOf_1 : fetch tX3_rankOf 1 = some (.istore_n 2, 1, 2, 0, 0, 0) := rfl
theorem fX3_rankOf_2 : fetch tX3_rankOf 2 = some (.iconst 0, 1, 0, 0, 0, 0) := rfl
theorem fX3_rankOf_3 : fetch tX3_rankOf 3 = some (.istore_n 3, 1, 3, 0, 0, 0) := rfl
theorem fX3_rankOf_4 : fetch tX3_rankOf 4 = some (.iload_n 3, 1, 3, 0, 0, 0) := rfl
theorem fX3_rankOf_5 : fetch tX3_rankOf 5 = some (.bipush 8, 2, 0, 0, 8, 0) := rfl
theorem fX3_rankOf_7 : fetch tX3_rankOf 7 = some (.if_icmp .ge 73, 3, 80, 0, 0, 0) := rfl
theorem fX3_rankOf_10 : fetch tX3_rankOf 10 = some (.aload_n 0, 1, 0, 0, 0, 0) := rfl
theorem fX3_rankOf_11 : fetch tX3_rankOf 11 = some (.getfield 34, 3, 3, 4, 0, 0) := rfl
theorem fX3_rankOf_14 : fetch tX3_rankOf 14 = some (.iload_n 3, 1, 3, 0, 0, 0) := rfl
theorem fX3_rankOf_15 : fetch tX3_rankOf 15 = some (.laload, 1, 0, 0, 0, 0) := rfl
theorem fX3_rankOf_16 : fetch tX3_rankOf 16 = some (.aload_n 0, 1, 0, 0, 0, 0) := rfl
theorem fX3_rankOf_17 : fetch tX3_rankOf 17 = some (.getfield 34, 3, 3, 4, 0, 0) := rfl
theorem fX3_rankOf_20 : fetch tX3_rankOf 20 = some (.iload_n 1, 1, 1, 0, 0, 0) := rfl
theorem fX3_rankOf_21 : fetch tX3_rankOf 21 = some (.laload, 1, 0, 0, 0, 0) := rfl
theorem fX3_rankOf_22 : fetch tX3_rankOf 22 = some (.lcmp, 1, 0, 0, 0, 0) := rfl
theorem fX3_rankOf_23 : fetch tX3_rankOf 23 = some (.ifCond .le 7, 3, 30, 0, 0, 0) := rfl
theorem fX3_rankOf_26 : fetch tX3_rankOf 26 = some (.iconst 1, 1, 0, 0, 1, 0) := rfl
theorem fX3_rankOf_27 : fetch tX3_rankOf 27 = some (.goto 4, 3, 31, 0, 0, 0) := rfl
theorem fX3_rankOf_30 : fetch tX3_rankOf 30 = some (.iconst 0, 1, 0, 0, 0, 0) := rfl
theorem fX3_rankOf_31 : fetch tX3_rankOf 31 = some (.istore 4, 2, 4, 0, 0, 0) := rfl
theorem fX3_rankOf_33 : fetch tX3_rankOf 33 = some (.aload_n 0, 1, 0, 0, 0, 0) := rfl
theorem fX3_rankOf_34 : fetch tX3_rankOf 34 = some (.getfield 34, 3, 3, 4, 0, 0) := rfl
theorem fX3_rankOf_37 : fetch tX3_rankOf 37 = some (.iload_n 3, 1, 3, 0, 0, 0) := rfl
theorem fX3_rankOf_38 : fetch tX3_rankOf 38 = some (.laload, 1, 0, 0, 0, 0) := rfl
theorem fX3_rankOf_39 : fetch tX3_rankOf 39 = some (.aload_n 0, 1, 0, 0, 0, 0) := rfl
theorem fX3_rankOf_40 : fetch tX3_rankOf 40 = some (.getfield 34, 3, 3, 4, 0, 0) := rfl
theorem fX3_rankOf_43 : fetch tX3_rankOf 43 = some (.iload_n 1, 1, 1, 0, 0, 0) := rfl
theorem fX3_rankOf_44 : fetch tX3_rankOf 44 = some (.laload, 1, 0, 0, 0, 0) := rfl
theorem fX3_rankOf_45 : fetch tX3_rankOf 45 = some (.lcmp, 1, 0, 0, 0, 0) := rfl
theorem fX3_rankOf_46 : fetch tX3_rankOf 46 = some (.ifCond .ne 12, 3, 58, 0, 0, 0) := rfl
theorem fX3_rankOf_49 : fetch tX3_rankOf 49 = some (.iload_n 3, 1, 3, 0, 0, 0) := rfl
theorem fX3_rankOf_50 : fetch tX3_rankOf 50 = some (.iload_n 1, 1, 1, 0, 0, 0) := rfl
theorem fX3_rankOf_51 : fetch tX3_rankOf 51 = some (.if_icmp .ge 7, 3, 58, 0, 0, 0) := rfl
theorem fX3_rankOf_54 : fetch tX3_rankOf 54 = some (.iconst 1, 1, 0, 0, 1, 0) := rfl
theorem fX3_rankOf_55 : fetch tX3_rankOf 55 = some (.goto 4, 3, 59, 0, 0, 0) := rfl
theorem fX3_rankOf_58 : fetch tX3_rankOf 58 = some (.iconst 0, 1, 0, 0, 0, 0) := rfl
theorem fX3_rankOf_59 : fetch tX3_rankOf 59 = some (.istore 5, 2, 5, 0, 0, 0) := rfl
theorem fX3_rankOf_61 : fetch tX3_rankOf 61 = some (.iload 4, 2, 4, 0, 0, 0) := rfl
theorem fX3_rankOf_63 : fetch tX3_rankOf 63 = some (.ifCond .ne 8, 3, 71, 0, 0, 0) := rfl
theorem fX3_rankOf_66 : fetch tX3_rankOf 66 = some (.iload 5, 2, 5, 0, 0, 0) := rfl
theorem fX3_rankOf_68 : fetch tX3_rankOf 68 = some (.ifCond .eq 6, 3, 74, 0, 0, 0) := rfl
theorem fX3_rankOf_71 : fetch tX3_rankOf 71 = some (.iinc 2 1, 3, 2, 0, 1, 0) := rfl
theorem fX3_rankOf_74 : fetch tX3_rankOf 74 = some (.iinc 3 1, 3, 3, 0, 1, 0) := rfl
theorem fX3_rankOf_77 : fetch tX3_rankOf 77 = some (.goto (-73), 3, 4, 0, 0, 0) := rfl
theorem fX3_rankOf_80 : fetch tX3_rankOf 80 = some (.iload_n 2, 1, 2, 0, 0, 0) := rfl
theorem fX3_rankOf_81 : fetch tX3_rankOf 81 = some (.ireturn, 1, 0, 0, 0, 0) := rfl
def tJ13_bitCount_95d88 : List (Nat × TE) := [(0, .lload_n 0, 1, 0, 0, 0, 0), (1, .lload_n 0, 1, 0, 0, 0, 0), (2, .iconst 1, 1, 0, 0, 1, 0), (3, .lushr, 1, 0, 0, 0, 0), (4, .ldc2_w 314, 3, 0, 0, 0, 6148914691236517205), (7, .land, 1, 0, 0, 0, 0), (8, .lsub, 1, 0, 0, 0, 0), (9, .lstore_n 0, 1, 0, 0, 0, 0), (10, .lload_n 0, 1, 0, 0, 0, 0), (11, .ldc2_w 316, 3, 0, 0, 0, 3689348814741910323), (14, .land, 1, 0, 0, 0, 0), (15, .lload_n 0, 1, 0, 0, 0, 0), (16, .iconst 2, 1, 0, 0, 2, 0), (17, .lushr, 1, 0, 0, 0, 0), (18, .ldc2_w 316, 3, 0, 0, 0, 3689348814741910323), (21, .land, 1, 0, 0, 0, 0), (22, .ladd, 1, 0, 0, 0, 0), (23, .lstore_n 0, 1, 0, 0, 0, 0), (24, .lload_n 0, 1, 0, 0, 0, 0), (25, .lload_n 0, 1, 0, 0, 0, 0), (26, .iconst 4, 1, 0, 0, 4, 0), (27, .lushr, 1, 0, 0, 0, 0), (28, .ladd, 1, 0, 0, 0, 0), (29, .ldc2_w 318, 3, 0, 0, 0, 1085102592571150095), (32, .land, 1, 0, 0, 0, 0), (33, .lstore_n 0, 1, 0, 0, 0, 0), (34, .lload_n 0, 1, 0, 0, 0, 0), (35, .lload_n 0, 1, 0, 0, 0, 0), (36, .bipush 8, 2, 0, 0, 8, 0), (38, .lushr, 1, 0, 0, 0, 0), (39, .ladd, 1, 0, 0, 0, 0), (40, .lstore_n 0, 1, 0, 0, 0, 0), (41, .lload_n 0, 1, 0, 0, 0, 0), (42, .lload_n 0, 1, 0, 0, 0, 0), (43, .bipush 16, 2, 0, 0, 16, 0), (45, .lushr, 1, 0, 0, 0, 0), (46, .ladd, 1, 0, 0, 0, 0), (47, .lstore_n 0, 1, 0, 0, 0, 0), (48, .lload_n 0, 1, 0, 0, 0, 0), (49, .lload_n 0, 1, 0, 0, 0, 0), (50, .bipush 32, 2, 0, 0, 32, 0), (52, .lushr, 1, 0, 0, 0, 0), (53, .ladd, 1, 0, 0, 0, 0), (54, .lstore_n 0, 1, 0, 0, 0, 0), (55, .lload_n 0, 1, 0, 0, 0, 0), (56, .l2i, 1, 0, 0, 0, 0), (57, .bipush 127, 2, 0, 0, 127, 0), (59, .iand, 1, 0, 0, 0, 0), (60, .ireturn, 1, 0, 0, 0, 0)]
theorem tkJ13_bitCount_95d88 : tOk cJ13_bitCount_95d88 "java/lang/Long" 2 tJ13_bitCount_95d88 = true := by decide +kernel
theorem fJ13_bitCount_95d88_0 : fetch tJ13_bitCount_95d88 0 = some (.lload_n 0, 1, 0, 0, 0, 0) := rfl
theorem fJ13_bitCount_95d88_1 : fetch tJ13_bitCount_95d88 1 = some (.lload_n 0, 1, 0, 0, 0, 0) := rfl
theorem fJ13_bitCount_95d88_2 : fetch tJ13_bitCount_95d88 2 = some (.iconst 1, 1, 0, 0, 1, 0) := rfl
theorem fJ13_bitCount_95d88_3 : fetch tJ13_bitCount_95d88 3 = some (.lushr, 1, 0, 0, 0, 0) := rfl
theorem fJ13_bitCount_95d88_4 : fetch tJ13_bitCount_95d88 4 = some (.ldc2_w 314, 3, 0, 0, 0, 6148914691236517205) := rfl
theorem fJ13_bitCount_95d88_7 : fetch tJ13_bitCount_95d88 7 = some (.land, 1, 0, 0, 0, 0) := rfl
theorem fJ13_bitCount_95d88_8 : fetch tJ13_bitCount_95d88 8 = some (.lsub, 1, 0, 0, 0, 0) := rfl
theorem fJ13_bitCount_95d88_9 : fetch tJ13_bitCount_95d88 9 = some (.lstore_n 0, 1, 0, 0, 0, 0) := rfl
theorem fJ13_bitCount_95d88_10 : fetch tJ13_bitCount_95d88 10 = some (.lload_n 0, 1, 0, 0, 0, 0) := rfl
theorem fJ13_bitCount_95d88_11 : fetch tJ13_bitCount_95d88 11 = some (.ldc2_w 316, 3, 0, 0, 0, 3689348814741910323) := rfl
theorem fJ13_bitCount_95d88_14 : fetch tJ13_bitCount_95d88 14 = some (.land, 1, 0, 0, 0, 0) := rfl
theorem fJ13_bitCount_95d88_15 : fetch tJ13_bitCount_95d88 15 = some (.lload_n 0, 1, 0, 0, 0, 0) := rfl
theorem fJ13_bitCount_95d88_16 : fetch tJ13_bitCount_95d88 16 = some (.iconst 2, 1, 0, 0, 2, 0) := rfl
theorem fJ13_bitCount_95d88_17 : fetch tJ13_bitCount_95d88 17 = some (.lushr, 1, 0, 0, 0, 0) := rfl
theorem fJ13_bitCount_95d88_18 : fetch tJ13_bitCount_95d88 18 = some (.ldc2_w 316, 3, 0, 0, 0, 3689348814741910323) := rfl
theorem fJ13_bitCount_95d88_21 : fetch tJ13_bitCount_95d88 21 = some (.land, 1, 0, 0, 0, 0) := rfl
theorem fJ13_bitCount_95d88_22 : fetch tJ13_bitCount_95d88 22 = some (.ladd, 1, 0, 0, 0, 0) := rfl
theorem fJ13_bitCount_95d88_23 : fetch tJ13_bitCount_95d88 23 = some (.lstore_n 0, 1, 0, 0, 0, 0) := rfl
theorem fJ13_bitCount_95d88_24 : fetch tJ13_bitCount_95d88 24 = some (.lload_n 0, 1, 0, 0, 0, 0) := rfl
theorem fJ13_bitCount_95d88_25 : fetch tJ13_bitCount_95d88 25 = some (.lload_n 0, 1, 0, 0, 0, 0) := rfl
theorem fJ13_bitCount_95d88_26 : fetch tJ13_bitCount_95d88 26 = some (.iconst 4, 1, 0, 0, 4, 0) := rfl
theorem fJ13_bitCount_95d88_27 : fetch tJ13_bitCount_95d88 27 = some (.lushr, 1, 0, 0, 0, 0) := rfl
theorem fJ13_bitCount_95d88_28 : fetch tJ13_bitCount_95d88 28 = some (.ladd, 1, 0, 0, 0, 0) := rfl
theorem fJ13_bitCount_95d88_29 : fetch tJ13_bitCount_95d88 29 = some (.ldc2_w 318, 3, 0, 0, 0, 1085102592571150095) := rfl
theorem fJ13_bitCount_95d88_32 : fetch tJ13_bitCount_95d88 32 = some (.land, 1, 0, 0, 0, 0) := rfl
theorem fJ13_bitCount_95d88_33 : fetch tJ13_bitCount_95d88 33 = some (.lstore_n 0, 1, 0, 0, 0, 0) := rfl
theorem fJ13_bitCount_95d88_34 : fetch tJ13_bitCount_95d88 34 = some (.lload_n 0, 1, 0, 0, 0, 0) := rfl
theorem fJ13_bitCount_95d88_35 : fetch tJ13_bitCount_95d88 35 = some (.lload_n 0, 1, 0, 0, 0, 0) := rfl
theorem fJ13_bitCount_95d88_36 : fetch tJ13_bitCount_95d88 36 = some (.bipush 8, 2, 0, 0, 8, 0) := rfl
theorem fJ13_bitCount_95d88_38 : fetch tJ13_bitCount_95d88 38 = some (.lushr, 1, 0, 0, 0, 0) := rfl
theorem fJ13_bitCount_95d88_39 : fetch tJ13_bitCount_95d88 39 = some (.ladd, 1, 0, 0, 0, 0) := rfl
theorem fJ13_bitCount_95d88_40 : fetch tJ13_bitCount_95d88 40 = some (.lstore_n 0, 1, 0, 0, 0, 0) := rfl
theorem fJ13_bitCount_95d88_41 : fetch tJ13_bitCount_95d88 41 = some (.lload_n 0, 1, 0, 0, 0, 0) := rfl
theorem fJ13_bitCount_95d88_42 : fetch tJ13_bitCount_95d88 42 = some (.lload_n 0, 1, 0, 0, 0, 0) := rfl
theorem fJ13_bitCount_95d88_43 : fetch tJ13_bitCount_95d88 43 = some (.bipush 16, 2, 0, 0, 16, 0) := rfl
theorem fJ13_bitCount_95d88_45 : fetch tJ13_bitCount_95d88 45 = some (.lushr, 1, 0, 0, 0, 0) := rfl
theorem fJ13_bitCount_95d88_46 : fetch tJ13_bitCount_95d88 46 = some (.ladd, 1, 0, 0, 0, 0) := rfl
theorem fJ13_bitCount_95d88_47 : fetch tJ13_bitCount_95d88 47 = some (.lstore_n 0, 1, 0, 0, 0, 0) := rfl
theorem fJ13_bitCount_95d88_48 : fetch tJ13_bitCount_95d88 48 = some (.lload_n 0, 1, 0, 0, 0, 0) := rfl
theorem fJ13_bitCount_95d88_49 : fetch tJ13_bitCount_95d88 49 = some (.lload_n 0, 1, 0, 0, 0, 0) := rfl
theorem fJ13_bitCount_95d88_50 : fetch tJ13_bitCount_95d88 50 = some (.bipush 32, 2, 0, 0, 32, 0) := rfl
theorem fJ13_bitCount_95d88_52 : fetch tJ13_bitCount_95d88 52 = some (.lushr, 1, 0, 0, 0, 0) := rfl
theorem fJ13_bitCount_95d88_53 : fetch tJ13_bitCount_95d88 53 = some (.ladd, 1, 0, 0, 0, 0) := rfl
theorem fJ13_bitCount_95d88_54 : fetch tJ13_bitCount_95d88 54 = some (.lstore_n 0, 1, 0, 0, 0, 0) := rfl
theorem fJ13_bitCount_95d88_55 : fetch tJ13_bitCount_95d88 55 = some (.lload_n 0, 1, 0, 0, 0, 0) := rfl
theorem fJ13_bitCount_95d88_56 : fetch tJ13_bitCount_95d88 56 = some (.l2i, 1, 0, 0, 0, 0) := rfl
theorem fJ13_bitCount_95d88_57 : fetch tJ13_bitCount_95d88 57 = some (.bipush 127, 2, 0, 0, 127, 0) := rfl
theorem fJ13_bitCount_95d88_59 : fetch tJ13_bitCount_95d88 59 = some (.iand, 1, 0, 0, 0, 0) := rfl
theorem fJ13_bitCount_95d88_60 : fetch tJ13_bitCount_95d88 60 = some (.ireturn, 1, 0, 0, 0, 0) := rfl
end TABS
end
section
section TABM
def tX4_in : List (Nat × TE) := [(0, .iload_n 0, 1, 0, 0, 0, 0), (1, .iload_n 1, 1, 1, 0, 0, 0), (2, .if_icmp .lt 12, 3, 14, 0, 0, 0), (5, .iload_n 0, 1, 0, 0, 0, 0), (6, .iload_n 2, 1, 2, 0, 0, 0), (7, .if_icmp .gt 7, 3, 14, 0, 0, 0), (10, .iconst 1, 1, 0, 0, 1, 0), (11, .goto 4, 3, 15, 0, 0, 0), (14, .iconst 0, 1, 0, 0, 0, 0), (15, .ireturn, 1, 0, 0, 0, 0)]
theorem tkX4_in : tOk cX4_in "RumourSourceModel" 3 tX4_in = true := by decide +kernel
theorem fX4_in_0 : fetch tX4_in 0 = some (.iload_n 0, 1, 0, 0, 0, 0) := rfl
theorem fX4_in_1 : fetch tX4_in 1 = some (.iload_n 1, 1, 1, 0, 0, 0) := rfl
theorem fX4_in_2 : fetch tX4_in 2 = some (.if_icmp .lt 12, 3, 14, 0, 0, 0) := rfl
theorem fX4_in_5 : fetch tX4_in 5 = some (.iload_n 0, 1, 0, 0, 0, 0) := rfl
theorem fX4_in_6 : fetch tX4_in 6 = some (.iload_n 2, 1, 2, 0, 0, 0) := rfl
theorem fX4_in_7 : fetch tX4_in 7 = some (.if_icmp .gt 7, 3, 14, 0, 0, 0) := rfl
theorem fX4_in_10 : fetch tX4_in 10 = some (.iconst 1, 1, 0, 0, 1, 0) := rfl
theorem fX4_in_11 : fetch tX4_in 11 = some (.goto 4, 3, 15, 0, 0, 0) := rfl
theorem fX4_in_14 : fetch tX4_in 14 = some (.iconst 0, 1, 0, 0, 0, 0) := rfl
theorem fX4_in_15 : fetch tX4_in 15 = some (.ireturn, 1, 0, 0, 0, 0) := rfl
def tX4_copies : List (Nat × TE) := [(0, .iconst 0, 1, 0, 0, 0, 0), (1, .istore_n 3, 1, 3, 0, 0, 0), (2, .iload_n 3, 1, 3, 0, 0, 0), (3, .bipush 59, 2, 0, 0, 59, 0), (5, .if_icmp .ge 31, 3, 36, 0, 0, 0), (8, .aload_n 0, 1, 0, 0, 0, 0), (9, .getfield 7, 3, 4, 0, 0, 0), (12, .bipush 59, 2, 0, 0, 59, 0), (14, .iload_n 2, 1, 2, 0, 0, 0), (15, .imul, 1, 0, 0, 0, 0), (16, .iload_n 3, 1, 3, 0, 0, 0), (17, .iadd, 1, 0, 0, 0, 0), (18, .aload_n 0, 1, 0, 0, 0, 0), (19, .getfield 7, 3, 4, 0, 0, 0), (22, .bipush 59, 2, 0, 0, 59, 0), (24, .iload_n 1, 1, 1, 0, 0, 0), (25, .imul, 1, 0, 0, 0, 0), (26, .iload_n 3, 1, 3, 0, 0, 0), (27, .iadd, 1, 0, 0, 0, 0), (28, .iaload, 1, 0, 0, 0, 0), (29, .iastore, 1, 0, 0, 0, 0), (30, .iinc 3 1, 3, 3, 0, 1, 0), (33, .goto (-31), 3, 2, 0, 0, 0), (36, .return_, 1, 0, 0, 0, 0)]
theorem tkX4_copies : tOk cX4_copies "RumourSourceModel" 4 tX4_copies = true := by decide +kernel
theorem fX4_copies_0 : fetch tX4_copies 0 = some (.iconst 0, 1, 0, 0, 0, 0) := rfl
theorem fX4_copies_1 : fetch tX4_copies 1 = some (.istore_n 3, 1, 3, 0, 0, 0) := rfl
theorem fX4_copies_2 : fetch tX4_copies 2 = some (.iload_n 3, 1, 3, 0, 0, 0) := rfl
theorem fX4_copies_3 : fetch tX4_copies 3 = some (.bipush 59, 2, 0, 0, 59, 0) := rfl
theorem fX4_copies_5 : fetch tX4_copies 5 = some (.if_icmp .ge 31, 3, 36, 0, 0, 0) := rfl
theorem fX4_copies_8 : fetch tX4_copies 8 = some (.aload_n 0, 1, 0, 0, 0, 0) := rfl
theorem fX4_copies_9 : fetch tX4_copies 9 = some (.getfield 7, 3, 4, 0, 0, 0) := rfl
theorem fX4_copies_12 : fetch tX4_copies 12 = some (.bipush 59, 2, 0, 0, 59, 0) := rfl
theorem fX4_copies_14 : fetch tX4_copies 14 = some (.iload_n 2, 1, 2, 0, 0, 0) := rfl
theorem fX4_copies_15 : fetch tX4_copies 15 = some (.imul, 1, 0, 0, 0, 0) := rfl
theorem fX4_copies_16 : fetch tX4_copies 16 = some (.iload_n 3, 1, 3, 0, 0, 0) := rfl
theorem fX4_copies_17 : fetch tX4_copies 17 = some (.iadd, 1, 0, 0, 0, 0) := rfl
theorem fX4_copies_18 : fetch tX4_copies 18 = some (.aload_n 0, 1, 0, 0, 0, 0) := rfl
theorem fX4_copies_19 : fetch tX4_copies 19 = some (.getfield 7, 3, 4, 0, 0, 0) := rfl
theorem fX4_copies_22 : fetch tX4_copies 22 = some (.bipush 59, 2, 0, 0, 59, 0) := rfl
theorem fX4_copies_24 : fetch tX4_copies 24 = some (.iload_n 1, 1, 1, 0, 0, 0) := rfl
theorem fX4_copies_25 : fetch tX4_copies 25 = some (.imul, 1, 0, 0, 0, 0) := rfl
theorem fX4_copies_26 : fetch tX4_copies 26 = some (.iload_n 3, 1, 3, 0, 0, 0) := rfl
theorem fX4_copies_27 : fetch tX4_copies 27 = some (.iadd, 1, 0, 0, 0, 0) := rfl
theorem fX4_copies_28 : fetch tX4_copies 28 = some (.iaload, 1, 0, 0, 0, 0) := rfl
theorem fX4_copies_29 : fetch tX4_copies 29 = some (.iastore, 1, 0, 0, 0, 0) := rfl
theorem fX4_copies_30 : fetch tX4_copies 30 = some (.iinc 3 1, 3, 3, 0, 1, 0) := rfl
theorem fX4_copies_33 : fetch tX4_copies 33 = some (.goto (-31), 3, 2, 0, 0, 0) := rfl
theorem fX4_copies_36 : fetch tX4_copies 36 = some (.return_, 1, 0, 0, 0, 0) := rfl
def tX4_saves : List (Nat × TE) := [(0, .iconst 1, 1, 0, 0, 1, 0), (1, .istore_n 1, 1, 1, 0, 0, 0), (2, .iload_n 1, 1, 1, 0, 0, 0), (3, .iconst 5, 1, 0, 0, 5, 0), (4, .if_icmp .ge 25, 3, 29, 0, 0, 0), (7, .aload_n 0, 1, 0, 0, 0, 0), (8, .getfield 30, 3, 4, 1, 0, 0), (11, .iconst 5, 1, 0, 0, 5, 0), (12, .if_icmp .ne 17, 3, 29, 0, 0, 0), (15, .aload_n 0, 1, 0, 0, 0, 0), (16, .iload_n 1, 1, 1, 0, 0, 0), (17, .iconst 1, 1, 0, 0, 1, 0), (18, .iadd, 1, 0, 0, 0, 0), (19, .iload_n 1, 1, 1, 0, 0, 0), (20, .invokevirtual 34, 3, 0, 4, 0, 0), (23, .iinc 1 1, 3, 1, 0, 1, 0), (26, .goto (-24), 3, 2, 0, 0, 0), (29, .aload_n 0, 1, 0, 0, 0, 0), (30, .dup, 1, 0, 0, 0, 0), (31, .getfield 30, 3, 4, 1, 0, 0), (34, .aload_n 0, 1, 0, 0, 0, 0), (35, .getfield 30, 3, 4, 1, 0, 0), (38, .iconst 5, 1, 0, 0, 5, 0), (39, .if_icmp .ne 7, 3, 46, 0, 0, 0), (42, .iconst 1, 1, 0, 0, 1, 0), (43, .goto 4, 3, 47, 0, 0, 0), (46, .iconst 0, 1, 0, 0, 0, 0), (47, .isub, 1, 0, 0, 0, 0), (48, .putfield 30, 3, 4, 1, 0, 0), (51, .aload_n 0, 1, 0, 0, 0, 0), (52, .dup, 1, 0, 0, 0, 0), (53, .getfield 30, 3, 4, 1, 0, 0), (56, .iconst 1, 1, 0, 0, 1, 0), (57, .iadd, 1, 0, 0, 0, 0), (58, .putfield 30, 3, 4, 1, 0, 0), (61, .aload_n 0, 1, 0, 0, 0, 0), (62, .iconst 0, 1, 0, 0, 0, 0), (63, .aload_n 0, 1, 0, 0, 0, 0), (64, .getfield 30, 3, 4, 1, 0, 0), (67, .invokevirtual 34, 3, 0, 4, 0, 0), (70, .aload_n 0, 1, 0, 0, 0, 0), (71, .iconst 0, 1, 0, 0, 0, 0), (72, .putfield 38, 3, 4, 2, 0, 0), (75, .return_, 1, 0, 0, 0, 0)]
theorem tkX4_saves : tOk cX4_saves "RumourSourceModel" 2 tX4_saves = true := by decide +kernel
theorem fX4_saves_0 : fetch tX4_saves 0 = some (.iconst 1, 1, 0, 0, 1, 0) := rfl
theorem fX4_saves_1 : fetch tX4_saves 1 = some (.istore_n 1, 1, 1, 0, 0, 0) := rfl
theorem fX4_saves_2 : fetch tX4_saves 2 = some (.iload_n 1, 1, 1, 0, 0, 0) := rfl
theorem fX4_saves_3 : fetch tX4_saves 3 = some (.iconst 5, 1, 0, 0, 5, 0) := rfl
theorem fX4_saves_4 : fetch tX4_saves 4 = some (.if_icmp .ge 25, 3, 29, 0, 0, 0) := rfl
theorem fX4_saves_7 : fetch tX4_saves 7 = some (.aload_n 0, 1, 0, 0, 0, 0) := rfl
theorem fX4_saves_8 : fetch tX4_saves 8 = some (.getfield 30, 3, 4, 1, 0, 0) := rfl
theorem fX4_saves_11 : fetch tX4_saves 11 = some (.iconst 5, 1, 0, 0, 5, 0) := rfl
theorem fX4_saves_12 : fetch tX4_saves 12 = some (.if_icmp .ne 17, 3, 29, 0, 0, 0) := rfl
theorem fX4_saves_15 : fetch tX4_saves 15 = some (.aload_n 0, 1, 0, 0, 0, 0) := rfl
theorem fX4_saves_16 : fetch tX4_saves 16 = some (.iload_n 1, 1, 1, 0, 0, 0) := rfl
theorem fX4_saves_17 : fetch tX4_saves 17 = some (.iconst 1, 1, 0, 0, 1, 0) := rfl
theorem fX4_saves_18 : fetch tX4_saves 18 = some (.iadd, 1, 0, 0, 0, 0) := rfl
theorem fX4_saves_19 : fetch tX4_saves 19 = some (.iload_n 1, 1, 1, 0, 0, 0) := rfl
theorem fX4_saves_20 : fetch tX4_saves 20 = some (.invokevirtual 34, 3, 0, 4, 0, 0) := rfl
theorem fX4_saves_23 : fetch tX4_saves 23 = some (.iinc 1 1, 3, 1, 0, 1, 0) := rfl
theorem fX4_saves_26 : fetch tX4_saves 26 = some (.goto (-24), 3, 2, 0, 0, 0) := rfl
theorem fX4_saves_29 : fetch tX4_saves 29 = some (.aload_n 0, 1, 0, 0, 0, 0) := rfl
theorem fX4_saves_30 : fetch tX4_saves 30 = some (.dup, 1, 0, 0, 0, 0) := rfl
theorem fX4_saves_31 : fetch tX4_saves 31 = some (.getfield 30, 3, 4, 1, 0, 0) := rfl
theorem fX4_saves_34 : fetch tX4_saves 34 = some (.aload_n 0, 1, 0, 0, 0, 0) := rfl
theorem fX4_saves_35 : fetch tX4_saves 35 = some (.getfield 30, 3, 4, 1, 0, 0) := rfl
theorem fX4_saves_38 : fetch tX4_saves 38 = some (.iconst 5, 1, 0, 0, 5, 0) := rfl
theorem fX4_saves_39 : fetch tX4_saves 39 = some (.if_icmp .ne 7, 3, 46, 0, 0, 0) := rfl
theorem fX4_saves_42 : fetch tX4_saves 42 = some (.iconst 1, 1, 0, 0, 1, 0) := rfl
theorem fX4_saves_43 : fetch tX4_saves 43 = some (.goto 4, 3, 47, 0, 0, 0) := rfl
theorem fX4_saves_46 : fetch tX4_saves 46 = some (.iconst 0, 1, 0, 0, 0, 0) := rfl
theorem fX4_saves_47 : fetch tX4_saves 47 = some (.isub, 1, 0, 0, 0, 0) := rfl
theorem fX4_saves_48 : fetch tX4_saves 48 = some (.putfield 30, 3, 4, 1, 0, 0) := rfl
theorem fX4_saves_51 : fetch tX4_saves 51 = some (.aload_n 0, 1, 0, 0, 0, 0) := rfl
theorem fX4_saves_52 : fetch tX4_saves 52 = some (.dup, 1, 0, 0, 0, 0) := rfl
theorem fX4_saves_53 : fetch tX4_saves 53 = some (.getfield 30, 3, 4, 1, 0, 0) := rfl
theorem fX4_saves_56 : fetch tX4_saves 56 = some (.iconst 1, 1, 0, 0, 1, 0) := rfl
theorem fX4_saves_57 : fetch tX4_saves 57 = some (.iadd, 1, 0, 0, 0, 0) := rfl
theorem fX4_saves_58 : fetch tX4_saves 58 = some (.putfield 30, 3, 4, 1, 0, 0) := rfl
theorem fX4_saves_61 : fetch tX4_saves 61 = some (.aload_n 0, 1, 0, 0, 0, 0) := rfl
theorem fX4_saves_62 : fetch tX4_saves 62 = some (.iconst 0, 1, 0, 0, 0, 0) := rfl
theorem fX4_saves_63 : fetch tX4_saves 63 = some (.aload_n 0, 1, 0, 0, 0, 0) := rfl
theorem fX4_saves_64 : fetch tX4_saves 64 = some (.getfield 30, 3, 4, 1, 0, 0) := rfl
theorem fX4_saves_67 : fetch tX4_saves 67 = some (.invokevirtual 34, 3, 0, 4, 0, 0) := rfl
theorem fX4_saves_70 : fetch tX4_saves 70 = some (.aload_n 0, 1, 0, 0, 0, 0) := rfl
theorem fX4_saves_71 : fetch tX4_saves 71 = some (.iconst 0, 1, 0, 0, 0, 0) := rfl
theorem fX4_saves_72 : fetch tX4_saves 72 = some (.putfield 38, 3, 4, 2, 0, 0) := rfl
theorem fX4_saves_75 : fetch tX4_saves 75 = some (.return_, 1, 0, 0, 0, 0) := rfl
def tX4_isNode : List (Nat × TE) := [(0, .iload_n 0, 1, 0, 0, 0, 0), (1, .iconst 0, 1, 0, 0, 0, 0), (2, .bipush 7, 2, 0, 0, 7, 0), (4, .invokestatic 42, 3, 0, 4, 0, 0), (7, .ireturn, 1, 0, 0, 0, 0)]
theorem tkX4_isNode : tOk cX4_isNode "RumourSourceModel" 1 tX4_isNode = true := by decide +kernel
theorem fX4_isNode_0 : fetch tX4_isNode 0 = some (.iload_n 0, 1, 0, 0, 0, 0) := rfl
theorem fX4_isNode_1 : fetch tX4_isNode 1 = some (.iconst 0, 1, 0, 0, 0, 0) := rfl
theorem fX4_isNode_2 : fetch tX4_isNode 2 = some (.bipush 7, 2, 0, 0, 7, 0) := rfl
theorem fX4_isNode_4 : fetch tX4_isNode 4 = some (.invokestatic 42, 3, 0, 4, 0, 0) := rfl
theorem fX4_isNode_7 : fetch tX4_isNode 7 = some (.ireturn, 1, 0, 0, 0, 0) := rfl
def tX4_isEdge : List (Nat × TE) := [(0, .iload_n 1, 1, 1, 0, 0, 0), (1, .iconst 0, 1, 0, 0, 0, 0), (2, .aload_n 0, 1, 0, 0, 0, 0), (3, .getfield 7, 3, 4, 0, 0, 0), (6, .iconst 0, 1, 0, 0, 0, 0), (7, .iaload, 1, 0, 0, 0, 0), (8, .iconst 1, 1, 0, 0, 1, 0), (9, .isub, 1, 0, 0, 0, 0), (10, .invokestatic 42, 3, 0, 4, 0, 0), (13, .ireturn, 1, 0, 0, 0, 0)]
theorem tkX4_isEdge : tOk cX4_isEdge "RumourSourceModel" 2 tX4_isEdge = true := by decide +kernel
theorem fX4_isEdge_0 : fetch tX4_isEdge 0 = some (.iload_n 1, 1, 1, 0, 0, 0) := rfl
theorem fX4_isEdge_1 : fetch tX4_isEdge 1 = some (.iconst 0, 1, 0, 0, 0, 0) := rfl
theorem fX4_isEdge_2 : fetch tX4_isEdge 2 = some (.aload_n 0, 1, 0, 0, 0, 0) := rfl
theorem fX4_isEdge_3 : fetch tX4_isEdge 3 = some (.getfield 7, 3, 4, 0, 0, 0) := rfl
theorem fX4_isEdge_6 : fetch tX4_isEdge 6 = some (.iconst 0, 1, 0, 0, 0, 0) := rfl
theorem fX4_isEdge_7 : fetch tX4_isEdge 7 = some (.iaload, 1, 0, 0, 0, 0) := rfl
theorem fX4_isEdge_8 : fetch tX4_isEdge 8 = some (.iconst 1, 1, 0, 0, 1, 0) := rfl
theorem fX4_isEdge_9 : fetch tX4_isEdge 9 = some (.isub, 1, 0, 0, 0, 0) := rfl
theorem fX4_isEdge_10 : fetch tX4_isEdge 10 = some (.invokestatic 42, 3, 0, 4, 0, 0) := rfl
theorem fX4_isEdge_13 : fetch tX4_isEdge 13 = some (.ireturn, 1, 0, 0, 0, 0) := rfl
def tX4_of : List (Nat × TE) := [(0, .aload_n 0, 1, 0, 0, 0, 0), (1, .getfield 7, 3, 4, 0, 0, 0), (4, .iconst 3, 1, 0, 0, 3, 0), (5, .iconst 4, 1, 0, 0, 4, 0), (6, .iload_n 1, 1, 1, 0, 0, 0), (7, .imul, 1, 0, 0, 0, 0), (8, .iadd, 1, 0, 0, 0, 0), (9, .iload_n 2, 1, 2, 0, 0, 0), (10, .iadd, 1, 0, 0, 0, 0), (11, .iaload, 1, 0, 0, 0, 0), (12, .ireturn, 1, 0, 0, 0, 0)]
theorem tkX4_of : tOk cX4_of "RumourSourceModel" 3 tX4_of = true := by decide +kernel
theorem fX4_of_0 : fetch tX4_of 0 = some (.aload_n 0, 1, 0, 0, 0, 0) := rfl
theorem fX4_of_1 : fetch tX4_of 1 = some (.getfield 7, 3, 4, 0, 0, 0) := rfl
theorem fX4_of_4 : fetch tX4_of 4 = some (.iconst 3, 1, 0, 0, 3, 0) := rfl
theorem fX4_of_5 : fetch tX4_of 5 = some (.iconst 4, 1, 0, 0, 4, 0) := rfl
theorem fX4_of_6 : fetch tX4_of 6 = some (.iload_n 1, 1, 1, 0, 0, 0) := rfl
theorem fX4_of_7 : fetch tX4_of 7 = some (.imul, 1, 0, 0, 0, 0) := rfl
theorem fX4_of_8 : fetch tX4_of 8 = some (.iadd, 1, 0, 0, 0, 0) := rfl
theorem fX4_of_9 : fetch tX4_of 9 = some (.iload_n 2, 1, 2, 0, 0, 0) := rfl
theorem fX4_of_10 : fetch tX4_of 10 = some (.iadd, 1, 0, 0, 0, 0) := rfl
theorem fX4_of_11 : fetch tX4_of 11 = some (.iaload, 1, 0, 0, 0, 0) := rfl
theorem fX4_of_12 : fetch tX4_of 12 = some (.ireturn, 1, 0, 0, 0, 0) := rfl
def tX4_between : List (Nat × TE) := [(0, .iconst (-1), 1, 0, 0, (-1), 0), (1, .istore_n 3, 1, 3, 0, 0, 0), (2, .iconst 0, 1, 0, 0, 0, 0), (3, .istore 4, 2, 4, 0, 0, 0), (5, .iload 4, 2, 4, 0, 0, 0), (7, .aload_n 0, 1, 0, 0, 0, 0), (8, .getfield 7, 3, 4, 0, 0, 0), (11, .iconst 0, 1, 0, 0, 0, 0), (12, .iaload, 1, 0, 0, 0, 0), (13, .if_icmp .ge 38, 3, 51, 0, 0, 0), (16, .aload_n 0, 1, 0, 0, 0, 0), (17, .iload 4, 2, 4, 0, 0, 0), (19, .iconst 0, 1, 0, 0, 0, 0), (20, .invokevirtual 46, 3, 0, 4, 0, 0), (23, .iload_n 1, 1, 1, 0, 0, 0), (24, .if_icmp .ne 19, 3, 43, 0, 0, 0), (27, .aload_n 0, 1, 0, 0, 0, 0), (28, .iload 4, 2, 4, 0, 0, 0), (30, .iconst 1, 1, 0, 0, 1, 0), (31, .invokevirtual 46, 3, 0, 4, 0, 0), (34, .iload_n 2, 1, 2, 0, 0, 0), (35, .if_icmp .ne 8, 3, 43, 0, 0, 0), (38, .iload 4, 2, 4, 0, 0, 0), (40, .goto 4, 3, 44, 0, 0, 0), (43, .iload_n 3, 1, 3, 0, 0, 0), (44, .istore_n 3, 1, 3, 0, 0, 0), (45, .iinc 4 1, 3, 4, 0, 1, 0), (48, .goto (-43), 3, 5, 0, 0, 0), (51, .iload_n 3, 1, 3, 0, 0, 0), (52, .ireturn, 1, 0, 0, 0, 0)]
theorem tkX4_between : tOk cX4_between "RumourSourceModel" 5 tX4_between = true := by decide +kernel
theorem fX4_between_0 : fetch tX4_between 0 = some (.iconst (-1), 1, 0, 0, (-1), 0) := rfl
theorem fX4_between_1 : fetch tX4_between 1 = some (.istore_n 3, 1, 3, 0, 0, 0) := rfl
theorem fX4_between_2 : fetch tX4_between 2 = some (.iconst 0, 1, 0, 0, 0, 0) := rfl
theorem fX4_between_3 : fetch tX4_between 3 = some (.istore 4, 2, 4, 0, 0, 0) := rfl
theorem fX4_between_5 : fetch tX4_between 5 = some (.iload 4, 2, 4, 0, 0, 0) := rfl
theorem fX4_between_7 : fetch tX4_between 7 = some (.aload_n 0, 1, 0, 0, 0, 0) := rfl
theorem fX4_between_8 : fetch tX4_between 8 = some (.getfield 7, 3, 4, 0, 0, 0) := rfl
theorem fX4_between_11 : fetch tX4_between 11 = some (.iconst 0, 1, 0, 0, 0, 0) := rfl
theorem fX4_between_12 : fetch tX4_between 12 = some (.iaload, 1, 0, 0, 0, 0) := rfl
theorem fX4_between_13 : fetch tX4_between 13 = some (.if_icmp .ge 38, 3, 51, 0, 0, 0) := rfl
theorem fX4_between_16 : fetch tX4_between 16 = some (.aload_n 0, 1, 0, 0, 0, 0) := rfl
theorem fX4_between_17 : fetch tX4_between 17 = some (.iload 4, 2, 4, 0, 0, 0) := rfl
theorem fX4_between_19 : fetch tX4_between 19 = some (.iconst 0, 1, 0, 0, 0, 0) := rfl
theorem fX4_between_20 : fetch tX4_between 20 = some (.invokevirtual 46, 3, 0, 4, 0, 0) := rfl
theorem fX4_between_23 : fetch tX4_between 23 = some (.iload_n 1, 1, 1, 0, 0, 0) := rfl
theorem fX4_between_24 : fetch tX4_between 24 = some (.if_icmp .ne 19, 3, 43, 0, 0, 0) := rfl
theorem fX4_between_27 : fetch tX4_between 27 = some (.aload_n 0, 1, 0, 0, 0, 0) := rfl
theorem fX4_between_28 : fetch tX4_between 28 = some (.iload 4, 2, 4, 0, 0, 0) := rfl
theorem fX4_between_30 : fetch tX4_between 30 = some (.iconst 1, 1, 0, 0, 1, 0) := rfl
theorem fX4_between_31 : fetch tX4_between 31 = some (.invokevirtual 46, 3, 0, 4, 0, 0) := rfl
theorem fX4_between_34 : fetch tX4_between 34 = some (.iload_n 2, 1, 2, 0, 0, 0) := rfl
theorem fX4_between_35 : fetch tX4_between 35 = some (.if_icmp .ne 8, 3, 43, 0, 0, 0) := rfl
theorem fX4_between_38 : fetch tX4_between 38 = some (.iload 4, 2, 4, 0, 0, 0) := rfl
theorem fX4_between_40 : fetch tX4_between 40 = some (.goto 4, 3, 44, 0, 0, 0) := rfl
theorem fX4_between_43 : fetch tX4_between 43 = some (.iload_n 3, 1, 3, 0, 0, 0) := rfl
theorem fX4_between_44 : fetch tX4_between 44 = some (.istore_n 3, 1, 3, 0, 0, 0) := rfl
theorem fX4_between_45 : fetch tX4_between 45 = some (.iinc 4 1, 3, 4, 0, 1, 0) := rfl
theorem fX4_between_48 : fetch tX4_between 48 = some (.goto (-43), 3, 5, 0, 0, 0) := rfl
theorem fX4_between_51 : fetch tX4_between 51 = some (.iload_n 3, 1, 3, 0, 0, 0) := rfl
theorem fX4_between_52 : fetch tX4_between 52 = some (.ireturn, 1, 0, 0, 0, 0) := rfl
def tX4_lays : List (Nat × TE) := [(0, .aload_n 0, 1, 0, 0, 0, 0), (1, .getfield 7, 3, 4, 0, 0, 0), (4, .iconst 3, 1, 0, 0, 3, 0), (5, .iconst 4, 1, 0, 0, 4, 0), (6, .iload_n 1, 1, 1, 0, 0, 0), (7, .imul, 1, 0, 0, 0, 0), (8, .iadd, 1, 0, 0, 0, 0), (9, .iload_n 2, 1, 2, 0, 0, 0), (10, .iastore, 1, 0, 0, 0, 0), (11, .aload_n 0, 1, 0, 0, 0, 0), (12, .getfield 7, 3, 4, 0, 0, 0), (15, .iconst 3, 1, 0, 0, 3, 0), (16, .iconst 4, 1, 0, 0, 4, 0), (17, .iload_n 1, 1, 1, 0, 0, 0), (18, .imul, 1, 0, 0, 0, 0), (19, .iadd, 1, 0, 0, 0, 0), (20, .iconst 1, 1, 0, 0, 1, 0), (21, .iadd, 1, 0, 0, 0, 0), (22, .iload_n 3, 1, 3, 0, 0, 0), (23, .iastore, 1, 0, 0, 0, 0), (24, .aload_n 0, 1, 0, 0, 0, 0), (25, .getfield 7, 3, 4, 0, 0, 0), (28, .iconst 3, 1, 0, 0, 3, 0), (29, .iconst 4, 1, 0, 0, 4, 0), (30, .iload_n 1, 1, 1, 0, 0, 0), (31, .imul, 1, 0, 0, 0, 0), (32, .iadd, 1, 0, 0, 0, 0), (33, .iconst 2, 1, 0, 0, 2, 0), (34, .iadd, 1, 0, 0, 0, 0), (35, .iload 4, 2, 4, 0, 0, 0), (37, .iastore, 1, 0, 0, 0, 0), (38, .aload_n 0, 1, 0, 0, 0, 0), (39, .getfield 7, 3, 4, 0, 0, 0), (42, .iconst 3, 1, 0, 0, 3, 0), (43, .iconst 4, 1, 0, 0, 4, 0), (44, .iload_n 1, 1, 1, 0, 0, 0), (45, .imul, 1, 0, 0, 0, 0), (46, .iadd, 1, 0, 0, 0, 0), (47, .iconst 3, 1, 0, 0, 3, 0), (48, .iadd, 1, 0, 0, 0, 0), (49, .iload 5, 2, 5, 0, 0, 0), (51, .iastore, 1, 0, 0, 0, 0), (52, .return_, 1, 0, 0, 0, 0)]
theorem tkX4_lays : tOk cX4_lays "RumourSourceModel" 6 tX4_lays = true := by decide +kernel
theorem fX4_lays_0 : fetch tX4_lays 0 = some (.aload_n 0, 1, 0, 0, 0, 0) := rfl
theorem fX4_lays_1 : fetch tX4_lays 1 = some (.getfield 7, 3, 4, 0, 0, 0) := rfl
theorem fX4_lays_4 : fetch tX4_lays 4 = some (.iconst 3, 1, 0, 0, 3, 0) := rfl
theorem fX4_lays_5 : fetch tX4_lays 5 = some (.iconst 4, 1, 0, 0, 4, 0) := rfl
theorem fX4_lays_6 : fetch tX4_lays 6 = some (.iload_n 1, 1, 1, 0, 0, 0) := rfl
theorem fX4_lays_7 : fetch tX4_lays 7 = some (.imul, 1, 0, 0, 0, 0) := rfl
theorem fX4_lays_8 : fetch tX4_lays 8 = some (.iadd, 1, 0, 0, 0, 0) := rfl
theorem fX4_lays_9 : fetch tX4_lays 9 = some (.iload_n 2, 1, 2, 0, 0, 0) := rfl
theorem fX4_lays_10 : fetch tX4_lays 10 = some (.iastore, 1, 0, 0, 0, 0) := rfl
theorem fX4_lays_11 : fetch tX4_lays 11 = some (.aload_n 0, 1, 0, 0, 0, 0) := rfl
theorem fX4_lays_12 : fetch tX4_lays 12 = some (.getfield 7, 3, 4, 0, 0, 0) := rfl
theorem fX4_lays_15 : fetch tX4_lays 15 = some (.iconst 3, 1, 0, 0, 3, 0) := rfl
theorem fX4_lays_16 : fetch tX4_lays 16 = some (.iconst 4, 1, 0, 0, 4, 0) := rfl
theorem fX4_lays_17 : fetch tX4_lays 17 = some (.iload_n 1, 1, 1, 0, 0, 0) := rfl
theorem fX4_lays_18 : fetch tX4_lays 18 = some (.imul, 1, 0, 0, 0, 0) := rfl
theorem fX4_lays_19 : fetch tX4_lays 19 = some (.iadd, 1, 0, 0, 0, 0) := rfl
theorem fX4_lays_20 : fetch tX4_lays 20 = some (.iconst 1, 1, 0, 0, 1, 0) := rfl
theorem fX4_lays_21 : fetch tX4_lays 21 = some (.iadd, 1, 0, 0, 0, 0) := rfl
theorem fX4_lays_22 : fetch tX4_lays 22 = some (.iload_n 3, 1, 3, 0, 0, 0) := rfl
theorem fX4_lays_23 : fetch tX4_lays 23 = some (.iastore, 1, 0, 0, 0, 0) := rfl
theorem fX4_lays_24 : fetch tX4_lays 24 = some (.aload_n 0, 1, 0, 0, 0, 0) := rfl
theorem fX4_lays_25 : fetch tX4_lays 25 = some (.getfield 7, 3, 4, 0, 0, 0) := rfl
theorem fX4_lays_28 : fetch tX4_lays 28 = some (.iconst 3, 1, 0, 0, 3, 0) := rfl
theorem fX4_lays_29 : fetch tX4_lays 29 = some (.iconst 4, 1, 0, 0, 4, 0) := rfl
theorem fX4_lays_30 : fetch tX4_lays 30 = some (.iload_n 1, 1, 1, 0, 0, 0) := rfl
theorem fX4_lays_31 : fetch tX4_lays 31 = some (.imul, 1, 0, 0, 0, 0) := rfl
theorem fX4_lays_32 : fetch tX4_lays 32 = some (.iadd, 1, 0, 0, 0, 0) := rfl
theorem fX4_lays_33 : fetch tX4_lays 33 = some (.iconst 2, 1, 0, 0, 2, 0) := rfl
theorem fX4_lays_34 : fetch tX4_lays 34 = some (.iadd, 1, 0, 0, 0, 0) := rfl
theorem fX4_lays_35 : fetch tX4_lays 35 = some (.iload 4, 2, 4, 0, 0, 0) := rfl
theorem fX4_lays_37 : fetch tX4_lays 37 = some (.iastore, 1, 0, 0, 0, 0) := rfl
theorem fX4_lays_38 : fetch tX4_lays 38 = some (.aload_n 0, 1, 0, 0, 0, 0) := rfl
theorem fX4_lays_39 : fetch tX4_lays 39 = some (.getfield 7, 3, 4, 0, 0, 0) := rfl
theorem fX4_lays_42 : fetch tX4_lays 42 = some (.iconst 3, 1, 0, 0, 3, 0) := rfl
theorem fX4_lays_43 : fetch tX4_lays 43 = some (.iconst 4, 1, 0, 0, 4, 0) := rfl
theorem fX4_lays_44 : fetch tX4_lays 44 = some (.iload_n 1, 1, 1, 0, 0, 0) := rfl
theorem fX4_lays_45 : fetch tX4_lays 45 = some (.imul, 1, 0, 0, 0, 0) := rfl
theorem fX4_lays_46 : fetch tX4_lays 46 = some (.iadd, 1, 0, 0, 0, 0) := rfl
theorem fX4_lays_47 : fetch tX4_lays 47 = some (.iconst 3, 1, 0, 0, 3, 0) := rfl
theorem fX4_lays_48 : fetch tX4_lays 48 = some (.iadd, 1, 0, 0, 0, 0) := rfl
theorem fX4_lays_49 : fetch tX4_lays 49 = some (.iload 5, 2, 5, 0, 0, 0) := rfl
theorem fX4_lays_51 : fetch tX4_lays 51 = some (.iastore, 1, 0, 0, 0, 0) := rfl
theorem fX4_lays_52 : fetch tX4_lays 52 = some (.return_, 1, 0, 0, 0, 0) := rfl
def tX4_addEdge : List (Nat × TE) := [(0, .iload_n 1, 1, 1, 0, 0, 0), (1, .invokestatic 50, 3, 0, 4, 0, 0), (4, .ifCond .eq 10, 3, 14, 0, 0, 0), (7, .iload_n 2, 1, 2, 0, 0, 0), (8, .invokestatic 50, 3, 0, 4, 0, 0), (11, .ifCond .ne 6, 3, 17, 0, 0, 0), (14, .bipush (-2), 2, 0, 0, (-2), 0), (16, .ireturn, 1, 0, 0, 0, 0), (17, .iload_n 3, 1, 3, 0, 0, 0), (18, .iconst 0, 1, 0, 0, 0, 0), (19, .bipush 10, 2, 0, 0, 10, 0), (21, .invokestatic 42, 3, 1, 4, 0, 0), (24, .ifCond .eq 18, 3, 42, 0, 0, 0), (27, .iload 4, 2, 4, 0, 0, 0), (29, .iconst 1, 1, 0, 0, 1, 0), (30, .iconst 5, 1, 0, 0, 5, 0), (31, .invokestatic 42, 3, 1, 4, 0, 0), (34, .ifCond .eq 8, 3, 42, 0, 0, 0), (37, .iload_n 1, 1, 1, 0, 0, 0), (38, .iload_n 2, 1, 2, 0, 0, 0), (39, .if_icmp .ne 6, 3, 45, 0, 0, 0), (42, .bipush (-3), 2, 0, 0, (-3), 0), (44, .ireturn, 1, 0, 0, 0, 0), (45, .aload_n 0, 1, 0, 0, 0, 0), (46, .iload_n 1, 1, 1, 0, 0, 0), (47, .iload_n 2, 1, 2, 0, 0, 0), (48, .invokevirtual 54, 3, 2, 4, 0, 0), (51, .iconst (-1), 1, 0, 0, (-1), 0), (52, .if_icmp .eq 6, 3, 58, 0, 0, 0), (55, .bipush (-4), 2, 0, 0, (-4), 0), (57, .ireturn, 1, 0, 0, 0, 0), (58, .aload_n 0, 1, 0, 0, 0, 0), (59, .getfield 7, 3, 4, 0, 0, 0), (62, .iconst 0, 1, 0, 0, 0, 0), (63, .iaload, 1, 0, 0, 0, 0), (64, .bipush 12, 2, 0, 0, 12, 0), (66, .if_icmp .ne 6, 3, 72, 0, 0, 0), (69, .bipush (-5), 2, 0, 0, (-5), 0), (71, .ireturn, 1, 0, 0, 0, 0), (72, .aload_n 0, 1, 0, 0, 0, 0), (73, .invokevirtual 57, 3, 3, 4, 0, 0), (76, .aload_n 0, 1, 0, 0, 0, 0), (77, .getfield 7, 3, 4, 0, 0, 0), (80, .iconst 0, 1, 0, 0, 0, 0), (81, .iaload, 1, 0, 0, 0, 0), (82, .istore 5, 2, 5, 0, 0, 0), (84, .aload_n 0, 1, 0, 0, 0, 0), (85, .iload 5, 2, 5, 0, 0, 0), (87, .iload_n 1, 1, 1, 0, 0, 0), (88, .iload_n 2, 1, 2, 0, 0, 0), (89, .iload_n 3, 1, 3, 0, 0, 0), (90, .iload 4, 2, 4, 0, 0, 0), (92, .invokevirtual 60, 3, 4, 4, 0, 0), (95, .aload_n 0, 1, 0, 0, 0, 0), (96, .getfield 7, 3, 4, 0, 0, 0), (99, .iconst 0, 1, 0, 0, 0, 0), (100, .dup2, 1, 0, 0, 0, 0), (101, .iaload, 1, 0, 0, 0, 0), (102, .iconst 1, 1, 0, 0, 1, 0), (103, .iadd, 1, 0, 0, 0, 0), (104, .iastore, 1, 0, 0, 0, 0), (105, .iload 5, 2, 5, 0, 0, 0), (107, .ireturn, 1, 0, 0, 0, 0)]
theorem tkX4_addEdge : tOk cX4_addEdge "RumourSourceModel" 6 tX4_addEdge = true := by decide +kernel
theorem fX4_addEdge_0 : fetch tX4_addEdge 0 = some (.iload_n 1, 1, 1, 0, 0, 0) := rfl
theorem fX4_addEdge_1 : fetch tX4_addEdge 1 = some (.invokestatic 50, 3, 0, 4, 0, 0) := rfl
theorem fX4_addEdge_4 : fetch tX4_addEdge 4 = some (.ifCond .eq 10, 3, 14, 0, 0, 0) := rfl
theorem fX4_addEdge_7 : fetch tX4_addEdge 7 = some (.iload_n 2, 1, 2, 0, 0, 0) := rfl
theorem fX4_addEdge_8 : fetch tX4_addEdge 8 = some (.invokestatic 50, 3, 0, 4, 0, 0) := rfl
theorem fX4_addEdge_11 : fetch tX4_addEdge 11 = some (.ifCond .ne 6, 3, 17, 0, 0, 0) := rfl
theorem fX4_addEdge_14 : fetch tX4_addEdge 14 = some (.bipush (-2), 2, 0, 0, (-2), 0) := rfl
theorem fX4_addEdge_16 : fetch tX4_addEdge 16 = some (.ireturn, 1, 0, 0, 0, 0) := rfl
theorem fX4_addEdge_17 : fetch tX4_addEdge 17 = some (.iload_n 3, 1, 3, 0, 0, 0) := rfl
theorem fX4_addEdge_18 : fetch tX4_addEdge 18 = some (.iconst 0, 1, 0, 0, 0, 0) := rfl
theorem fX4_addEdge_19 : fetch tX4_addEdge 19 = some (.bipush 10, 2, 0, 0, 10, 0) := rfl
theorem fX4_addEdge_21 : fetch tX4_addEdge 21 = some (.invokestatic 42, 3, 1, 4, 0, 0) := rfl
theorem fX4_addEdge_24 : fetch tX4_addEdge 24 = some (.ifCond .eq 18, 3, 42, 0, 0, 0) := rfl
theorem fX4_addEdge_27 : fetch tX4_addEdge 27 = some (.iload 4, 2, 4, 0, 0, 0) := rfl
theorem fX4_addEdge_29 : fetch tX4_addEdge 29 = some (.iconst 1, 1, 0, 0, 1, 0) := rfl
theorem fX4_addEdge_30 : fetch tX4_addEdge 30 = some (.iconst 5, 1, 0, 0, 5, 0) := rfl
theorem fX4_addEdge_31 : fetch tX4_addEdge 31 = some (.invokestatic 42, 3, 1, 4, 0, 0) := rfl
theorem fX4_addEdge_34 : fetch tX4_addEdge 34 = some (.ifCond .eq 8, 3, 42, 0, 0, 0) := rfl
theorem fX4_addEdge_37 : fetch tX4_addEdge 37 = some (.iload_n 1, 1, 1, 0, 0, 0) := rfl
theorem fX4_addEdge_38 : fetch tX4_addEdge 38 = some (.iload_n 2, 1, 2, 0, 0, 0) := rfl
theorem fX4_addEdge_39 : fetch tX4_addEdge 39 = some (.if_icmp .ne 6, 3, 45, 0, 0, 0) := rfl
theorem fX4_addEdge_42 : fetch tX4_addEdge 42 = some (.bipush (-3), 2, 0, 0, (-3), 0) := rfl
theorem fX4_addEdge_44 : fetch tX4_addEdge 44 = some (.ireturn, 1, 0, 0, 0, 0) := rfl
theorem fX4_addEdge_45 : fetch tX4_addEdge 45 = some (.aload_n 0, 1, 0, 0, 0, 0) := rfl
theorem fX4_addEdge_46 : fetch tX4_addEdge 46 = some (.iload_n 1, 1, 1, 0, 0, 0) := rfl
theorem fX4_addEdge_47 : fetch tX4_addEdge 47 = some (.iload_n 2, 1, 2, 0, 0, 0) := rfl
theorem fX4_addEdge_48 : fetch tX4_addEdge 48 = some (.invokevirtual 54, 3, 2, 4, 0, 0) := rfl
theorem fX4_addEdge_51 : fetch tX4_addEdge 51 = some (.iconst (-1), 1, 0, 0, (-1), 0) := rfl
theorem fX4_addEdge_52 : fetch tX4_addEdge 52 = some (.if_icmp .eq 6, 3, 58, 0, 0, 0) := rfl
theorem fX4_addEdge_55 : fetch tX4_addEdge 55 = some (.bipush (-4), 2, 0, 0, (-4), 0) := rfl
theorem fX4_addEdge_57 : fetch tX4_addEdge 57 = some (.ireturn, 1, 0, 0, 0, 0) := rfl
theorem fX4_addEdge_58 : fetch tX4_addEdge 58 = some (.aload_n 0, 1, 0, 0, 0, 0) := rfl
theorem fX4_addEdge_59 : fetch tX4_addEdge 59 = some (.getfield 7, 3, 4, 0, 0, 0) := rfl
theorem fX4_addEdge_62 : fetch tX4_addEdge 62 = some (.iconst 0, 1, 0, 0, 0, 0) := rfl
theorem fX4_addEdge_63 : fetch tX4_addEdge 63 = some (.iaload, 1, 0, 0, 0, 0) := rfl
theorem fX4_addEdge_64 : fetch tX4_addEdge 64 = some (.bipush 12, 2, 0, 0, 12, 0) := rfl
theorem fX4_addEdge_66 : fetch tX4_addEdge 66 = some (.if_icmp .ne 6, 3, 72, 0, 0, 0) := rfl
theorem fX4_addEdge_69 : fetch tX4_addEdge 69 = some (.bipush (-5), 2, 0, 0, (-5), 0) := rfl
theorem fX4_addEdge_71 : fetch tX4_addEdge 71 = some (.ireturn, 1, 0, 0, 0, 0) := rfl
theorem fX4_addEdge_72 : fetch tX4_addEdge 72 = some (.aload_n 0, 1, 0, 0, 0, 0) := rfl
theorem fX4_addEdge_73 : fetch tX4_addEdge 73 = some (.invokevirtual 57, 3, 3, 4, 0, 0) := rfl
theorem fX4_addEdge_76 : fetch tX4_addEdge 76 = some (.aload_n 0, 1, 0, 0, 0, 0) := rfl
theorem fX4_addEdge_77 : fetch tX4_addEdge 77 = some (.getfield 7, 3, 4, 0, 0, 0) := rfl
theorem fX4_addEdge_80 : fetch tX4_addEdge 80 = some (.iconst 0, 1, 0, 0, 0, 0) := rfl
theorem fX4_addEdge_81 : fetch tX4_addEdge 81 = some (.iaload, 1, 0, 0, 0, 0) := rfl
theorem fX4_addEdge_82 : fetch tX4_addEdge 82 = some (.istore 5, 2, 5, 0, 0, 0) := rfl
theorem fX4_addEdge_84 : fetch tX4_addEdge 84 = some (.aload_n 0, 1, 0, 0, 0, 0) := rfl
theorem fX4_addEdge_85 : fetch tX4_addEdge 85 = some (.iload 5, 2, 5, 0, 0, 0) := rfl
theorem fX4_addEdge_87 : fetch tX4_addEdge 87 = some (.iload_n 1, 1, 1, 0, 0, 0) := rfl
theorem fX4_addEdge_88 : fetch tX4_addEdge 88 = some (.iload_n 2, 1, 2, 0, 0, 0) := rfl
theorem fX4_addEdge_89 : fetch tX4_addEdge 89 = some (.iload_n 3, 1, 3, 0, 0, 0) := rfl
theorem fX4_addEdge_90 : fetch tX4_addEdge 90 = some (.iload 4, 2, 4, 0, 0, 0) := rfl
theorem fX4_addEdge_92 : fetch tX4_addEdge 92 = some (.invokevirtual 60, 3, 4, 4, 0, 0) := rfl
theorem fX4_addEdge_95 : fetch tX4_addEdge 95 = some (.aload_n 0, 1, 0, 0, 0, 0) := rfl
theorem fX4_addEdge_96 : fetch tX4_addEdge 96 = some (.getfield 7, 3, 4, 0, 0, 0) := rfl
theorem fX4_addEdge_99 : fetch tX4_addEdge 99 = some (.iconst 0, 1, 0, 0, 0, 0) := rfl
theorem fX4_addEdge_100 : fetch tX4_addEdge 100 = some (.dup2, 1, 0, 0, 0, 0) := rfl
theorem fX4_addEdge_101 : fetch tX4_addEdge 101 = some (.iaload, 1, 0, 0, 0, 0) := rfl
theorem fX4_addEdge_102 : fetch tX4_addEdge 102 = some (.iconst 1, 1, 0, 0, 1, 0) := rfl
theorem fX4_addEdge_103 : fetch tX4_addEdge 103 = some (.iadd, 1, 0, 0, 0, 0) := rfl
theorem fX4_addEdge_104 : fetch tX4_addEdge 104 = some (.iastore, 1, 0, 0, 0, 0) := rfl
theorem fX4_addEdge_105 : fetch tX4_addEdge 105 = some (.iload 5, 2, 5, 0, 0, 0) := rfl
theorem fX4_addEdge_107 : fetch tX4_addEdge 107 = some (.ireturn, 1, 0, 0, 0, 0) := rfl
def tX4_setEdge : List (Nat × TE) := [(0, .aload_n 0, 1, 0, 0, 0, 0), (1, .iload_n 1, 1, 1, 0, 0, 0), (2, .invokevirtual 64, 3, 0, 4, 0, 0), (5, .ifCond .ne 6, 3, 11, 0, 0, 0), (8, .bipush (-2), 2, 0, 0, (-2), 0), (10, .ireturn, 1, 0, 0, 0, 0), (11, .iload_n 2, 1, 2, 0, 0, 0), (12, .iconst 0, 1, 0, 0, 0, 0), (13, .bipush 10, 2, 0, 0, 10, 0), (15, .invokestatic 42, 3, 1, 4, 0, 0), (18, .ifCond .eq 12, 3, 30, 0, 0, 0), (21, .iload_n 3, 1, 3, 0, 0, 0), (22, .iconst 1, 1, 0, 0, 1, 0), (23, .iconst 5, 1, 0, 0, 5, 0), (24, .invokestatic 42, 3, 1, 4, 0, 0), (27, .ifCond .ne 6, 3, 33, 0, 0, 0), (30, .bipush (-3), 2, 0, 0, (-3), 0), (32, .ireturn, 1, 0, 0, 0, 0), (33, .aload_n 0, 1, 0, 0, 0, 0), (34, .invokevirtual 57, 3, 2, 4, 0, 0), (37, .aload_n 0, 1, 0, 0, 0, 0), (38, .iload_n 1, 1, 1, 0, 0, 0), (39, .iconst 2, 1, 0, 0, 2, 0), (40, .invokevirtual 46, 3, 3, 4, 0, 0), (43, .istore 4, 2, 4, 0, 0, 0), (45, .aload_n 0, 1, 0, 0, 0, 0), (46, .iload_n 1, 1, 1, 0, 0, 0), (47, .aload_n 0, 1, 0, 0, 0, 0), (48, .iload_n 1, 1, 1, 0, 0, 0), (49, .iconst 0, 1, 0, 0, 0, 0), (50, .invokevirtual 46, 3, 3, 4, 0, 0), (53, .aload_n 0, 1, 0, 0, 0, 0), (54, .iload_n 1, 1, 1, 0, 0, 0), (55, .iconst 1, 1, 0, 0, 1, 0), (56, .invokevirtual 46, 3, 3, 4, 0, 0), (59, .iload_n 2, 1, 2, 0, 0, 0), (60, .iload_n 3, 1, 3, 0, 0, 0), (61, .invokevirtual 60, 3, 4, 4, 0, 0), (64, .iload 4, 2, 4, 0, 0, 0), (66, .ireturn, 1, 0, 0, 0, 0)]
theorem tkX4_setEdge : tOk cX4_setEdge "RumourSourceModel" 5 tX4_setEdge = true := by decide +kernel
theorem fX4_setEdge_0 : fetch tX4_setEdge 0 = some (.aload_n 0, 1, 0, 0, 0, 0) := rfl
theorem fX4_setEdge_1 : fetch tX4_setEdge 1 = some (.iload_n 1, 1, 1, 0, 0, 0) := rfl
theorem fX4_setEdge_2 : fetch tX4_setEdge 2 = some (.invokevirtual 64, 3, 0, 4, 0, 0) := rfl
theorem fX4_setEdge_5 : fetch tX4_setEdge 5 = some (.ifCond .ne 6, 3, 11, 0, 0, 0) := rfl
theorem fX4_setEdge_8 : fetch tX4_setEdge 8 = some (.bipush (-2), 2, 0, 0, (-2), 0) := rfl
theorem fX4_setEdge_10 : fetch tX4_setEdge 10 = some (.ireturn, 1, 0, 0, 0, 0) := rfl
theorem fX4_setEdge_11 : fetch tX4_setEdge 11 = some (.iload_n 2, 1, 2, 0, 0, 0) := rfl
theorem fX4_setEdge_12 : fetch tX4_setEdge 12 = some (.iconst 0, 1, 0, 0, 0, 0) := rfl
theorem fX4_setEdge_13 : fetch tX4_setEdge 13 = some (.bipush 10, 2, 0, 0, 10, 0) := rfl
theorem fX4_setEdge_15 : fetch tX4_setEdge 15 = some (.invokestatic 42, 3, 1, 4, 0, 0) := rfl
theorem fX4_setEdge_18 : fetch tX4_setEdge 18 = some (.ifCond .eq 12, 3, 30, 0, 0, 0) := rfl
theorem fX4_setEdge_21 : fetch tX4_setEdge 21 = some (.iload_n 3, 1, 3, 0, 0, 0) := rfl
theorem fX4_setEdge_22 : fetch tX4_setEdge 22 = some (.iconst 1, 1, 0, 0, 1, 0) := rfl
theorem fX4_setEdge_23 : fetch tX4_setEdge 23 = some (.iconst 5, 1, 0, 0, 5, 0) := rfl
theorem fX4_setEdge_24 : fetch tX4_setEdge 24 = some (.invokestatic 42, 3, 1, 4, 0, 0) := rfl
theorem fX4_setEdge_27 : fetch tX4_setEdge 27 = some (.ifCond .ne 6, 3, 33, 0, 0, 0) := rfl
theorem fX4_setEdge_30 : fetch tX4_setEdge 30 = some (.bipush (-3), 2, 0, 0, (-3), 0) := rfl
theorem fX4_setEdge_32 : fetch tX4_setEdge 32 = some (.ireturn, 1, 0, 0, 0, 0) := rfl
theorem fX4_setEdge_33 : fetch tX4_setEdge 33 = some (.aload_n 0, 1, 0, 0, 0, 0) := rfl
theorem fX4_setEdge_34 : fetch tX4_setEdge 34 = some (.invokevirtual 57, 3, 2, 4, 0, 0) := rfl
theorem fX4_setEdge_37 : fetch tX4_setEdge 37 = some (.aload_n 0, 1, 0, 0, 0, 0) := rfl
theorem fX4_setEdge_38 : fetch tX4_setEdge 38 = some (.iload_n 1, 1, 1, 0, 0, 0) := rfl
theorem fX4_setEdge_39 : fetch tX4_setEdge 39 = some (.iconst 2, 1, 0, 0, 2, 0) := rfl
theorem fX4_setEdge_40 : fetch tX4_setEdge 40 = some (.invokevirtual 46, 3, 3, 4, 0, 0) := rfl
theorem fX4_setEdge_43 : fetch tX4_setEdge 43 = some (.istore 4, 2, 4, 0, 0, 0) := rfl
theorem fX4_setEdge_45 : fetch tX4_setEdge 45 = some (.aload_n 0, 1, 0, 0, 0, 0) := rfl
theorem fX4_setEdge_46 : fetch tX4_setEdge 46 = some (.iload_n 1, 1, 1, 0, 0, 0) := rfl
theorem fX4_setEdge_47 : fetch tX4_setEdge 47 = some (.aload_n 0, 1, 0, 0, 0, 0) := rfl
theorem fX4_setEdge_48 : fetch tX4_setEdge 48 = some (.iload_n 1, 1, 1, 0, 0, 0) := rfl
theorem fX4_setEdge_49 : fetch tX4_setEdge 49 = some (.iconst 0, 1, 0, 0, 0, 0) := rfl
theorem fX4_setEdge_50 : fetch tX4_setEdge 50 = some (.invokevirtual 46, 3, 3, 4, 0, 0) := rfl
theorem fX4_setEdge_53 : fetch tX4_setEdge 53 = some (.aload_n 0, 1, 0, 0, 0, 0) := rfl
theorem fX4_setEdge_54 : fetch tX4_setEdge 54 = some (.iload_n 1, 1, 1, 0, 0, 0) := rfl
theorem fX4_setEdge_55 : fetch tX4_setEdge 55 = some (.iconst 1, 1, 0, 0, 1, 0) := rfl
theorem fX4_setEdge_56 : fetch tX4_setEdge 56 = some (.invokevirtual 46, 3, 3, 4, 0, 0) := rfl
theorem fX4_setEdge_59 : fetch tX4_setEdge 59 = some (.iload_n 2, 1, 2, 0, 0, 0) := rfl
theorem fX4_setEdge_60 : fetch tX4_setEdge 60 = some (.iload_n 3, 1, 3, 0, 0, 0) := rfl
theorem fX4_setEdge_61 : fetch tX4_setEdge 61 = some (.invokevirtual 60, 3, 4, 4, 0, 0) := rfl
theorem fX4_setEdge_64 : fetch tX4_setEdge 64 = some (.iload 4, 2, 4, 0, 0, 0) := rfl
theorem fX4_setEdge_66 : fetch tX4_setEdge 66 = some (.ireturn, 1, 0, 0, 0, 0) := rfl
def tX4_removeEdge : List (Nat × TE) := [(0, .aload_n 0, 1, 0, 0, 0, 0), (1, .iload_n 1, 1, 1, 0, 0, 0), (2, .invokevirtual 64, 3, 0, 4, 0, 0), (5, .ifCond .ne 6, 3, 11, 0, 0, 0), (8, .bipush (-2), 2, 0, 0, (-2), 0), (10, .ireturn, 1, 0, 0, 0, 0), (11, .aload_n 0, 1, 0, 0, 0, 0), (12, .invokevirtual 57, 3, 1, 4, 0, 0), (15, .iload_n 1, 1, 1, 0, 0, 0), (16, .istore_n 2, 1, 2, 0, 0, 0), (17, .iload_n 2, 1, 2, 0, 0, 0), (18, .iconst 1, 1, 0, 0, 1, 0), (19, .iadd, 1, 0, 0, 0, 0), (20, .aload_n 0, 1, 0, 0, 0, 0), (21, .getfield 7, 3, 4, 0, 0, 0), (24, .iconst 0, 1, 0, 0, 0, 0), (25, .iaload, 1, 0, 0, 0, 0), (26, .if_icmp .ge 46, 3, 72, 0, 0, 0), (29, .aload_n 0, 1, 0, 0, 0, 0), (30, .iload_n 2, 1, 2, 0, 0, 0), (31, .aload_n 0, 1, 0, 0, 0, 0), (32, .iload_n 2, 1, 2, 0, 0, 0), (33, .iconst 1, 1, 0, 0, 1, 0), (34, .iadd, 1, 0, 0, 0, 0), (35, .iconst 0, 1, 0, 0, 0, 0), (36, .invokevirtual 46, 3, 2, 4, 0, 0), (39, .aload_n 0, 1, 0, 0, 0, 0), (40, .iload_n 2, 1, 2, 0, 0, 0), (41, .iconst 1, 1, 0, 0, 1, 0), (42, .iadd, 1, 0, 0, 0, 0), (43, .iconst 1, 1, 0, 0, 1, 0), (44, .invokevirtual 46, 3, 2, 4, 0, 0), (47, .aload_n 0, 1, 0, 0, 0, 0), (48, .iload_n 2, 1, 2, 0, 0, 0), (49, .iconst 1, 1, 0, 0, 1, 0), (50, .iadd, 1, 0, 0, 0, 0), (51, .iconst 2, 1, 0, 0, 2, 0), (52, .invokevirtual 46, 3, 2, 4, 0, 0), (55, .aload_n 0, 1, 0, 0, 0, 0), (56, .iload_n 2, 1, 2, 0, 0, 0), (57, .iconst 1, 1, 0, 0, 1, 0), (58, .iadd, 1, 0, 0, 0, 0), (59, .iconst 3, 1, 0, 0, 3, 0), (60, .invokevirtual 46, 3, 2, 4, 0, 0), (63, .invokevirtual 60, 3, 3, 4, 0, 0), (66, .iinc 2 1, 3, 2, 0, 1, 0), (69, .goto (-52), 3, 17, 0, 0, 0), (72, .aload_n 0, 1, 0, 0, 0, 0), (73, .getfield 7, 3, 4, 0, 0, 0), (76, .iconst 0, 1, 0, 0, 0, 0), (77, .dup2, 1, 0, 0, 0, 0), (78, .iaload, 1, 0, 0, 0, 0), (79, .iconst 1, 1, 0, 0, 1, 0), (80, .isub, 1, 0, 0, 0, 0), (81, .iastore, 1, 0, 0, 0, 0), (82, .aload_n 0, 1, 0, 0, 0, 0), (83, .getfield 7, 3, 4, 0, 0, 0), (86, .iconst 0, 1, 0, 0, 0, 0), (87, .iaload, 1, 0, 0, 0, 0), (88, .ireturn, 1, 0, 0, 0, 0)]
theorem tkX4_removeEdge : tOk cX4_removeEdge "RumourSourceModel" 3 tX4_removeEdge = true := by decide +kernel
theorem fX4_removeEdge_0 : fetch tX4_removeEdge 0 = some (.aload_n 0, 1, 0, 0, 0, 0) := rfl
theorem fX4_removeEdge_1 : fetch tX4_removeEdge 1 = some (.iload_n 1, 1, 1, 0, 0, 0) := rfl
theorem fX4_removeEdge_2 : fetch tX4_removeEdge 2 = some (.invokevirtual 64, 3, 0, 4, 0, 0) := rfl
theorem fX4_removeEdge_5 : fetch tX4_removeEdge 5 = some (.ifCond .ne 6, 3, 11, 0, 0, 0) := rfl
theorem fX4_removeEdge_8 : fetch tX4_removeEdge 8 = some (.bipush (-2), 2, 0, 0, (-2), 0) := rfl
theorem fX4_removeEdge_10 : fetch tX4_removeEdge 10 = some (.ireturn, 1, 0, 0, 0, 0) := rfl
theorem fX4_removeEdge_11 : fetch tX4_removeEdge 11 = some (.aload_n 0, 1, 0, 0, 0, 0) := rfl
theorem fX4_removeEdge_12 : fetch tX4_removeEdge 12 = some (.invokevirtual 57, 3, 1, 4, 0, 0) := rfl
theorem fX4_removeEdge_15 : fetch tX4_removeEdge 15 = some (.iload_n 1, 1, 1, 0, 0, 0) := rfl
theorem fX4_removeEdge_16 : fetch tX4_removeEdge 16 = some (.istore_n 2, 1, 2, 0, 0, 0) := rfl
theorem fX4_removeEdge_17 : fetch tX4_removeEdge 17 = some (.iload_n 2, 1, 2, 0, 0, 0) := rfl
theorem fX4_removeEdge_18 : fetch tX4_removeEdge 18 = some (.iconst 1, 1, 0, 0, 1, 0) := rfl
theorem fX4_removeEdge_19 : fetch tX4_removeEdge 19 = some (.iadd, 1, 0, 0, 0, 0) := rfl
theorem fX4_removeEdge_20 : fetch tX4_removeEdge 20 = some (.aload_n 0, 1, 0, 0, 0, 0) := rfl
theorem fX4_removeEdge_21 : fetch tX4_removeEdge 21 = some (.getfield 7, 3, 4, 0, 0, 0) := rfl
theorem fX4_removeEdge_24 : fetch tX4_removeEdge 24 = some (.iconst 0, 1, 0, 0, 0, 0) := rfl
theorem fX4_removeEdge_25 : fetch tX4_removeEdge 25 = some (.iaload, 1, 0, 0, 0, 0) := rfl
theorem fX4_removeEdge_26 : fetch tX4_removeEdge 26 = some (.if_icmp .ge 46, 3, 72, 0, 0, 0) := rfl
theorem fX4_removeEdge_29 : fetch tX4_removeEdge 29 = some (.aload_n 0, 1, 0, 0, 0, 0) := rfl
theorem fX4_removeEdge_30 : fetch tX4_removeEdge 30 = some (.iload_n 2, 1, 2, 0, 0, 0) := rfl
theorem fX4_removeEdge_31 : fetch tX4_removeEdge 31 = some (.aload_n 0, 1, 0, 0, 0, 0) := rfl
theorem fX4_removeEdge_32 : fetch tX4_removeEdge 32 = some (.iload_n 2, 1, 2, 0, 0, 0) := rfl
theorem fX4_removeEdge_33 : fetch tX4_removeEdge 33 = some (.iconst 1, 1, 0, 0, 1, 0) := rfl
theorem fX4_removeEdge_34 : fetch tX4_removeEdge 34 = some (.iadd, 1, 0, 0, 0, 0) := rfl
theorem fX4_removeEdge_35 : fetch tX4_removeEdge 35 = some (.iconst 0, 1, 0, 0, 0, 0) := rfl
theorem fX4_removeEdge_36 : fetch tX4_removeEdge 36 = some (.invokevirtual 46, 3, 2, 4, 0, 0) := rfl
theorem fX4_removeEdge_39 : fetch tX4_removeEdge 39 = some (.aload_n 0, 1, 0, 0, 0, 0) := rfl
theorem fX4_removeEdge_40 : fetch tX4_removeEdge 40 = some (.iload_n 2, 1, 2, 0, 0, 0) := rfl
theorem fX4_removeEdge_41 : fetch tX4_removeEdge 41 = some (.iconst 1, 1, 0, 0, 1, 0) := rfl
theorem fX4_removeEdge_42 : fetch tX4_removeEdge 42 = some (.iadd, 1, 0, 0, 0, 0) := rfl
theorem fX4_removeEdge_43 : fetch tX4_removeEdge 43 = some (.iconst 1, 1, 0, 0, 1, 0) := rfl
theorem fX4_removeEdge_44 : fetch tX4_removeEdge 44 = some (.invokevirtual 46, 3, 2, 4, 0, 0) := rfl
theorem fX4_removeEdge_47 : fetch tX4_removeEdge 47 = some (.aload_n 0, 1, 0, 0, 0, 0) := rfl
theorem fX4_removeEdge_48 : fetch tX4_removeEdge 48 = some (.iload_n 2, 1, 2, 0, 0, 0) := rfl
theorem fX4_removeEdge_49 : fetch tX4_removeEdge 49 = some (.iconst 1, 1, 0, 0, 1, 0) := rfl
theorem fX4_removeEdge_50 : fetch tX4_removeEdge 50 = some (.iadd, 1, 0, 0, 0, 0) := rfl
theorem fX4_removeEdge_51 : fetch tX4_removeEdge 51 = some (.iconst 2, 1, 0, 0, 2, 0) := rfl
theorem fX4_removeEdge_52 : fetch tX4_removeEdge 52 = some (.invokevirtual 46, 3, 2, 4, 0, 0) := rfl
theorem fX4_removeEdge_55 : fetch tX4_removeEdge 55 = some (.aload_n 0, 1, 0, 0, 0, 0) := rfl
theorem fX4_removeEdge_56 : fetch tX4_removeEdge 56 = some (.iload_n 2, 1, 2, 0, 0, 0) := rfl
theorem fX4_removeEdge_57 : fetch tX4_removeEdge 57 = some (.iconst 1, 1, 0, 0, 1, 0) := rfl
theorem fX4_removeEdge_58 : fetch tX4_removeEdge 58 = some (.iadd, 1, 0, 0, 0, 0) := rfl
theorem fX4_removeEdge_59 : fetch tX4_removeEdge 59 = some (.iconst 3, 1, 0, 0, 3, 0) := rfl
theorem fX4_removeEdge_60 : fetch tX4_removeEdge 60 = some (.invokevirtual 46, 3, 2, 4, 0, 0) := rfl
theorem fX4_removeEdge_63 : fetch tX4_removeEdge 63 = some (.invokevirtual 60, 3, 3, 4, 0, 0) := rfl
theorem fX4_removeEdge_66 : fetch tX4_removeEdge 66 = some (.iinc 2 1, 3, 2, 0, 1, 0) := rfl
theorem fX4_removeEdge_69 : fetch tX4_removeEdge 69 = some (.goto (-52), 3, 17, 0, 0, 0) := rfl
theorem fX4_removeEdge_72 : fetch tX4_removeEdge 72 = some (.aload_n 0, 1, 0, 0, 0, 0) := rfl
theorem fX4_removeEdge_73 : fetch tX4_removeEdge 73 = some (.getfield 7, 3, 4, 0, 0, 0) := rfl
theorem fX4_removeEdge_76 : fetch tX4_removeEdge 76 = some (.iconst 0, 1, 0, 0, 0, 0) := rfl
theorem fX4_removeEdge_77 : fetch tX4_removeEdge 77 = some (.dup2, 1, 0, 0, 0, 0) := rfl
theorem fX4_removeEdge_78 : fetch tX4_removeEdge 78 = some (.iaload, 1, 0, 0, 0, 0) := rfl
theorem fX4_removeEdge_79 : fetch tX4_removeEdge 79 = some (.iconst 1, 1, 0, 0, 1, 0) := rfl
theorem fX4_removeEdge_80 : fetch tX4_removeEdge 80 = some (.isub, 1, 0, 0, 0, 0) := rfl
theorem fX4_removeEdge_81 : fetch tX4_removeEdge 81 = some (.iastore, 1, 0, 0, 0, 0) := rfl
theorem fX4_removeEdge_82 : fetch tX4_removeEdge 82 = some (.aload_n 0, 1, 0, 0, 0, 0) := rfl
theorem fX4_removeEdge_83 : fetch tX4_removeEdge 83 = some (.getfield 7, 3, 4, 0, 0, 0) := rfl
theorem fX4_removeEdge_86 : fetch tX4_removeEdge 86 = some (.iconst 0, 1, 0, 0, 0, 0) := rfl
theorem fX4_removeEdge_87 : fetch tX4_removeEdge 87 = some (.iaload, 1, 0, 0, 0, 0) := rfl
theorem fX4_removeEdge_88 : fetch tX4_removeEdge 88 = some (.ireturn, 1, 0, 0, 0, 0) := rfl
def tX4_edges : List (Nat × TE) := [(0, .aload_n 0, 1, 0, 0, 0, 0), (1, .getfield 7, 3, 4, 0, 0, 0), (4, .iconst 0, 1, 0, 0, 0, 0), (5, .iaload, 1, 0, 0, 0, 0), (6, .ireturn, 1, 0, 0, 0, 0)]
theorem tkX4_edges : tOk cX4_edges "RumourSourceModel" 1 tX4_edges = true := by decide +kernel
theorem fX4_edges_0 : fetch tX4_edges 0 = some (.aload_n 0, 1, 0, 0, 0, 0) := rfl
theorem fX4_edges_1 : fetch tX4_edges 1 = some (.getfield 7, 3, 4, 0, 0, 0) := rfl
theorem fX4_edges_4 : fetch tX4_edges 4 = some (.iconst 0, 1, 0, 0, 0, 0) := rfl
theorem fX4_edges_5 : fetch tX4_edges 5 = some (.iaload, 1, 0, 0, 0, 0) := rfl
theorem fX4_edges_6 : fetch tX4_edges 6 = some (.ireturn, 1, 0, 0, 0, 0) := rfl
def tX4_edge : List (Nat × TE) := [(0, .aload_n 0, 1, 0, 0, 0, 0), (1, .iload_n 1, 1, 1, 0, 0, 0), (2, .invokevirtual 64, 3, 0, 4, 0, 0), (5, .ifCond .ne 6, 3, 11, 0, 0, 0), (8, .bipush (-2), 2, 0, 0, (-2), 0), (10, .ireturn, 1, 0, 0, 0, 0), (11, .iload_n 2, 1, 2, 0, 0, 0), (12, .iconst 0, 1, 0, 0, 0, 0), (13, .iconst 3, 1, 0, 0, 3, 0), (14, .invokestatic 42, 3, 1, 4, 0, 0), (17, .ifCond .eq 12, 3, 29, 0, 0, 0), (20, .aload_n 0, 1, 0, 0, 0, 0), (21, .iload_n 1, 1, 1, 0, 0, 0), (22, .iload_n 2, 1, 2, 0, 0, 0), (23, .invokevirtual 46, 3, 2, 4, 0, 0), (26, .goto 5, 3, 31, 0, 0, 0), (29, .bipush (-3), 2, 0, 0, (-3), 0), (31, .ireturn, 1, 0, 0, 0, 0)]
theorem tkX4_edge : tOk cX4_edge "RumourSourceModel" 3 tX4_edge = true := by decide +kernel
theorem fX4_edge_0 : fetch tX4_edge 0 = some (.aload_n 0, 1, 0, 0, 0, 0) := rfl
theorem fX4_edge_1 : fetch tX4_edge 1 = some (.iload_n 1, 1, 1, 0, 0, 0) := rfl
theorem fX4_edge_2 : fetch tX4_edge 2 = some (.invokevirtual 64, 3, 0, 4, 0, 0) := rfl
theorem fX4_edge_5 : fetch tX4_edge 5 = some (.ifCond .ne 6, 3, 11, 0, 0, 0) := rfl
theorem fX4_edge_8 : fetch tX4_edge 8 = some (.bipush (-2), 2, 0, 0, (-2), 0) := rfl
theorem fX4_edge_10 : fetch tX4_edge 10 = some (.ireturn, 1, 0, 0, 0, 0) := rfl
theorem fX4_edge_11 : fetch tX4_edge 11 = some (.iload_n 2, 1, 2, 0, 0, 0) := rfl
theorem fX4_edge_12 : fetch tX4_edge 12 = some (.iconst 0, 1, 0, 0, 0, 0) := rfl
theorem fX4_edge_13 : fetch tX4_edge 13 = some (.iconst 3, 1, 0, 0, 3, 0) := rfl
theorem fX4_edge_14 : fetch tX4_edge 14 = some (.invokestatic 42, 3, 1, 4, 0, 0) := rfl
theorem fX4_edge_17 : fetch tX4_edge 17 = some (.ifCond .eq 12, 3, 29, 0, 0, 0) := rfl
theorem fX4_edge_20 : fetch tX4_edge 20 = some (.aload_n 0, 1, 0, 0, 0, 0) := rfl
theorem fX4_edge_21 : fetch tX4_edge 21 = some (.iload_n 1, 1, 1, 0, 0, 0) := rfl
theorem fX4_edge_22 : fetch tX4_edge 22 = some (.iload_n 2, 1, 2, 0, 0, 0) := rfl
theorem fX4_edge_23 : fetch tX4_edge 23 = some (.invokevirtual 46, 3, 2, 4, 0, 0) := rfl
theorem fX4_edge_26 : fetch tX4_edge 26 = some (.goto 5, 3, 31, 0, 0, 0) := rfl
theorem fX4_edge_29 : fetch tX4_edge 29 = some (.bipush (-3), 2, 0, 0, (-3), 0) := rfl
theorem fX4_edge_31 : fetch tX4_edge 31 = some (.ireturn, 1, 0, 0, 0, 0) := rfl
def tX4_edgeBetween : List (Nat × TE) := [(0, .iload_n 1, 1, 1, 0, 0, 0), (1, .invokestatic 50, 3, 0, 4, 0, 0), (4, .ifCond .eq 19, 3, 23, 0, 0, 0), (7, .iload_n 2, 1, 2, 0, 0, 0), (8, .invokestatic 50, 3, 0, 4, 0, 0), (11, .ifCond .eq 12, 3, 23, 0, 0, 0), (14, .aload_n 0, 1, 0, 0, 0, 0), (15, .iload_n 1, 1, 1, 0, 0, 0), (16, .iload_n 2, 1, 2, 0, 0, 0), (17, .invokevirtual 54, 3, 1, 4, 0, 0), (20, .goto 5, 3, 25, 0, 0, 0), (23, .bipush (-2), 2, 0, 0, (-2), 0), (25, .ireturn, 1, 0, 0, 0, 0)]
theorem tkX4_edgeBetween : tOk cX4_edgeBetween "RumourSourceModel" 3 tX4_edgeBetween = true := by decide +kernel
theorem fX4_edgeBetween_0 : fetch tX4_edgeBetween 0 = some (.iload_n 1, 1, 1, 0, 0, 0) := rfl
theorem fX4_edgeBetween_1 : fetch tX4_edgeBetween 1 = some (.invokestatic 50, 3, 0, 4, 0, 0) := rfl
theorem fX4_edgeBetween_4 : fetch tX4_edgeBetween 4 = some (.ifCond .eq 19, 3, 23, 0, 0, 0) := rfl
theorem fX4_edgeBetween_7 : fetch tX4_edgeBetween 7 = some (.iload_n 2, 1, 2, 0, 0, 0) := rfl
theorem fX4_edgeBetween_8 : fetch tX4_edgeBetween 8 = some (.invokestatic 50, 3, 0, 4, 0, 0) := rfl
theorem fX4_edgeBetween_11 : fetch tX4_edgeBetween 11 = some (.ifCond .eq 12, 3, 23, 0, 0, 0) := rfl
theorem fX4_edgeBetween_14 : fetch tX4_edgeBetween 14 = some (.aload_n 0, 1, 0, 0, 0, 0) := rfl
theorem fX4_edgeBetween_15 : fetch tX4_edgeBetween 15 = some (.iload_n 1, 1, 1, 0, 0, 0) := rfl
theorem fX4_edgeBetween_16 : fetch tX4_edgeBetween 16 = some (.iload_n 2, 1, 2, 0, 0, 0) := rfl
theorem fX4_edgeBetween_17 : fetch tX4_edgeBetween 17 = some (.invokevirtual 54, 3, 1, 4, 0, 0) := rfl
theorem fX4_edgeBetween_20 : fetch tX4_edgeBetween 20 = some (.goto 5, 3, 25, 0, 0, 0) := rfl
theorem fX4_edgeBetween_23 : fetch tX4_edgeBetween 23 = some (.bipush (-2), 2, 0, 0, (-2), 0) := rfl
theorem fX4_edgeBetween_25 : fetch tX4_edgeBetween 25 = some (.ireturn, 1, 0, 0, 0, 0) := rfl
def tX4_setHorizon : List (Nat × TE) := [(0, .iload_n 1, 1, 1, 0, 0, 0), (1, .iconst 0, 1, 0, 0, 0, 0), (2, .bipush 30, 2, 0, 0, 30, 0), (4, .invokestatic 42, 3, 0, 4, 0, 0), (7, .ifCond .ne 6, 3, 13, 0, 0, 0), (10, .bipush (-3), 2, 0, 0, (-3), 0), (12, .ireturn, 1, 0, 0, 0, 0), (13, .aload_n 0, 1, 0, 0, 0, 0), (14, .invokevirtual 57, 3, 1, 4, 0, 0), (17, .aload_n 0, 1, 0, 0, 0, 0), (18, .getfield 7, 3, 4, 0, 0, 0), (21, .iconst 1, 1, 0, 0, 1, 0), (22, .iaload, 1, 0, 0, 0, 0), (23, .istore_n 2, 1, 2, 0, 0, 0), (24, .aload_n 0, 1, 0, 0, 0, 0), (25, .getfield 7, 3, 4, 0, 0, 0), (28, .iconst 1, 1, 0, 0, 1, 0), (29, .iload_n 1, 1, 1, 0, 0, 0), (30, .iastore, 1, 0, 0, 0, 0), (31, .iload_n 2, 1, 2, 0, 0, 0), (32, .ireturn, 1, 0, 0, 0, 0)]
theorem tkX4_setHorizon : tOk cX4_setHorizon "RumourSourceModel" 3 tX4_setHorizon = true := by decide +kernel
theorem fX4_setHorizon_0 : fetch tX4_setHorizon 0 = some (.iload_n 1, 1, 1, 0, 0, 0) := rfl
theorem fX4_setHorizon_1 : fetch tX4_setHorizon 1 = some (.iconst 0, 1, 0, 0, 0, 0) := rfl
theorem fX4_setHorizon_2 : fetch tX4_setHorizon 2 = some (.bipush 30, 2, 0, 0, 30, 0) := rfl
theorem fX4_setHorizon_4 : fetch tX4_setHorizon 4 = some (.invokestatic 42, 3, 0, 4, 0, 0) := rfl
theorem fX4_setHorizon_7 : fetch tX4_setHorizon 7 = some (.ifCond .ne 6, 3, 13, 0, 0, 0) := rfl
theorem fX4_setHorizon_10 : fetch tX4_setHorizon 10 = some (.bipush (-3), 2, 0, 0, (-3), 0) := rfl
theorem fX4_setHorizon_12 : fetch tX4_setHorizon 12 = some (.ireturn, 1, 0, 0, 0, 0) := rfl
theorem fX4_setHorizon_13 : fetch tX4_setHorizon 13 = some (.aload_n 0, 1, 0, 0, 0, 0) := rfl
theorem fX4_setHorizon_14 : fetch tX4_setHorizon 14 = some (.invokevirtual 57, 3, 1, 4, 0, 0) := rfl
theorem fX4_setHorizon_17 : fetch tX4_setHorizon 17 = some (.aload_n 0, 1, 0, 0, 0, 0) := rfl
theorem fX4_setHorizon_18 : fetch tX4_setHorizon 18 = some (.getfield 7, 3, 4, 0, 0, 0) := rfl
theorem fX4_setHorizon_21 : fetch tX4_setHorizon 21 = some (.iconst 1, 1, 0, 0, 1, 0) := rfl
theorem fX4_setHorizon_22 : fetch tX4_setHorizon 22 = some (.iaload, 1, 0, 0, 0, 0) := rfl
theorem fX4_setHorizon_23 : fetch tX4_setHorizon 23 = some (.istore_n 2, 1, 2, 0, 0, 0) := rfl
theorem fX4_setHorizon_24 : fetch tX4_setHorizon 24 = some (.aload_n 0, 1, 0, 0, 0, 0) := rfl
theorem fX4_setHorizon_25 : fetch tX4_setHorizon 25 = some (.getfield 7, 3, 4, 0, 0, 0) := rfl
theorem fX4_setHorizon_28 : fetch tX4_setHorizon 28 = some (.iconst 1, 1, 0, 0, 1, 0) := rfl
theorem fX4_setHorizon_29 : fetch tX4_setHorizon 29 = some (.iload_n 1, 1, 1, 0, 0, 0) := rfl
theorem fX4_setHorizon_30 : fetch tX4_setHorizon 30 = some (.iastore, 1, 0, 0, 0, 0) := rfl
theorem fX4_setHorizon_31 : fetch tX4_setHorizon 31 = some (.iload_n 2, 1, 2, 0, 0, 0) := rfl
theorem fX4_setHorizon_32 : fetch tX4_setHorizon 32 = some (.ireturn, 1, 0, 0, 0, 0) := rfl
def tX4_hears : List (Nat × TE) := [(0, .iconst 0, 1, 0, 0, 0, 0), (1, .istore_n 3, 1, 3, 0, 0, 0), (2, .iload_n 3, 1, 3, 0, 0, 0), (3, .bipush 8, 2, 0, 0, 8, 0), (5, .if_icmp .ge 31, 3, 36, 0, 0, 0), (8, .aload_n 0, 1, 0, 0, 0, 0), (9, .getfield 13, 3, 4, 3, 0, 0), (12, .iload_n 3, 1, 3, 0, 0, 0), (13, .iload_n 1, 1, 1, 0, 0, 0), (14, .iload_n 3, 1, 3, 0, 0, 0), (15, .ishr, 1, 0, 0, 0, 0), (16, .iconst 1, 1, 0, 0, 1, 0), (17, .iand, 1, 0, 0, 0, 0), (18, .iconst 1, 1, 0, 0, 1, 0), (19, .if_icmp .ne 7, 3, 26, 0, 0, 0), (22, .iconst 0, 1, 0, 0, 0, 0), (23, .goto 6, 3, 29, 0, 0, 0), (26, .sipush 1000, 3, 0, 0, 1000, 0), (29, .iastore, 1, 0, 0, 0, 0), (30, .iinc 3 1, 3, 3, 0, 1, 0), (33, .goto (-31), 3, 2, 0, 0, 0), (36, .iconst 1, 1, 0, 0, 1, 0), (37, .istore_n 3, 1, 3, 0, 0, 0), (38, .iload_n 3, 1, 3, 0, 0, 0), (39, .ifCond .eq 93, 3, 132, 0, 0, 0), (42, .iconst 0, 1, 0, 0, 0, 0), (43, .istore_n 3, 1, 3, 0, 0, 0), (44, .iconst 0, 1, 0, 0, 0, 0), (45, .istore 4, 2, 4, 0, 0, 0), (47, .iload 4, 2, 4, 0, 0, 0), (49, .aload_n 0, 1, 0, 0, 0, 0), (50, .getfield 7, 3, 4, 0, 0, 0), (53, .iconst 0, 1, 0, 0, 0, 0), (54, .iaload, 1, 0, 0, 0, 0), (55, .if_icmp .ge 74, 3, 129, 0, 0, 0), (58, .aload_n 0, 1, 0, 0, 0, 0), (59, .getfield 13, 3, 4, 3, 0, 0), (62, .aload_n 0, 1, 0, 0, 0, 0), (63, .iload 4, 2, 4, 0, 0, 0), (65, .iconst 0, 1, 0, 0, 0, 0), (66, .invokevirtual 46, 3, 0, 4, 0, 0), (69, .iaload, 1, 0, 0, 0, 0), (70, .aload_n 0, 1, 0, 0, 0, 0), (71, .iload 4, 2, 4, 0, 0, 0), (73, .iconst 3, 1, 0, 0, 3, 0), (74, .invokevirtual 46, 3, 0, 4, 0, 0), (77, .iadd, 1, 0, 0, 0, 0), (78, .istore 5, 2, 5, 0, 0, 0), (80, .iload_n 2, 1, 2, 0, 0, 0), (81, .iload 4, 2, 4, 0, 0, 0), (83, .ishr, 1, 0, 0, 0, 0), (84, .iconst 1, 1, 0, 0, 1, 0), (85, .iand, 1, 0, 0, 0, 0), (86, .iconst 1, 1, 0, 0, 1, 0), (87, .if_icmp .ne 36, 3, 123, 0, 0, 0), (90, .iload 5, 2, 5, 0, 0, 0), (92, .aload_n 0, 1, 0, 0, 0, 0), (93, .getfield 13, 3, 4, 3, 0, 0), (96, .aload_n 0, 1, 0, 0, 0, 0), (97, .iload 4, 2, 4, 0, 0, 0), (99, .iconst 1, 1, 0, 0, 1, 0), (100, .invokevirtual 46, 3, 0, 4, 0, 0), (103, .iaload, 1, 0, 0, 0, 0), (104, .if_icmp .ge 19, 3, 123, 0, 0, 0), (107, .aload_n 0, 1, 0, 0, 0, 0), (108, .getfield 13, 3, 4, 3, 0, 0), (111, .aload_n 0, 1, 0, 0, 0, 0), (112, .iload 4, 2, 4, 0, 0, 0), (114, .iconst 1, 1, 0, 0, 1, 0), (115, .invokevirtual 46, 3, 0, 4, 0, 0), (118, .iload 5, 2, 5, 0, 0, 0), (120, .iastore, 1, 0, 0, 0, 0), (121, .iconst 1, 1, 0, 0, 1, 0), (122, .istore_n 3, 1, 3, 0, 0, 0), (123, .iinc 4 1, 3, 4, 0, 1, 0), (126, .goto (-79), 3, 47, 0, 0, 0), (129, .goto (-91), 3, 38, 0, 0, 0), (132, .iconst 0, 1, 0, 0, 0, 0), (133, .istore 4, 2, 4, 0, 0, 0), (135, .iload 4, 2, 4, 0, 0, 0), (137, .bipush 8, 2, 0, 0, 8, 0), (139, .if_icmp .ge 45, 3, 184, 0, 0, 0), (142, .aload_n 0, 1, 0, 0, 0, 0), (143, .getfield 13, 3, 4, 3, 0, 0), (146, .iload 4, 2, 4, 0, 0, 0), (148, .aload_n 0, 1, 0, 0, 0, 0), (149, .getfield 13, 3, 4, 3, 0, 0), (152, .iload 4, 2, 4, 0, 0, 0), (154, .iaload, 1, 0, 0, 0, 0), (155, .aload_n 0, 1, 0, 0, 0, 0), (156, .getfield 7, 3, 4, 0, 0, 0), (159, .iconst 1, 1, 0, 0, 1, 0), (160, .iaload, 1, 0, 0, 0, 0), (161, .if_icmp .le 9, 3, 170, 0, 0, 0), (164, .sipush 1000, 3, 0, 0, 1000, 0), (167, .goto 10, 3, 177, 0, 0, 0), (170, .aload_n 0, 1, 0, 0, 0, 0), (171, .getfield 13, 3, 4, 3, 0, 0), (174, .iload 4, 2, 4, 0, 0, 0), (176, .iaload, 1, 0, 0, 0, 0), (177, .iastore, 1, 0, 0, 0, 0), (178, .iinc 4 1, 3, 4, 0, 1, 0), (181, .goto (-46), 3, 135, 0, 0, 0), (184, .return_, 1, 0, 0, 0, 0)]
theorem tkX4_hears : tOk cX4_hears "RumourSourceModel" 6 tX4_hears = true := by decide +kernel
theorem fX4_hears_0 : fetch tX4_hears 0 = some (.iconst 0, 1, 0, 0, 0, 0) := rfl
theorem fX4_hears_1 : fetch tX4_hears 1 = some (.istore_n 3, 1, 3, 0, 0, 0) := rfl
theorem fX4_hears_2 : fetch tX4_hears 2 = some (.iload_n 3, 1, 3, 0, 0, 0) := rfl
theorem fX4_hears_3 : fetch tX4_hears 3 = some (.bipush 8, 2, 0, 0, 8, 0) := rfl
theorem fX4_hears_5 : fetch tX4_hears 5 = some (.if_icmp .ge 31, 3, 36, 0, 0, 0) := rfl
theorem fX4_hears_8 : fetch tX4_hears 8 = some (.aload_n 0, 1, 0, 0, 0, 0) := rfl
theorem fX4_hears_9 : fetch tX4_hears 9 = some (.getfield 13, 3, 4, 3, 0, 0) := rfl
theorem fX4_hears_12 : fetch tX4_hears 12 = some (.iload_n 3, 1, 3, 0, 0, 0) := rfl
theorem fX4_hears_13 : fetch tX4_hears 13 = some (.iload_n 1, 1, 1, 0, 0, 0) := rfl
theorem fX4_hears_14 : fetch tX4_hears 14 = some (.iload_n 3, 1, 3, 0, 0, 0) := rfl
theorem fX4_hears_15 : fetch tX4_hears 15 = some (.ishr, 1, 0, 0, 0, 0) := rfl
theorem fX4_hears_16 : fetch tX4_hears 16 = some (.iconst 1, 1, 0, 0, 1, 0) := rfl
theorem fX4_hears_17 : fetch tX4_hears 17 = some (.iand, 1, 0, 0, 0, 0) := rfl
theorem fX4_hears_18 : fetch tX4_hears 18 = some (.iconst 1, 1, 0, 0, 1, 0) := rfl
theorem fX4_hears_19 : fetch tX4_hears 19 = some (.if_icmp .ne 7, 3, 26, 0, 0, 0) := rfl
theorem fX4_hears_22 : fetch tX4_hears 22 = some (.iconst 0, 1, 0, 0, 0, 0) := rfl
theorem fX4_hears_23 : fetch tX4_hears 23 = some (.goto 6, 3, 29, 0, 0, 0) := rfl
theorem fX4_hears_26 : fetch tX4_hears 26 = some (.sipush 1000, 3, 0, 0, 1000, 0) := rfl
theorem fX4_hears_29 : fetch tX4_hears 29 = some (.iastore, 1, 0, 0, 0, 0) := rfl
theorem fX4_hears_30 : fetch tX4_hears 30 = some (.iinc 3 1, 3, 3, 0, 1, 0) := rfl
theorem fX4_hears_33 : fetch tX4_hears 33 = some (.goto (-31), 3, 2, 0, 0, 0) := rfl
theorem fX4_hears_36 : fetch tX4_hears 36 = some (.iconst 1, 1, 0, 0, 1, 0) := rfl
theorem fX4_hears_37 : fetch tX4_hears 37 = some (.istore_n 3, 1, 3, 0, 0, 0) := rfl
theorem fX4_hears_38 : fetch tX4_hears 38 = some (.iload_n 3, 1, 3, 0, 0, 0) := rfl
theorem fX4_hears_39 : fetch tX4_hears 39 = some (.ifCond .eq 93, 3, 132, 0, 0, 0) := rfl
theorem fX4_hears_42 : fetch tX4_hears 42 = some (.iconst 0, 1, 0, 0, 0, 0) := rfl
theorem fX4_hears_43 : fetch tX4_hears 43 = some (.istore_n 3, 1, 3, 0, 0, 0) := rfl
theorem fX4_hears_44 : fetch tX4_hears 44 = some (.iconst 0, 1, 0, 0, 0, 0) := rfl
theorem fX4_hears_45 : fetch tX4_hears 45 = some (.istore 4, 2, 4, 0, 0, 0) := rfl
theorem fX4_hears_47 : fetch tX4_hears 47 = some (.iload 4, 2, 4, 0, 0, 0) := rfl
theorem fX4_hears_49 : fetch tX4_hears 49 = some (.aload_n 0, 1, 0, 0, 0, 0) := rfl
theorem fX4_hears_50 : fetch tX4_hears 50 = some (.getfield 7, 3, 4, 0, 0, 0) := rfl
theorem fX4_hears_53 : fetch tX4_hears 53 = some (.iconst 0, 1, 0, 0, 0, 0) := rfl
theorem fX4_hears_54 : fetch tX4_hears 54 = some (.iaload, 1, 0, 0, 0, 0) := rfl
theorem fX4_hears_55 : fetch tX4_hears 55 = some (.if_icmp .ge 74, 3, 129, 0, 0, 0) := rfl
theorem fX4_hears_58 : fetch tX4_hears 58 = some (.aload_n 0, 1, 0, 0, 0, 0) := rfl
theorem fX4_hears_59 : fetch tX4_hears 59 = some (.getfield 13, 3, 4, 3, 0, 0) := rfl
theorem fX4_hears_62 : fetch tX4_hears 62 = some (.aload_n 0, 1, 0, 0, 0, 0) := rfl
theorem fX4_hears_63 : fetch tX4_hears 63 = some (.iload 4, 2, 4, 0, 0, 0) := rfl
theorem fX4_hears_65 : fetch tX4_hears 65 = some (.iconst 0, 1, 0, 0, 0, 0) := rfl
theorem fX4_hears_66 : fetch tX4_hears 66 = some (.invokevirtual 46, 3, 0, 4, 0, 0) := rfl
theorem fX4_hears_69 : fetch tX4_hears 69 = some (.iaload, 1, 0, 0, 0, 0) := rfl
theorem fX4_hears_70 : fetch tX4_hears 70 = some (.aload_n 0, 1, 0, 0, 0, 0) := rfl
theorem fX4_hears_71 : fetch tX4_hears 71 = some (.iload 4, 2, 4, 0, 0, 0) := rfl
theorem fX4_hears_73 : fetch tX4_hears 73 = some (.iconst 3, 1, 0, 0, 3, 0) := rfl
theorem fX4_hears_74 : fetch tX4_hears 74 = some (.invokevirtual 46, 3, 0, 4, 0, 0) := rfl
theorem fX4_hears_77 : fetch tX4_hears 77 = some (.iadd, 1, 0, 0, 0, 0) := rfl
theorem fX4_hears_78 : fetch tX4_hears 78 = some (.istore 5, 2, 5, 0, 0, 0) := rfl
theorem fX4_hears_80 : fetch tX4_hears 80 = some (.iload_n 2, 1, 2, 0, 0, 0) := rfl
theorem fX4_hears_81 : fetch tX4_hears 81 = some (.iload 4, 2, 4, 0, 0, 0) := rfl
theorem fX4_hears_83 : fetch tX4_hears 83 = some (.ishr, 1, 0, 0, 0, 0) := rfl
theorem fX4_hears_84 : fetch tX4_hears 84 = some (.iconst 1, 1, 0, 0, 1, 0) := rfl
theorem fX4_hears_85 : fetch tX4_hears 85 = some (.iand, 1, 0, 0, 0, 0) := rfl
theorem fX4_hears_86 : fetch tX4_hears 86 = some (.iconst 1, 1, 0, 0, 1, 0) := rfl
theorem fX4_hears_87 : fetch tX4_hears 87 = some (.if_icmp .ne 36, 3, 123, 0, 0, 0) := rfl
theorem fX4_hears_90 : fetch tX4_hears 90 = some (.iload 5, 2, 5, 0, 0, 0) := rfl
theorem fX4_hears_92 : fetch tX4_hears 92 = some (.aload_n 0, 1, 0, 0, 0, 0) := rfl
theorem fX4_hears_93 : fetch tX4_hears 93 = some (.getfield 13, 3, 4, 3, 0, 0) := rfl
theorem fX4_hears_96 : fetch tX4_hears 96 = some (.aload_n 0, 1, 0, 0, 0, 0) := rfl
theorem fX4_hears_97 : fetch tX4_hears 97 = some (.iload 4, 2, 4, 0, 0, 0) := rfl
theorem fX4_hears_99 : fetch tX4_hears 99 = some (.iconst 1, 1, 0, 0, 1, 0) := rfl
theorem fX4_hears_100 : fetch tX4_hears 100 = some (.invokevirtual 46, 3, 0, 4, 0, 0) := rfl
theorem fX4_hears_103 : fetch tX4_hears 103 = some (.iaload, 1, 0, 0, 0, 0) := rfl
theorem fX4_hears_104 : fetch tX4_hears 104 = some (.if_icmp .ge 19, 3, 123, 0, 0, 0) := rfl
theorem fX4_hears_107 : fetch tX4_hears 107 = some (.aload_n 0, 1, 0, 0, 0, 0) := rfl
theorem fX4_hears_108 : fetch tX4_hears 108 = some (.getfield 13, 3, 4, 3, 0, 0) := rfl
theorem fX4_hears_111 : fetch tX4_hears 111 = some (.aload_n 0, 1, 0, 0, 0, 0) := rfl
theorem fX4_hears_112 : fetch tX4_hears 112 = some (.iload 4, 2, 4, 0, 0, 0) := rfl
theorem fX4_hears_114 : fetch tX4_hears 114 = some (.iconst 1, 1, 0, 0, 1, 0) := rfl
theorem fX4_hears_115 : fetch tX4_hears 115 = some (.invokevirtual 46, 3, 0, 4, 0, 0) := rfl
theorem fX4_hears_118 : fetch tX4_hears 118 = some (.iload 5, 2, 5, 0, 0, 0) := rfl
theorem fX4_hears_120 : fetch tX4_hears 120 = some (.iastore, 1, 0, 0, 0, 0) := rfl
theorem fX4_hears_121 : fetch tX4_hears 121 = some (.iconst 1, 1, 0, 0, 1, 0) := rfl
theorem fX4_hears_122 : fetch tX4_hears 122 = some (.istore_n 3, 1, 3, 0, 0, 0) := rfl
theorem fX4_hears_123 : fetch tX4_hears 123 = some (.iinc 4 1, 3, 4, 0, 1, 0) := rfl
theorem fX4_hears_126 : fetch tX4_hears 126 = some (.goto (-79), 3, 47, 0, 0, 0) := rfl
theorem fX4_hears_129 : fetch tX4_hears 129 = some (.goto (-91), 3, 38, 0, 0, 0) := rfl
theorem fX4_hears_132 : fetch tX4_hears 132 = some (.iconst 0, 1, 0, 0, 0, 0) := rfl
theorem fX4_hears_133 : fetch tX4_hears 133 = some (.istore 4, 2, 4, 0, 0, 0) := rfl
theorem fX4_hears_135 : fetch tX4_hears 135 = some (.iload 4, 2, 4, 0, 0, 0) := rfl
theorem fX4_hears_137 : fetch tX4_hears 137 = some (.bipush 8, 2, 0, 0, 8, 0) := rfl
theorem fX4_hears_139 : fetch tX4_hears 139 = some (.if_icmp .ge 45, 3, 184, 0, 0, 0) := rfl
theorem fX4_hears_142 : fetch tX4_hears 142 = some (.aload_n 0, 1, 0, 0, 0, 0) := rfl
theorem fX4_hears_143 : fetch tX4_hears 143 = some (.getfield 13, 3, 4, 3, 0, 0) := rfl
theorem fX4_hears_146 : fetch tX4_hears 146 = some (.iload 4, 2, 4, 0, 0, 0) := rfl
theorem fX4_hears_148 : fetch tX4_hears 148 = some (.aload_n 0, 1, 0, 0, 0, 0) := rfl
theorem fX4_hears_149 : fetch tX4_hears 149 = some (.getfield 13, 3, 4, 3, 0, 0) := rfl
theorem fX4_hears_152 : fetch tX4_hears 152 = some (.iload 4, 2, 4, 0, 0, 0) := rfl
theorem fX4_hears_154 : fetch tX4_hears 154 = some (.iaload, 1, 0, 0, 0, 0) := rfl
theorem fX4_hears_155 : fetch tX4_hears 155 = some (.aload_n 0, 1, 0, 0, 0, 0) := rfl
theorem fX4_hears_156 : fetch tX4_hears 156 = some (.getfield 7, 3, 4, 0, 0, 0) := rfl
theorem fX4_hears_159 : fetch tX4_hears 159 = some (.iconst 1, 1, 0, 0, 1, 0) := rfl
theorem fX4_hears_160 : fetch tX4_hears 160 = some (.iaload, 1, 0, 0, 0, 0) := rfl
theorem fX4_hears_161 : fetch tX4_hears 161 = some (.if_icmp .le 9, 3, 170, 0, 0, 0) := rfl
theorem fX4_hears_164 : fetch tX4_hears 164 = some (.sipush 1000, 3, 0, 0, 1000, 0) := rfl
theorem fX4_hears_167 : fetch tX4_hears 167 = some (.goto 10, 3, 177, 0, 0, 0) := rfl
theorem fX4_hears_170 : fetch tX4_hears 170 = some (.aload_n 0, 1, 0, 0, 0, 0) := rfl
theorem fX4_hears_171 : fetch tX4_hears 171 = some (.getfield 13, 3, 4, 3, 0, 0) := rfl
theorem fX4_hears_174 : fetch tX4_hears 174 = some (.iload 4, 2, 4, 0, 0, 0) := rfl
theorem fX4_hears_176 : fetch tX4_hears 176 = some (.iaload, 1, 0, 0, 0, 0) := rfl
theorem fX4_hears_177 : fetch tX4_hears 177 = some (.iastore, 1, 0, 0, 0, 0) := rfl
theorem fX4_hears_178 : fetch tX4_hears 178 = some (.iinc 4 1, 3, 4, 0, 1, 0) := rfl
theorem fX4_hears_181 : fetch tX4_hears 181 = some (.goto (-46), 3, 135, 0, 0, 0) := rfl
theorem fX4_hears_184 : fetch tX4_hears 184 = some (.return_, 1, 0, 0, 0, 0) := rfl
def tX4_told : List (Nat × TE) := [(0, .iload_n 0, 1, 0, 0, 0, 0), (1, .sipush 1000, 3, 0, 0, 1000, 0), (4, .if_icmp .ne 7, 3, 11, 0, 0, 0), (7, .iconst (-1), 1, 0, 0, (-1), 0), (8, .goto 4, 3, 12, 0, 0, 0), (11, .iload_n 0, 1, 0, 0, 0, 0), (12, .ireturn, 1, 0, 0, 0, 0)]
theorem tkX4_told : tOk cX4_told "RumourSourceModel" 1 tX4_told = true := by decide +kernel
theorem fX4_told_0 : fetch tX4_told 0 = some (.iload_n 0, 1, 0, 0, 0, 0) := rfl
theorem fX4_told_1 : fetch tX4_told 1 = some (.sipush 1000, 3, 0, 0, 1000, 0) := rfl
theorem fX4_told_4 : fetch tX4_told 4 = some (.if_icmp .ne 7, 3, 11, 0, 0, 0) := rfl
theorem fX4_told_7 : fetch tX4_told 7 = some (.iconst (-1), 1, 0, 0, (-1), 0) := rfl
theorem fX4_told_8 : fetch tX4_told 8 = some (.goto 4, 3, 12, 0, 0, 0) := rfl
theorem fX4_told_11 : fetch tX4_told 11 = some (.iload_n 0, 1, 0, 0, 0, 0) := rfl
theorem fX4_told_12 : fetch tX4_told 12 = some (.ireturn, 1, 0, 0, 0, 0) := rfl
def tX4_isFit : List (Nat × TE) := [(0, .iconst 1, 1, 0, 0, 1, 0), (1, .istore_n 1, 1, 1, 0, 0, 0), (2, .iconst 0, 1, 0, 0, 0, 0), (3, .istore_n 2, 1, 2, 0, 0, 0), (4, .iload_n 2, 1, 2, 0, 0, 0), (5, .bipush 8, 2, 0, 0, 8, 0), (7, .if_icmp .ge 54, 3, 61, 0, 0, 0), (10, .iload_n 1, 1, 1, 0, 0, 0), (11, .ifCond .eq 42, 3, 53, 0, 0, 0), (14, .aload_n 0, 1, 0, 0, 0, 0), (15, .getfield 7, 3, 4, 0, 0, 0), (18, .bipush 51, 2, 0, 0, 51, 0), (20, .iload_n 2, 1, 2, 0, 0, 0), (21, .iadd, 1, 0, 0, 0, 0), (22, .iaload, 1, 0, 0, 0, 0), (23, .bipush 100, 2, 0, 0, 100, 0), (25, .if_icmp .eq 24, 3, 49, 0, 0, 0), (28, .aload_n 0, 1, 0, 0, 0, 0), (29, .getfield 7, 3, 4, 0, 0, 0), (32, .bipush 51, 2, 0, 0, 51, 0), (34, .iload_n 2, 1, 2, 0, 0, 0), (35, .iadd, 1, 0, 0, 0, 0), (36, .iaload, 1, 0, 0, 0, 0), (37, .aload_n 0, 1, 0, 0, 0, 0), (38, .getfield 13, 3, 4, 3, 0, 0), (41, .iload_n 2, 1, 2, 0, 0, 0), (42, .iaload, 1, 0, 0, 0, 0), (43, .invokestatic 67, 3, 0, 4, 0, 0), (46, .if_icmp .ne 7, 3, 53, 0, 0, 0), (49, .iconst 1, 1, 0, 0, 1, 0), (50, .goto 4, 3, 54, 0, 0, 0), (53, .iconst 0, 1, 0, 0, 0, 0), (54, .istore_n 1, 1, 1, 0, 0, 0), (55, .iinc 2 1, 3, 2, 0, 1, 0), (58, .goto (-54), 3, 4, 0, 0, 0), (61, .iload_n 1, 1, 1, 0, 0, 0), (62, .ireturn, 1, 0, 0, 0, 0)]
theorem tkX4_isFit : tOk cX4_isFit "RumourSourceModel" 3 tX4_isFit = true := by decide +kernel
theorem fX4_isFit_0 : fetch tX4_isFit 0 = some (.iconst 1, 1, 0, 0, 1, 0) := rfl
theorem fX4_isFit_1 : fetch tX4_isFit 1 = some (.istore_n 1, 1, 1, 0, 0, 0) := rfl
theorem fX4_isFit_2 : fetch tX4_isFit 2 = some (.iconst 0, 1, 0, 0, 0, 0) := rfl
theorem fX4_isFit_3 : fetch tX4_isFit 3 = some (.istore_n 2, 1, 2, 0, 0, 0) := rfl
theorem fX4_isFit_4 : fetch tX4_isFit 4 = some (.iload_n 2, 1, 2, 0, 0, 0) := rfl
theorem fX4_isFit_5 : fetch tX4_isFit 5 = some (.bipush 8, 2, 0, 0, 8, 0) := rfl
theorem fX4_isFit_7 : fetch tX4_isFit 7 = some (.if_icmp .ge 54, 3, 61, 0, 0, 0) := rfl
theorem fX4_isFit_10 : fetch tX4_isFit 10 = some (.iload_n 1, 1, 1, 0, 0, 0) := rfl
theorem fX4_isFit_11 : fetch tX4_isFit 11 = some (.ifCond .eq 42, 3, 53, 0, 0, 0) := rfl
theorem fX4_isFit_14 : fetch tX4_isFit 14 = some (.aload_n 0, 1, 0, 0, 0, 0) := rfl
theorem fX4_isFit_15 : fetch tX4_isFit 15 = some (.getfield 7, 3, 4, 0, 0, 0) := rfl
theorem fX4_isFit_18 : fetch tX4_isFit 18 = some (.bipush 51, 2, 0, 0, 51, 0) := rfl
theorem fX4_isFit_20 : fetch tX4_isFit 20 = some (.iload_n 2, 1, 2, 0, 0, 0) := rfl
theorem fX4_isFit_21 : fetch tX4_isFit 21 = some (.iadd, 1, 0, 0, 0, 0) := rfl
theorem fX4_isFit_22 : fetch tX4_isFit 22 = some (.iaload, 1, 0, 0, 0, 0) := rfl
theorem fX4_isFit_23 : fetch tX4_isFit 23 = some (.bipush 100, 2, 0, 0, 100, 0) := rfl
theorem fX4_isFit_25 : fetch tX4_isFit 25 = some (.if_icmp .eq 24, 3, 49, 0, 0, 0) := rfl
theorem fX4_isFit_28 : fetch tX4_isFit 28 = some (.aload_n 0, 1, 0, 0, 0, 0) := rfl
theorem fX4_isFit_29 : fetch tX4_isFit 29 = some (.getfield 7, 3, 4, 0, 0, 0) := rfl
theorem fX4_isFit_32 : fetch tX4_isFit 32 = some (.bipush 51, 2, 0, 0, 51, 0) := rfl
theorem fX4_isFit_34 : fetch tX4_isFit 34 = some (.iload_n 2, 1, 2, 0, 0, 0) := rfl
theorem fX4_isFit_35 : fetch tX4_isFit 35 = some (.iadd, 1, 0, 0, 0, 0) := rfl
theorem fX4_isFit_36 : fetch tX4_isFit 36 = some (.iaload, 1, 0, 0, 0, 0) := rfl
theorem fX4_isFit_37 : fetch tX4_isFit 37 = some (.aload_n 0, 1, 0, 0, 0, 0) := rfl
theorem fX4_isFit_38 : fetch tX4_isFit 38 = some (.getfield 13, 3, 4, 3, 0, 0) := rfl
theorem fX4_isFit_41 : fetch tX4_isFit 41 = some (.iload_n 2, 1, 2, 0, 0, 0) := rfl
theorem fX4_isFit_42 : fetch tX4_isFit 42 = some (.iaload, 1, 0, 0, 0, 0) := rfl
theorem fX4_isFit_43 : fetch tX4_isFit 43 = some (.invokestatic 67, 3, 0, 4, 0, 0) := rfl
theorem fX4_isFit_46 : fetch tX4_isFit 46 = some (.if_icmp .ne 7, 3, 53, 0, 0, 0) := rfl
theorem fX4_isFit_49 : fetch tX4_isFit 49 = some (.iconst 1, 1, 0, 0, 1, 0) := rfl
theorem fX4_isFit_50 : fetch tX4_isFit 50 = some (.goto 4, 3, 54, 0, 0, 0) := rfl
theorem fX4_isFit_53 : fetch tX4_isFit 53 = some (.iconst 0, 1, 0, 0, 0, 0) := rfl
theorem fX4_isFit_54 : fetch tX4_isFit 54 = some (.istore_n 1, 1, 1, 0, 0, 0) := rfl
theorem fX4_isFit_55 : fetch tX4_isFit 55 = some (.iinc 2 1, 3, 2, 0, 1, 0) := rfl
theorem fX4_isFit_58 : fetch tX4_isFit 58 = some (.goto (-54), 3, 4, 0, 0, 0) := rfl
theorem fX4_isFit_61 : fetch tX4_isFit 61 = some (.iload_n 1, 1, 1, 0, 0, 0) := rfl
theorem fX4_isFit_62 : fetch tX4_isFit 62 = some (.ireturn, 1, 0, 0, 0, 0) := rfl
def tX4_weightOf : List (Nat × TE) := [(0, .lconst 1, 1, 0, 0, 0, 1), (1, .lstore_n 2, 1, 2, 0, 0, 0), (2, .iconst 0, 1, 0, 0, 0, 0), (3, .istore 4, 2, 4, 0, 0, 0), (5, .iload 4, 2, 4, 0, 0, 0), (7, .aload_n 0, 1, 0, 0, 0, 0), (8, .getfield 7, 3, 4, 0, 0, 0), (11, .iconst 0, 1, 0, 0, 0, 0), (12, .iaload, 1, 0, 0, 0, 0), (13, .if_icmp .ge 44, 3, 57, 0, 0, 0), (16, .lload_n 2, 1, 2, 0, 0, 0), (17, .iload_n 1, 1, 1, 0, 0, 0), (18, .iload 4, 2, 4, 0, 0, 0), (20, .ishr, 1, 0, 0, 0, 0), (21, .iconst 1, 1, 0, 0, 1, 0), (22, .iand, 1, 0, 0, 0, 0), (23, .iconst 1, 1, 0, 0, 1, 0), (24, .if_icmp .ne 14, 3, 38, 0, 0, 0), (27, .aload_n 0, 1, 0, 0, 0, 0), (28, .iload 4, 2, 4, 0, 0, 0), (30, .iconst 2, 1, 0, 0, 2, 0), (31, .invokevirtual 46, 3, 0, 4, 0, 0), (34, .i2l, 1, 0, 0, 0, 0), (35, .goto 14, 3, 49, 0, 0, 0), (38, .bipush 10, 2, 0, 0, 10, 0), (40, .aload_n 0, 1, 0, 0, 0, 0), (41, .iload 4, 2, 4, 0, 0, 0), (43, .iconst 2, 1, 0, 0, 2, 0), (44, .invokevirtual 46, 3, 0, 4, 0, 0), (47, .isub, 1, 0, 0, 0, 0), (48, .i2l, 1, 0, 0, 0, 0), (49, .lmul, 1, 0, 0, 0, 0), (50, .lstore_n 2, 1, 2, 0, 0, 0), (51, .iinc 4 1, 3, 4, 0, 1, 0), (54, .goto (-49), 3, 5, 0, 0, 0), (57, .lload_n 2, 1, 2, 0, 0, 0), (58, .lreturn, 1, 0, 0, 0, 0)]
theorem tkX4_weightOf : tOk cX4_weightOf "RumourSourceModel" 5 tX4_weightOf = true := by decide +kernel
theorem fX4_weightOf_0 : fetch tX4_weightOf 0 = some (.lconst 1, 1, 0, 0, 0, 1) := rfl
theorem fX4_weightOf_1 : fetch tX4_weightOf 1 = some (.lstore_n 2, 1, 2, 0, 0, 0) := rfl
theorem fX4_weightOf_2 : fetch tX4_weightOf 2 = some (.iconst 0, 1, 0, 0, 0, 0) := rfl
theorem fX4_weightOf_3 : fetch tX4_weightOf 3 = some (.istore 4, 2, 4, 0, 0, 0) := rfl
theorem fX4_weightOf_5 : fetch tX4_weightOf 5 = some (.iload 4, 2, 4, 0, 0, 0) := rfl
theorem fX4_weightOf_7 : fetch tX4_weightOf 7 = some (.aload_n 0, 1, 0, 0, 0, 0) := rfl
theorem fX4_weightOf_8 : fetch tX4_weightOf 8 = some (.getfield 7, 3, 4, 0, 0, 0) := rfl
theorem fX4_weightOf_11 : fetch tX4_weightOf 11 = some (.iconst 0, 1, 0, 0, 0, 0) := rfl
theorem fX4_weightOf_12 : fetch tX4_weightOf 12 = some (.iaload, 1, 0, 0, 0, 0) := rfl
theorem fX4_weightOf_13 : fetch tX4_weightOf 13 = some (.if_icmp .ge 44, 3, 57, 0, 0, 0) := rfl
theorem fX4_weightOf_16 : fetch tX4_weightOf 16 = some (.lload_n 2, 1, 2, 0, 0, 0) := rfl
theorem fX4_weightOf_17 : fetch tX4_weightOf 17 = some (.iload_n 1, 1, 1, 0, 0, 0) := rfl
theorem fX4_weightOf_18 : fetch tX4_weightOf 18 = some (.iload 4, 2, 4, 0, 0, 0) := rfl
theorem fX4_weightOf_20 : fetch tX4_weightOf 20 = some (.ishr, 1, 0, 0, 0, 0) := rfl
theorem fX4_weightOf_21 : fetch tX4_weightOf 21 = some (.iconst 1, 1, 0, 0, 1, 0) := rfl
theorem fX4_weightOf_22 : fetch tX4_weightOf 22 = some (.iand, 1, 0, 0, 0, 0) := rfl
theorem fX4_weightOf_23 : fetch tX4_weightOf 23 = some (.iconst 1, 1, 0, 0, 1, 0) := rfl
theorem fX4_weightOf_24 : fetch tX4_weightOf 24 = some (.if_icmp .ne 14, 3, 38, 0, 0, 0) := rfl
theorem fX4_weightOf_27 : fetch tX4_weightOf 27 = some (.aload_n 0, 1, 0, 0, 0, 0) := rfl
theorem fX4_weightOf_28 : fetch tX4_weightOf 28 = some (.iload 4, 2, 4, 0, 0, 0) := rfl
theorem fX4_weightOf_30 : fetch tX4_weightOf 30 = some (.iconst 2, 1, 0, 0, 2, 0) := rfl
theorem fX4_weightOf_31 : fetch tX4_weightOf 31 = some (.invokevirtual 46, 3, 0, 4, 0, 0) := rfl
theorem fX4_weightOf_34 : fetch tX4_weightOf 34 = some (.i2l, 1, 0, 0, 0, 0) := rfl
theorem fX4_weightOf_35 : fetch tX4_weightOf 35 = some (.goto 14, 3, 49, 0, 0, 0) := rfl
theorem fX4_weightOf_38 : fetch tX4_weightOf 38 = some (.bipush 10, 2, 0, 0, 10, 0) := rfl
theorem fX4_weightOf_40 : fetch tX4_weightOf 40 = some (.aload_n 0, 1, 0, 0, 0, 0) := rfl
theorem fX4_weightOf_41 : fetch tX4_weightOf 41 = some (.iload 4, 2, 4, 0, 0, 0) := rfl
theorem fX4_weightOf_43 : fetch tX4_weightOf 43 = some (.iconst 2, 1, 0, 0, 2, 0) := rfl
theorem fX4_weightOf_44 : fetch tX4_weightOf 44 = some (.invokevirtual 46, 3, 0, 4, 0, 0) := rfl
theorem fX4_weightOf_47 : fetch tX4_weightOf 47 = some (.isub, 1, 0, 0, 0, 0) := rfl
theorem fX4_weightOf_48 : fetch tX4_weightOf 48 = some (.i2l, 1, 0, 0, 0, 0) := rfl
theorem fX4_weightOf_49 : fetch tX4_weightOf 49 = some (.lmul, 1, 0, 0, 0, 0) := rfl
theorem fX4_weightOf_50 : fetch tX4_weightOf 50 = some (.lstore_n 2, 1, 2, 0, 0, 0) := rfl
theorem fX4_weightOf_51 : fetch tX4_weightOf 51 = some (.iinc 4 1, 3, 4, 0, 1, 0) := rfl
theorem fX4_weightOf_54 : fetch tX4_weightOf 54 = some (.goto (-49), 3, 5, 0, 0, 0) := rfl
theorem fX4_weightOf_57 : fetch tX4_weightOf 57 = some (.lload_n 2, 1, 2, 0, 0, 0) := rfl
theorem fX4_weightOf_58 : fetch tX4_weightOf 58 = some (.lreturn, 1, 0, 0, 0, 0) := rfl
def tX4_isOutcome : List (Nat × TE) := [(0, .iload_n 1, 1, 1, 0, 0, 0), (1, .iconst 0, 1, 0, 0, 0, 0), (2, .iconst 1, 1, 0, 0, 1, 0), (3, .aload_n 0, 1, 0, 0, 0, 0), (4, .getfield 7, 3, 4, 0, 0, 0), (7, .iconst 0, 1, 0, 0, 0, 0), (8, .iaload, 1, 0, 0, 0, 0), (9, .ishl, 1, 0, 0, 0, 0), (10, .iconst 1, 1, 0, 0, 1, 0), (11, .isub, 1, 0, 0, 0, 0), (12, .invokestatic 42, 3, 0, 4, 0, 0), (15, .ireturn, 1, 0, 0, 0, 0)]
theorem tkX4_isOutcome : tOk cX4_isOutcome "RumourSourceModel" 2 tX4_isOutcome = true := by decide +kernel
theorem fX4_isOutcome_0 : fetch tX4_isOutcome 0 = some (.iload_n 1, 1, 1, 0, 0, 0) := rfl
theorem fX4_isOutcome_1 : fetch tX4_isOutcome 1 = some (.iconst 0, 1, 0, 0, 0, 0) := rfl
theorem fX4_isOutcome_2 : fetch tX4_isOutcome 2 = some (.iconst 1, 1, 0, 0, 1, 0) := rfl
theorem fX4_isOutcome_3 : fetch tX4_isOutcome 3 = some (.aload_n 0, 1, 0, 0, 0, 0) := rfl
theorem fX4_isOutcome_4 : fetch tX4_isOutcome 4 = some (.getfield 7, 3, 4, 0, 0, 0) := rfl
theorem fX4_isOutcome_7 : fetch tX4_isOutcome 7 = some (.iconst 0, 1, 0, 0, 0, 0) := rfl
theorem fX4_isOutcome_8 : fetch tX4_isOutcome 8 = some (.iaload, 1, 0, 0, 0, 0) := rfl
theorem fX4_isOutcome_9 : fetch tX4_isOutcome 9 = some (.ishl, 1, 0, 0, 0, 0) := rfl
theorem fX4_isOutcome_10 : fetch tX4_isOutcome 10 = some (.iconst 1, 1, 0, 0, 1, 0) := rfl
theorem fX4_isOutcome_11 : fetch tX4_isOutcome 11 = some (.isub, 1, 0, 0, 0, 0) := rfl
theorem fX4_isOutcome_12 : fetch tX4_isOutcome 12 = some (.invokestatic 42, 3, 0, 4, 0, 0) := rfl
theorem fX4_isOutcome_15 : fetch tX4_isOutcome 15 = some (.ireturn, 1, 0, 0, 0, 0) := rfl
def tX4_isStart : List (Nat × TE) := [(0, .iload_n 0, 1, 0, 0, 0, 0), (1, .iconst 1, 1, 0, 0, 1, 0), (2, .sipush 255, 3, 0, 0, 255, 0), (5, .invokestatic 42, 3, 0, 4, 0, 0), (8, .ireturn, 1, 0, 0, 0, 0)]
theorem tkX4_isStart : tOk cX4_isStart "RumourSourceModel" 1 tX4_isStart = true := by decide +kernel
theorem fX4_isStart_0 : fetch tX4_isStart 0 = some (.iload_n 0, 1, 0, 0, 0, 0) := rfl
theorem fX4_isStart_1 : fetch tX4_isStart 1 = some (.iconst 1, 1, 0, 0, 1, 0) := rfl
theorem fX4_isStart_2 : fetch tX4_isStart 2 = some (.sipush 255, 3, 0, 0, 255, 0) := rfl
theorem fX4_isStart_5 : fetch tX4_isStart 5 = some (.invokestatic 42, 3, 0, 4, 0, 0) := rfl
theorem fX4_isStart_8 : fetch tX4_isStart 8 = some (.ireturn, 1, 0, 0, 0, 0) := rfl
def tX4_becomes : List (Nat × TE) := [(0, .aload_n 0, 1, 0, 0, 0, 0), (1, .invokevirtual 57, 3, 0, 4, 0, 0), (4, .aload_n 0, 1, 0, 0, 0, 0), (5, .getfield 7, 3, 4, 0, 0, 0), (8, .bipush 51, 2, 0, 0, 51, 0), (10, .iload_n 1, 1, 1, 0, 0, 0), (11, .iadd, 1, 0, 0, 0, 0), (12, .iaload, 1, 0, 0, 0, 0), (13, .istore_n 3, 1, 3, 0, 0, 0), (14, .aload_n 0, 1, 0, 0, 0, 0), (15, .getfield 7, 3, 4, 0, 0, 0), (18, .bipush 51, 2, 0, 0, 51, 0), (20, .iload_n 1, 1, 1, 0, 0, 0), (21, .iadd, 1, 0, 0, 0, 0), (22, .iload_n 2, 1, 2, 0, 0, 0), (23, .iastore, 1, 0, 0, 0, 0), (24, .iload_n 3, 1, 3, 0, 0, 0), (25, .ireturn, 1, 0, 0, 0, 0)]
theorem tkX4_becomes : tOk cX4_becomes "RumourSourceModel" 4 tX4_becomes = true := by decide +kernel
theorem fX4_becomes_0 : fetch tX4_becomes 0 = some (.aload_n 0, 1, 0, 0, 0, 0) := rfl
theorem fX4_becomes_1 : fetch tX4_becomes 1 = some (.invokevirtual 57, 3, 0, 4, 0, 0) := rfl
theorem fX4_becomes_4 : fetch tX4_becomes 4 = some (.aload_n 0, 1, 0, 0, 0, 0) := rfl
theorem fX4_becomes_5 : fetch tX4_becomes 5 = some (.getfield 7, 3, 4, 0, 0, 0) := rfl
theorem fX4_becomes_8 : fetch tX4_becomes 8 = some (.bipush 51, 2, 0, 0, 51, 0) := rfl
theorem fX4_becomes_10 : fetch tX4_becomes 10 = some (.iload_n 1, 1, 1, 0, 0, 0) := rfl
theorem fX4_becomes_11 : fetch tX4_becomes 11 = some (.iadd, 1, 0, 0, 0, 0) := rfl
theorem fX4_becomes_12 : fetch tX4_becomes 12 = some (.iaload, 1, 0, 0, 0, 0) := rfl
theorem fX4_becomes_13 : fetch tX4_becomes 13 = some (.istore_n 3, 1, 3, 0, 0, 0) := rfl
theorem fX4_becomes_14 : fetch tX4_becomes 14 = some (.aload_n 0, 1, 0, 0, 0, 0) := rfl
theorem fX4_becomes_15 : fetch tX4_becomes 15 = some (.getfield 7, 3, 4, 0, 0, 0) := rfl
theorem fX4_becomes_18 : fetch tX4_becomes 18 = some (.bipush 51, 2, 0, 0, 51, 0) := rfl
theorem fX4_becomes_20 : fetch tX4_becomes 20 = some (.iload_n 1, 1, 1, 0, 0, 0) := rfl
theorem fX4_becomes_21 : fetch tX4_becomes 21 = some (.iadd, 1, 0, 0, 0, 0) := rfl
theorem fX4_becomes_22 : fetch tX4_becomes 22 = some (.iload_n 2, 1, 2, 0, 0, 0) := rfl
theorem fX4_becomes_23 : fetch tX4_becomes 23 = some (.iastore, 1, 0, 0, 0, 0) := rfl
theorem fX4_becomes_24 : fetch tX4_becomes 24 = some (.iload_n 3, 1, 3, 0, 0, 0) := rfl
theorem fX4_becomes_25 : fetch tX4_becomes 25 = some (.ireturn, 1, 0, 0, 0, 0) := rfl
def tX4_observe : List (Nat × TE) := [(0, .iload_n 1, 1, 1, 0, 0, 0), (1, .invokestatic 50, 3, 0, 4, 0, 0), (4, .ifCond .ne 6, 3, 10, 0, 0, 0), (7, .bipush (-2), 2, 0, 0, (-2), 0), (9, .ireturn, 1, 0, 0, 0, 0), (10, .iload_n 2, 1, 2, 0, 0, 0), (11, .iconst (-1), 1, 0, 0, (-1), 0), (12, .bipush 30, 2, 0, 0, 30, 0), (14, .invokestatic 42, 3, 1, 4, 0, 0), (17, .ifCond .eq 12, 3, 29, 0, 0, 0), (20, .aload_n 0, 1, 0, 0, 0, 0), (21, .iload_n 1, 1, 1, 0, 0, 0), (22, .iload_n 2, 1, 2, 0, 0, 0), (23, .invokevirtual 71, 3, 2, 4, 0, 0), (26, .goto 5, 3, 31, 0, 0, 0), (29, .bipush (-3), 2, 0, 0, (-3), 0), (31, .ireturn, 1, 0, 0, 0, 0)]
theorem tkX4_observe : tOk cX4_observe "RumourSourceModel" 3 tX4_observe = true := by decide +kernel
theorem fX4_observe_0 : fetch tX4_observe 0 = some (.iload_n 1, 1, 1, 0, 0, 0) := rfl
theorem fX4_observe_1 : fetch tX4_observe 1 = some (.invokestatic 50, 3, 0, 4, 0, 0) := rfl
theorem fX4_observe_4 : fetch tX4_observe 4 = some (.ifCond .ne 6, 3, 10, 0, 0, 0) := rfl
theorem fX4_observe_7 : fetch tX4_observe 7 = some (.bipush (-2), 2, 0, 0, (-2), 0) := rfl
theorem fX4_observe_9 : fetch tX4_observe 9 = some (.ireturn, 1, 0, 0, 0, 0) := rfl
theorem fX4_observe_10 : fetch tX4_observe 10 = some (.iload_n 2, 1, 2, 0, 0, 0) := rfl
theorem fX4_observe_11 : fetch tX4_observe 11 = some (.iconst (-1), 1, 0, 0, (-1), 0) := rfl
theorem fX4_observe_12 : fetch tX4_observe 12 = some (.bipush 30, 2, 0, 0, 30, 0) := rfl
theorem fX4_observe_14 : fetch tX4_observe 14 = some (.invokestatic 42, 3, 1, 4, 0, 0) := rfl
theorem fX4_observe_17 : fetch tX4_observe 17 = some (.ifCond .eq 12, 3, 29, 0, 0, 0) := rfl
theorem fX4_observe_20 : fetch tX4_observe 20 = some (.aload_n 0, 1, 0, 0, 0, 0) := rfl
theorem fX4_observe_21 : fetch tX4_observe 21 = some (.iload_n 1, 1, 1, 0, 0, 0) := rfl
theorem fX4_observe_22 : fetch tX4_observe 22 = some (.iload_n 2, 1, 2, 0, 0, 0) := rfl
theorem fX4_observe_23 : fetch tX4_observe 23 = some (.invokevirtual 71, 3, 2, 4, 0, 0) := rfl
theorem fX4_observe_26 : fetch tX4_observe 26 = some (.goto 5, 3, 31, 0, 0, 0) := rfl
theorem fX4_observe_29 : fetch tX4_observe 29 = some (.bipush (-3), 2, 0, 0, (-3), 0) := rfl
theorem fX4_observe_31 : fetch tX4_observe 31 = some (.ireturn, 1, 0, 0, 0, 0) := rfl
def tX4_forget : List (Nat × TE) := [(0, .iload_n 1, 1, 1, 0, 0, 0), (1, .invokestatic 50, 3, 0, 4, 0, 0), (4, .ifCond .eq 13, 3, 17, 0, 0, 0), (7, .aload_n 0, 1, 0, 0, 0, 0), (8, .iload_n 1, 1, 1, 0, 0, 0), (9, .bipush 100, 2, 0, 0, 100, 0), (11, .invokevirtual 71, 3, 1, 4, 0, 0), (14, .goto 5, 3, 19, 0, 0, 0), (17, .bipush (-2), 2, 0, 0, (-2), 0), (19, .ireturn, 1, 0, 0, 0, 0)]
theorem tkX4_forget : tOk cX4_forget "RumourSourceModel" 2 tX4_forget = true := by decide +kernel
theorem fX4_forget_0 : fetch tX4_forget 0 = some (.iload_n 1, 1, 1, 0, 0, 0) := rfl
theorem fX4_forget_1 : fetch tX4_forget 1 = some (.invokestatic 50, 3, 0, 4, 0, 0) := rfl
theorem fX4_forget_4 : fetch tX4_forget 4 = some (.ifCond .eq 13, 3, 17, 0, 0, 0) := rfl
theorem fX4_forget_7 : fetch tX4_forget 7 = some (.aload_n 0, 1, 0, 0, 0, 0) := rfl
theorem fX4_forget_8 : fetch tX4_forget 8 = some (.iload_n 1, 1, 1, 0, 0, 0) := rfl
theorem fX4_forget_9 : fetch tX4_forget 9 = some (.bipush 100, 2, 0, 0, 100, 0) := rfl
theorem fX4_forget_11 : fetch tX4_forget 11 = some (.invokevirtual 71, 3, 1, 4, 0, 0) := rfl
theorem fX4_forget_14 : fetch tX4_forget 14 = some (.goto 5, 3, 19, 0, 0, 0) := rfl
theorem fX4_forget_17 : fetch tX4_forget 17 = some (.bipush (-2), 2, 0, 0, (-2), 0) := rfl
theorem fX4_forget_19 : fetch tX4_forget 19 = some (.ireturn, 1, 0, 0, 0, 0) := rfl
def tX4_observed : List (Nat × TE) := [(0, .iload_n 1, 1, 1, 0, 0, 0), (1, .invokestatic 50, 3, 0, 4, 0, 0), (4, .ifCond .eq 15, 3, 19, 0, 0, 0), (7, .aload_n 0, 1, 0, 0, 0, 0), (8, .getfield 7, 3, 4, 0, 0, 0), (11, .bipush 51, 2, 0, 0, 51, 0), (13, .iload_n 1, 1, 1, 0, 0, 0), (14, .iadd, 1, 0, 0, 0, 0), (15, .iaload, 1, 0, 0, 0, 0), (16, .goto 5, 3, 21, 0, 0, 0), (19, .bipush (-2), 2, 0, 0, (-2), 0), (21, .ireturn, 1, 0, 0, 0, 0)]
theorem tkX4_observed : tOk cX4_observed "RumourSourceModel" 2 tX4_observed = true := by decide +kernel
theorem fX4_observed_0 : fetch tX4_observed 0 = some (.iload_n 1, 1, 1, 0, 0, 0) := rfl
theorem fX4_observed_1 : fetch tX4_observed 1 = some (.invokestatic 50, 3, 0, 4, 0, 0) := rfl
theorem fX4_observed_4 : fetch tX4_observed 4 = some (.ifCond .eq 15, 3, 19, 0, 0, 0) := rfl
theorem fX4_observed_7 : fetch tX4_observed 7 = some (.aload_n 0, 1, 0, 0, 0, 0) := rfl
theorem fX4_observed_8 : fetch tX4_observed 8 = some (.getfield 7, 3, 4, 0, 0, 0) := rfl
theorem fX4_observed_11 : fetch tX4_observed 11 = some (.bipush 51, 2, 0, 0, 51, 0) := rfl
theorem fX4_observed_13 : fetch tX4_observed 13 = some (.iload_n 1, 1, 1, 0, 0, 0) := rfl
theorem fX4_observed_14 : fetch tX4_observed 14 = some (.iadd, 1, 0, 0, 0, 0) := rfl
theorem fX4_observed_15 : fetch tX4_observed 15 = some (.iaload, 1, 0, 0, 0, 0) := rfl
theorem fX4_observed_16 : fetch tX4_observed 16 = some (.goto 5, 3, 21, 0, 0, 0) := rfl
theorem fX4_observed_19 : fetch tX4_observed 19 = some (.bipush (-2), 2, 0, 0, (-2), 0) := rfl
theorem fX4_observed_21 : fetch tX4_observed 21 = some (.ireturn, 1, 0, 0, 0, 0) := rfl
def tX4_setSensors : List (Nat × TE) := [(0, .iload_n 1, 1, 1, 0, 0, 0), (1, .iconst 0, 1, 0, 0, 0, 0), (2, .sipush 255, 3, 0, 0, 255, 0), (5, .invokestatic 42, 3, 0, 4, 0, 0), (8, .ifCond .ne 6, 3, 14, 0, 0, 0), (11, .bipush (-3), 2, 0, 0, (-3), 0), (13, .ireturn, 1, 0, 0, 0, 0), (14, .aload_n 0, 1, 0, 0, 0, 0), (15, .invokevirtual 57, 3, 1, 4, 0, 0), (18, .aload_n 0, 1, 0, 0, 0, 0), (19, .getfield 7, 3, 4, 0, 0, 0), (22, .iconst 2, 1, 0, 0, 2, 0), (23, .iaload, 1, 0, 0, 0, 0), (24, .istore_n 2, 1, 2, 0, 0, 0), (25, .aload_n 0, 1, 0, 0, 0, 0), (26, .getfield 7, 3, 4, 0, 0, 0), (29, .iconst 2, 1, 0, 0, 2, 0), (30, .iload_n 1, 1, 1, 0, 0, 0), (31, .iastore, 1, 0, 0, 0, 0), (32, .iload_n 2, 1, 2, 0, 0, 0), (33, .ireturn, 1, 0, 0, 0, 0)]
theorem tkX4_setSensors : tOk cX4_setSensors "RumourSourceModel" 3 tX4_setSensors = true := by decide +kernel
theorem fX4_setSensors_0 : fetch tX4_setSensors 0 = some (.iload_n 1, 1, 1, 0, 0, 0) := rfl
theorem fX4_setSensors_1 : fetch tX4_setSensors 1 = some (.iconst 0, 1, 0, 0, 0, 0) := rfl
theorem fX4_setSensors_2 : fetch tX4_setSensors 2 = some (.sipush 255, 3, 0, 0, 255, 0) := rfl
theorem fX4_setSensors_5 : fetch tX4_setSensors 5 = some (.invokestatic 42, 3, 0, 4, 0, 0) := rfl
theorem fX4_setSensors_8 : fetch tX4_setSensors 8 = some (.ifCond .ne 6, 3, 14, 0, 0, 0) := rfl
theorem fX4_setSensors_11 : fetch tX4_setSensors 11 = some (.bipush (-3), 2, 0, 0, (-3), 0) := rfl
theorem fX4_setSensors_13 : fetch tX4_setSensors 13 = some (.ireturn, 1, 0, 0, 0, 0) := rfl
theorem fX4_setSensors_14 : fetch tX4_setSensors 14 = some (.aload_n 0, 1, 0, 0, 0, 0) := rfl
theorem fX4_setSensors_15 : fetch tX4_setSensors 15 = some (.invokevirtual 57, 3, 1, 4, 0, 0) := rfl
theorem fX4_setSensors_18 : fetch tX4_setSensors 18 = some (.aload_n 0, 1, 0, 0, 0, 0) := rfl
theorem fX4_setSensors_19 : fetch tX4_setSensors 19 = some (.getfield 7, 3, 4, 0, 0, 0) := rfl
theorem fX4_setSensors_22 : fetch tX4_setSensors 22 = some (.iconst 2, 1, 0, 0, 2, 0) := rfl
theorem fX4_setSensors_23 : fetch tX4_setSensors 23 = some (.iaload, 1, 0, 0, 0, 0) := rfl
theorem fX4_setSensors_24 : fetch tX4_setSensors 24 = some (.istore_n 2, 1, 2, 0, 0, 0) := rfl
theorem fX4_setSensors_25 : fetch tX4_setSensors 25 = some (.aload_n 0, 1, 0, 0, 0, 0) := rfl
theorem fX4_setSensors_26 : fetch tX4_setSensors 26 = some (.getfield 7, 3, 4, 0, 0, 0) := rfl
theorem fX4_setSensors_29 : fetch tX4_setSensors 29 = some (.iconst 2, 1, 0, 0, 2, 0) := rfl
theorem fX4_setSensors_30 : fetch tX4_setSensors 30 = some (.iload_n 1, 1, 1, 0, 0, 0) := rfl
theorem fX4_setSensors_31 : fetch tX4_setSensors 31 = some (.iastore, 1, 0, 0, 0, 0) := rfl
theorem fX4_setSensors_32 : fetch tX4_setSensors 32 = some (.iload_n 2, 1, 2, 0, 0, 0) := rfl
theorem fX4_setSensors_33 : fetch tX4_setSensors 33 = some (.ireturn, 1, 0, 0, 0, 0) := rfl
def tX4_simulate : List (Nat × TE) := [(0, .iload_n 1, 1, 1, 0, 0, 0), (1, .invokestatic 74, 3, 0, 4, 0, 0), (4, .ifCond .ne 6, 3, 10, 0, 0, 0), (7, .bipush (-3), 2, 0, 0, (-3), 0), (9, .ireturn, 1, 0, 0, 0, 0), (10, .aload_n 0, 1, 0, 0, 0, 0), (11, .invokevirtual 57, 3, 1, 4, 0, 0), (14, .iload_n 2, 1, 2, 0, 0, 0), (15, .istore_n 3, 1, 3, 0, 0, 0), (16, .iconst 0, 1, 0, 0, 0, 0), (17, .istore 4, 2, 4, 0, 0, 0), (19, .iconst 0, 1, 0, 0, 0, 0), (20, .istore 5, 2, 5, 0, 0, 0), (22, .iload 5, 2, 5, 0, 0, 0), (24, .aload_n 0, 1, 0, 0, 0, 0), (25, .getfield 7, 3, 4, 0, 0, 0), (28, .iconst 0, 1, 0, 0, 0, 0), (29, .iaload, 1, 0, 0, 0, 0), (30, .if_icmp .ge 48, 3, 78, 0, 0, 0), (33, .iload_n 3, 1, 3, 0, 0, 0), (34, .ldc 77, 2, 0, 0, 1103515245, 0), (36, .imul, 1, 0, 0, 0, 0), (37, .sipush 12345, 3, 0, 0, 12345, 0), (40, .iadd, 1, 0, 0, 0, 0), (41, .istore_n 3, 1, 3, 0, 0, 0), (42, .iload 4, 2, 4, 0, 0, 0), (44, .iload_n 3, 1, 3, 0, 0, 0), (45, .bipush 8, 2, 0, 0, 8, 0), (47, .iushr, 1, 0, 0, 0, 0), (48, .bipush 10, 2, 0, 0, 10, 0), (50, .irem, 1, 0, 0, 0, 0), (51, .aload_n 0, 1, 0, 0, 0, 0), (52, .iload 5, 2, 5, 0, 0, 0), (54, .iconst 2, 1, 0, 0, 2, 0), (55, .invokevirtual 46, 3, 2, 4, 0, 0), (58, .if_icmp .ge 10, 3, 68, 0, 0, 0), (61, .iconst 1, 1, 0, 0, 1, 0), (62, .iload 5, 2, 5, 0, 0, 0), (64, .ishl, 1, 0, 0, 0, 0), (65, .goto 4, 3, 69, 0, 0, 0), (68, .iconst 0, 1, 0, 0, 0, 0), (69, .ior, 1, 0, 0, 0, 0), (70, .istore 4, 2, 4, 0, 0, 0), (72, .iinc 5 1, 3, 5, 0, 1, 0), (75, .goto (-53), 3, 22, 0, 0, 0), (78, .aload_n 0, 1, 0, 0, 0, 0), (79, .iload_n 1, 1, 1, 0, 0, 0), (80, .iload 4, 2, 4, 0, 0, 0), (82, .invokevirtual 78, 3, 3, 4, 0, 0), (85, .iconst 0, 1, 0, 0, 0, 0), (86, .istore 5, 2, 5, 0, 0, 0), (88, .iconst 0, 1, 0, 0, 0, 0), (89, .istore 6, 2, 6, 0, 0, 0), (91, .iload 6, 2, 6, 0, 0, 0), (93, .bipush 8, 2, 0, 0, 8, 0), (95, .if_icmp .ge 72, 3, 167, 0, 0, 0), (98, .aload_n 0, 1, 0, 0, 0, 0), (99, .getfield 7, 3, 4, 0, 0, 0), (102, .bipush 51, 2, 0, 0, 51, 0), (104, .iload 6, 2, 6, 0, 0, 0), (106, .iadd, 1, 0, 0, 0, 0), (107, .aload_n 0, 1, 0, 0, 0, 0), (108, .getfield 7, 3, 4, 0, 0, 0), (111, .iconst 2, 1, 0, 0, 2, 0), (112, .iaload, 1, 0, 0, 0, 0), (113, .iload 6, 2, 6, 0, 0, 0), (115, .ishr, 1, 0, 0, 0, 0), (116, .iconst 1, 1, 0, 0, 1, 0), (117, .iand, 1, 0, 0, 0, 0), (118, .iconst 1, 1, 0, 0, 1, 0), (119, .if_icmp .ne 16, 3, 135, 0, 0, 0), (122, .aload_n 0, 1, 0, 0, 0, 0), (123, .getfield 13, 3, 4, 3, 0, 0), (126, .iload 6, 2, 6, 0, 0, 0), (128, .iaload, 1, 0, 0, 0, 0), (129, .invokestatic 67, 3, 4, 4, 0, 0), (132, .goto 5, 3, 137, 0, 0, 0), (135, .bipush 100, 2, 0, 0, 100, 0), (137, .iastore, 1, 0, 0, 0, 0), (138, .iload 5, 2, 5, 0, 0, 0), (140, .aload_n 0, 1, 0, 0, 0, 0), (141, .getfield 13, 3, 4, 3, 0, 0), (144, .iload 6, 2, 6, 0, 0, 0), (146, .iaload, 1, 0, 0, 0, 0), (147, .sipush 1000, 3, 0, 0, 1000, 0), (150, .if_icmp .ne 7, 3, 157, 0, 0, 0), (153, .iconst 0, 1, 0, 0, 0, 0), (154, .goto 4, 3, 158, 0, 0, 0), (157, .iconst 1, 1, 0, 0, 1, 0), (158, .iadd, 1, 0, 0, 0, 0), (159, .istore 5, 2, 5, 0, 0, 0), (161, .iinc 6 1, 3, 6, 0, 1, 0), (164, .goto (-73), 3, 91, 0, 0, 0), (167, .iload 5, 2, 5, 0, 0, 0), (169, .ireturn, 1, 0, 0, 0, 0)]
theorem tkX4_simulate : tOk cX4_simulate "RumourSourceModel" 7 tX4_simulate = true := by decide +kernel
theorem fX4_simulate_0 : fetch tX4_simulate 0 = some (.iload_n 1, 1, 1, 0, 0, 0) := rfl
theorem fX4_simulate_1 : fetch tX4_simulate 1 = some (.invokestatic 74, 3, 0, 4, 0, 0) := rfl
theorem fX4_simulate_4 : fetch tX4_simulate 4 = some (.ifCond .ne 6, 3, 10, 0, 0, 0) := rfl
theorem fX4_simulate_7 : fetch tX4_simulate 7 = some (.bipush (-3), 2, 0, 0, (-3), 0) := rfl
theorem fX4_simulate_9 : fetch tX4_simulate 9 = some (.ireturn, 1, 0, 0, 0, 0) := rfl
theorem fX4_simulate_10 : fetch tX4_simulate 10 = some (.aload_n 0, 1, 0, 0, 0, 0) := rfl
theorem fX4_simulate_11 : fetch tX4_simulate 11 = some (.invokevirtual 57, 3, 1, 4, 0, 0) := rfl
theorem fX4_simulate_14 : fetch tX4_simulate 14 = some (.iload_n 2, 1, 2, 0, 0, 0) := rfl
theorem fX4_simulate_15 : fetch tX4_simulate 15 = some (.istore_n 3, 1, 3, 0, 0, 0) := rfl
theorem fX4_simulate_16 : fetch tX4_simulate 16 = some (.iconst 0, 1, 0, 0, 0, 0) := rfl
theorem fX4_simulate_17 : fetch tX4_simulate 17 = some (.istore 4, 2, 4, 0, 0, 0) := rfl
theorem fX4_simulate_19 : fetch tX4_simulate 19 = some (.iconst 0, 1, 0, 0, 0, 0) := rfl
theorem fX4_simulate_20 : fetch tX4_simulate 20 = some (.istore 5, 2, 5, 0, 0, 0) := rfl
theorem fX4_simulate_22 : fetch tX4_simulate 22 = some (.iload 5, 2, 5, 0, 0, 0) := rfl
theorem fX4_simulate_24 : fetch tX4_simulate 24 = some (.aload_n 0, 1, 0, 0, 0, 0) := rfl
theorem fX4_simulate_25 : fetch tX4_simulate 25 = some (.getfield 7, 3, 4, 0, 0, 0) := rfl
theorem fX4_simulate_28 : fetch tX4_simulate 28 = some (.iconst 0, 1, 0, 0, 0, 0) := rfl
theorem fX4_simulate_29 : fetch tX4_simulate 29 = some (.iaload, 1, 0, 0, 0, 0) := rfl
theorem fX4_simulate_30 : fetch tX4_simulate 30 = some (.if_icmp .ge 48, 3, 78, 0, 0, 0) := rfl
theorem fX4_simulate_33 : fetch tX4_simulate 33 = some (.iload_n 3, 1, 3, 0, 0, 0) := rfl
theorem fX4_simulate_34 : fetch tX4_simulate 34 = some (.ldc 77, 2, 0, 0, 1103515245, 0) := rfl
theorem fX4_simulate_36 : fetch tX4_simulate 36 = some (.imul, 1, 0, 0, 0, 0) := rfl
theorem fX4_simulate_37 : fetch tX4_simulate 37 = some (.sipush 12345, 3, 0, 0, 12345, 0) := rfl
theorem fX4_simulate_40 : fetch tX4_simulate 40 = some (.iadd, 1, 0, 0, 0, 0) := rfl
theorem fX4_simulate_41 : fetch tX4_simulate 41 = some (.istore_n 3, 1, 3, 0, 0, 0) := rfl
theorem fX4_simulate_42 : fetch tX4_simulate 42 = some (.iload 4, 2, 4, 0, 0, 0) := rfl
theorem fX4_simulate_44 : fetch tX4_simulate 44 = some (.iload_n 3, 1, 3, 0, 0, 0) := rfl
theorem fX4_simulate_45 : fetch tX4_simulate 45 = some (.bipush 8, 2, 0, 0, 8, 0) := rfl
theorem fX4_simulate_47 : fetch tX4_simulate 47 = some (.iushr, 1, 0, 0, 0, 0) := rfl
theorem fX4_simulate_48 : fetch tX4_simulate 48 = some (.bipush 10, 2, 0, 0, 10, 0) := rfl
theorem fX4_simulate_50 : fetch tX4_simulate 50 = some (.irem, 1, 0, 0, 0, 0) := rfl
theorem fX4_simulate_51 : fetch tX4_simulate 51 = some (.aload_n 0, 1, 0, 0, 0, 0) := rfl
theorem fX4_simulate_52 : fetch tX4_simulate 52 = some (.iload 5, 2, 5, 0, 0, 0) := rfl
theorem fX4_simulate_54 : fetch tX4_simulate 54 = some (.iconst 2, 1, 0, 0, 2, 0) := rfl
theorem fX4_simulate_55 : fetch tX4_simulate 55 = some (.invokevirtual 46, 3, 2, 4, 0, 0) := rfl
theorem fX4_simulate_58 : fetch tX4_simulate 58 = some (.if_icmp .ge 10, 3, 68, 0, 0, 0) := rfl
theorem fX4_simulate_61 : fetch tX4_simulate 61 = some (.iconst 1, 1, 0, 0, 1, 0) := rfl
theorem fX4_simulate_62 : fetch tX4_simulate 62 = some (.iload 5, 2, 5, 0, 0, 0) := rfl
theorem fX4_simulate_64 : fetch tX4_simulate 64 = some (.ishl, 1, 0, 0, 0, 0) := rfl
theorem fX4_simulate_65 : fetch tX4_simulate 65 = some (.goto 4, 3, 69, 0, 0, 0) := rfl
theorem fX4_simulate_68 : fetch tX4_simulate 68 = some (.iconst 0, 1, 0, 0, 0, 0) := rfl
theorem fX4_simulate_69 : fetch tX4_simulate 69 = some (.ior, 1, 0, 0, 0, 0) := rfl
theorem fX4_simulate_70 : fetch tX4_simulate 70 = some (.istore 4, 2, 4, 0, 0, 0) := rfl
theorem fX4_simulate_72 : fetch tX4_simulate 72 = some (.iinc 5 1, 3, 5, 0, 1, 0) := rfl
theorem fX4_simulate_75 : fetch tX4_simulate 75 = some (.goto (-53), 3, 22, 0, 0, 0) := rfl
theorem fX4_simulate_78 : fetch tX4_simulate 78 = some (.aload_n 0, 1, 0, 0, 0, 0) := rfl
theorem fX4_simulate_79 : fetch tX4_simulate 79 = some (.iload_n 1, 1, 1, 0, 0, 0) := rfl
theorem fX4_simulate_80 : fetch tX4_simulate 80 = some (.iload 4, 2, 4, 0, 0, 0) := rfl
theorem fX4_simulate_82 : fetch tX4_simulate 82 = some (.invokevirtual 78, 3, 3, 4, 0, 0) := rfl
theorem fX4_simulate_85 : fetch tX4_simulate 85 = some (.iconst 0, 1, 0, 0, 0, 0) := rfl
theorem fX4_simulate_86 : fetch tX4_simulate 86 = some (.istore 5, 2, 5, 0, 0, 0) := rfl
theorem fX4_simulate_88 : fetch tX4_simulate 88 = some (.iconst 0, 1, 0, 0, 0, 0) := rfl
theorem fX4_simulate_89 : fetch tX4_simulate 89 = some (.istore 6, 2, 6, 0, 0, 0) := rfl
theorem fX4_simulate_91 : fetch tX4_simulate 91 = some (.iload 6, 2, 6, 0, 0, 0) := rfl
theorem fX4_simulate_93 : fetch tX4_simulate 93 = some (.bipush 8, 2, 0, 0, 8, 0) := rfl
theorem fX4_simulate_95 : fetch tX4_simulate 95 = some (.if_icmp .ge 72, 3, 167, 0, 0, 0) := rfl
theorem fX4_simulate_98 : fetch tX4_simulate 98 = some (.aload_n 0, 1, 0, 0, 0, 0) := rfl
theorem fX4_simulate_99 : fetch tX4_simulate 99 = some (.getfield 7, 3, 4, 0, 0, 0) := rfl
theorem fX4_simulate_102 : fetch tX4_simulate 102 = some (.bipush 51, 2, 0, 0, 51, 0) := rfl
theorem fX4_simulate_104 : fetch tX4_simulate 104 = some (.iload 6, 2, 6, 0, 0, 0) := rfl
theorem fX4_simulate_106 : fetch tX4_simulate 106 = some (.iadd, 1, 0, 0, 0, 0) := rfl
theorem fX4_simulate_107 : fetch tX4_simulate 107 = some (.aload_n 0, 1, 0, 0, 0, 0) := rfl
theorem fX4_simulate_108 : fetch tX4_simulate 108 = some (.getfield 7, 3, 4, 0, 0, 0) := rfl
theorem fX4_simulate_111 : fetch tX4_simulate 111 = some (.iconst 2, 1, 0, 0, 2, 0) := rfl
theorem fX4_simulate_112 : fetch tX4_simulate 112 = some (.iaload, 1, 0, 0, 0, 0) := rfl
theorem fX4_simulate_113 : fetch tX4_simulate 113 = some (.iload 6, 2, 6, 0, 0, 0) := rfl
theorem fX4_simulate_115 : fetch tX4_simulate 115 = some (.ishr, 1, 0, 0, 0, 0) := rfl
theorem fX4_simulate_116 : fetch tX4_simulate 116 = some (.iconst 1, 1, 0, 0, 1, 0) := rfl
theorem fX4_simulate_117 : fetch tX4_simulate 117 = some (.iand, 1, 0, 0, 0, 0) := rfl
theorem fX4_simulate_118 : fetch tX4_simulate 118 = some (.iconst 1, 1, 0, 0, 1, 0) := rfl
theorem fX4_simulate_119 : fetch tX4_simulate 119 = some (.if_icmp .ne 16, 3, 135, 0, 0, 0) := rfl
theorem fX4_simulate_122 : fetch tX4_simulate 122 = some (.aload_n 0, 1, 0, 0, 0, 0) := rfl
theorem fX4_simulate_123 : fetch tX4_simulate 123 = some (.getfield 13, 3, 4, 3, 0, 0) := rfl
theorem fX4_simulate_126 : fetch tX4_simulate 126 = some (.iload 6, 2, 6, 0, 0, 0) := rfl
theorem fX4_simulate_128 : fetch tX4_simulate 128 = some (.iaload, 1, 0, 0, 0, 0) := rfl
theorem fX4_simulate_129 : fetch tX4_simulate 129 = some (.invokestatic 67, 3, 4, 4, 0, 0) := rfl
theorem fX4_simulate_132 : fetch tX4_simulate 132 = some (.goto 5, 3, 137, 0, 0, 0) := rfl
theorem fX4_simulate_135 : fetch tX4_simulate 135 = some (.bipush 100, 2, 0, 0, 100, 0) := rfl
theorem fX4_simulate_137 : fetch tX4_simulate 137 = some (.iastore, 1, 0, 0, 0, 0) := rfl
theorem fX4_simulate_138 : fetch tX4_simulate 138 = some (.iload 5, 2, 5, 0, 0, 0) := rfl
theorem fX4_simulate_140 : fetch tX4_simulate 140 = some (.aload_n 0, 1, 0, 0, 0, 0) := rfl
theorem fX4_simulate_141 : fetch tX4_simulate 141 = some (.getfield 13, 3, 4, 3, 0, 0) := rfl
theorem fX4_simulate_144 : fetch tX4_simulate 144 = some (.iload 6, 2, 6, 0, 0, 0) := rfl
theorem fX4_simulate_146 : fetch tX4_simulate 146 = some (.iaload, 1, 0, 0, 0, 0) := rfl
theorem fX4_simulate_147 : fetch tX4_simulate 147 = some (.sipush 1000, 3, 0, 0, 1000, 0) := rfl
theorem fX4_simulate_150 : fetch tX4_simulate 150 = some (.if_icmp .ne 7, 3, 157, 0, 0, 0) := rfl
theorem fX4_simulate_153 : fetch tX4_simulate 153 = some (.iconst 0, 1, 0, 0, 0, 0) := rfl
theorem fX4_simulate_154 : fetch tX4_simulate 154 = some (.goto 4, 3, 158, 0, 0, 0) := rfl
theorem fX4_simulate_157 : fetch tX4_simulate 157 = some (.iconst 1, 1, 0, 0, 1, 0) := rfl
theorem fX4_simulate_158 : fetch tX4_simulate 158 = some (.iadd, 1, 0, 0, 0, 0) := rfl
theorem fX4_simulate_159 : fetch tX4_simulate 159 = some (.istore 5, 2, 5, 0, 0, 0) := rfl
theorem fX4_simulate_161 : fetch tX4_simulate 161 = some (.iinc 6 1, 3, 6, 0, 1, 0) := rfl
theorem fX4_simulate_164 : fetch tX4_simulate 164 = some (.goto (-73), 3, 91, 0, 0, 0) := rfl
theorem fX4_simulate_167 : fetch tX4_simulate 167 = some (.iload 5, 2, 5, 0, 0, 0) := rfl
theorem fX4_simulate_169 : fetch tX4_simulate 169 = some (.ireturn, 1, 0, 0, 0, 0) := rfl
def tX4_timeBy : List (Nat × TE) := [(0, .iload_n 3, 1, 3, 0, 0, 0), (1, .invokestatic 50, 3, 0, 4, 0, 0), (4, .ifCond .ne 6, 3, 10, 0, 0, 0), (7, .bipush (-2), 2, 0, 0, (-2), 0), (9, .ireturn, 1, 0, 0, 0, 0), (10, .iload_n 1, 1, 1, 0, 0, 0), (11, .invokestatic 74, 3, 1, 4, 0, 0), (14, .ifCond .eq 11, 3, 25, 0, 0, 0), (17, .aload_n 0, 1, 0, 0, 0, 0), (18, .iload_n 2, 1, 2, 0, 0, 0), (19, .invokevirtual 81, 3, 2, 4, 0, 0), (22, .ifCond .ne 6, 3, 28, 0, 0, 0), (25, .bipush (-3), 2, 0, 0, (-3), 0), (27, .ireturn, 1, 0, 0, 0, 0), (28, .aload_n 0, 1, 0, 0, 0, 0), (29, .iload_n 1, 1, 1, 0, 0, 0), (30, .iload_n 2, 1, 2, 0, 0, 0), (31, .invokevirtual 78, 3, 3, 4, 0, 0), (34, .aload_n 0, 1, 0, 0, 0, 0), (35, .getfield 13, 3, 4, 3, 0, 0), (38, .iload_n 3, 1, 3, 0, 0, 0), (39, .iaload, 1, 0, 0, 0, 0), (40, .invokestatic 67, 3, 4, 4, 0, 0), (43, .ireturn, 1, 0, 0, 0, 0)]
theorem tkX4_timeBy : tOk cX4_timeBy "RumourSourceModel" 4 tX4_timeBy = true := by decide +kernel
theorem fX4_timeBy_0 : fetch tX4_timeBy 0 = some (.iload_n 3, 1, 3, 0, 0, 0) := rfl
theorem fX4_timeBy_1 : fetch tX4_timeBy 1 = some (.invokestatic 50, 3, 0, 4, 0, 0) := rfl
theorem fX4_timeBy_4 : fetch tX4_timeBy 4 = some (.ifCond .ne 6, 3, 10, 0, 0, 0) := rfl
theorem fX4_timeBy_7 : fetch tX4_timeBy 7 = some (.bipush (-2), 2, 0, 0, (-2), 0) := rfl
theorem fX4_timeBy_9 : fetch tX4_timeBy 9 = some (.ireturn, 1, 0, 0, 0, 0) := rfl
theorem fX4_timeBy_10 : fetch tX4_timeBy 10 = some (.iload_n 1, 1, 1, 0, 0, 0) := rfl
theorem fX4_timeBy_11 : fetch tX4_timeBy 11 = some (.invokestatic 74, 3, 1, 4, 0, 0) := rfl
theorem fX4_timeBy_14 : fetch tX4_timeBy 14 = some (.ifCond .eq 11, 3, 25, 0, 0, 0) := rfl
theorem fX4_timeBy_17 : fetch tX4_timeBy 17 = some (.aload_n 0, 1, 0, 0, 0, 0) := rfl
theorem fX4_timeBy_18 : fetch tX4_timeBy 18 = some (.iload_n 2, 1, 2, 0, 0, 0) := rfl
theorem fX4_timeBy_19 : fetch tX4_timeBy 19 = some (.invokevirtual 81, 3, 2, 4, 0, 0) := rfl
theorem fX4_timeBy_22 : fetch tX4_timeBy 22 = some (.ifCond .ne 6, 3, 28, 0, 0, 0) := rfl
theorem fX4_timeBy_25 : fetch tX4_timeBy 25 = some (.bipush (-3), 2, 0, 0, (-3), 0) := rfl
theorem fX4_timeBy_27 : fetch tX4_timeBy 27 = some (.ireturn, 1, 0, 0, 0, 0) := rfl
theorem fX4_timeBy_28 : fetch tX4_timeBy 28 = some (.aload_n 0, 1, 0, 0, 0, 0) := rfl
theorem fX4_timeBy_29 : fetch tX4_timeBy 29 = some (.iload_n 1, 1, 1, 0, 0, 0) := rfl
theorem fX4_timeBy_30 : fetch tX4_timeBy 30 = some (.iload_n 2, 1, 2, 0, 0, 0) := rfl
theorem fX4_timeBy_31 : fetch tX4_timeBy 31 = some (.invokevirtual 78, 3, 3, 4, 0, 0) := rfl
theorem fX4_timeBy_34 : fetch tX4_timeBy 34 = some (.aload_n 0, 1, 0, 0, 0, 0) := rfl
theorem fX4_timeBy_35 : fetch tX4_timeBy 35 = some (.getfield 13, 3, 4, 3, 0, 0) := rfl
theorem fX4_timeBy_38 : fetch tX4_timeBy 38 = some (.iload_n 3, 1, 3, 0, 0, 0) := rfl
theorem fX4_timeBy_39 : fetch tX4_timeBy 39 = some (.iaload, 1, 0, 0, 0, 0) := rfl
theorem fX4_timeBy_40 : fetch tX4_timeBy 40 = some (.invokestatic 67, 3, 4, 4, 0, 0) := rfl
theorem fX4_timeBy_43 : fetch tX4_timeBy 43 = some (.ireturn, 1, 0, 0, 0, 0) := rfl
def tX4_weight : List (Nat × TE) := [(0, .aload_n 0, 1, 0, 0, 0, 0), (1, .iload_n 1, 1, 1, 0, 0, 0), (2, .invokevirtual 81, 3, 0, 4, 0, 0), (5, .ifCond .eq 11, 3, 16, 0, 0, 0), (8, .aload_n 0, 1, 0, 0, 0, 0), (9, .iload_n 1, 1, 1, 0, 0, 0), (10, .invokevirtual 84, 3, 1, 4, 0, 0), (13, .goto 6, 3, 19, 0, 0, 0), (16, .ldc2_w 88, 3, 0, 0, 0, (-3)), (19, .lreturn, 1, 0, 0, 0, 0)]
theorem tkX4_weight : tOk cX4_weight "RumourSourceModel" 2 tX4_weight = true := by decide +kernel
theorem fX4_weight_0 : fetch tX4_weight 0 = some (.aload_n 0, 1, 0, 0, 0, 0) := rfl
theorem fX4_weight_1 : fetch tX4_weight 1 = some (.iload_n 1, 1, 1, 0, 0, 0) := rfl
theorem fX4_weight_2 : fetch tX4_weight 2 = some (.invokevirtual 81, 3, 0, 4, 0, 0) := rfl
theorem fX4_weight_5 : fetch tX4_weight 5 = some (.ifCond .eq 11, 3, 16, 0, 0, 0) := rfl
theorem fX4_weight_8 : fetch tX4_weight 8 = some (.aload_n 0, 1, 0, 0, 0, 0) := rfl
theorem fX4_weight_9 : fetch tX4_weight 9 = some (.iload_n 1, 1, 1, 0, 0, 0) := rfl
theorem fX4_weight_10 : fetch tX4_weight 10 = some (.invokevirtual 84, 3, 1, 4, 0, 0) := rfl
theorem fX4_weight_13 : fetch tX4_weight 13 = some (.goto 6, 3, 19, 0, 0, 0) := rfl
theorem fX4_weight_16 : fetch tX4_weight 16 = some (.ldc2_w 88, 3, 0, 0, 0, (-3)) := rfl
theorem fX4_weight_19 : fetch tX4_weight 19 = some (.lreturn, 1, 0, 0, 0, 0) := rfl
def tX4_fits : List (Nat × TE) := [(0, .iload_n 1, 1, 1, 0, 0, 0), (1, .invokestatic 74, 3, 0, 4, 0, 0), (4, .ifCond .eq 11, 3, 15, 0, 0, 0), (7, .aload_n 0, 1, 0, 0, 0, 0), (8, .iload_n 2, 1, 2, 0, 0, 0), (9, .invokevirtual 81, 3, 1, 4, 0, 0), (12, .ifCond .ne 6, 3, 18, 0, 0, 0), (15, .bipush (-3), 2, 0, 0, (-3), 0), (17, .ireturn, 1, 0, 0, 0, 0), (18, .aload_n 0, 1, 0, 0, 0, 0), (19, .iload_n 1, 1, 1, 0, 0, 0), (20, .iload_n 2, 1, 2, 0, 0, 0), (21, .invokevirtual 78, 3, 2, 4, 0, 0), (24, .aload_n 0, 1, 0, 0, 0, 0), (25, .invokevirtual 90, 3, 3, 4, 0, 0), (28, .ifCond .eq 7, 3, 35, 0, 0, 0), (31, .iconst 1, 1, 0, 0, 1, 0), (32, .goto 4, 3, 36, 0, 0, 0), (35, .iconst 0, 1, 0, 0, 0, 0), (36, .ireturn, 1, 0, 0, 0, 0)]
theorem tkX4_fits : tOk cX4_fits "RumourSourceModel" 3 tX4_fits = true := by decide +kernel
theorem fX4_fits_0 : fetch tX4_fits 0 = some (.iload_n 1, 1, 1, 0, 0, 0) := rfl
theorem fX4_fits_1 : fetch tX4_fits 1 = some (.invokestatic 74, 3, 0, 4, 0, 0) := rfl
theorem fX4_fits_4 : fetch tX4_fits 4 = some (.ifCond .eq 11, 3, 15, 0, 0, 0) := rfl
theorem fX4_fits_7 : fetch tX4_fits 7 = some (.aload_n 0, 1, 0, 0, 0, 0) := rfl
theorem fX4_fits_8 : fetch tX4_fits 8 = some (.iload_n 2, 1, 2, 0, 0, 0) := rfl
theorem fX4_fits_9 : fetch tX4_fits 9 = some (.invokevirtual 81, 3, 1, 4, 0, 0) := rfl
theorem fX4_fits_12 : fetch tX4_fits 12 = some (.ifCond .ne 6, 3, 18, 0, 0, 0) := rfl
theorem fX4_fits_15 : fetch tX4_fits 15 = some (.bipush (-3), 2, 0, 0, (-3), 0) := rfl
theorem fX4_fits_17 : fetch tX4_fits 17 = some (.ireturn, 1, 0, 0, 0, 0) := rfl
theorem fX4_fits_18 : fetch tX4_fits 18 = some (.aload_n 0, 1, 0, 0, 0, 0) := rfl
theorem fX4_fits_19 : fetch tX4_fits 19 = some (.iload_n 1, 1, 1, 0, 0, 0) := rfl
theorem fX4_fits_20 : fetch tX4_fits 20 = some (.iload_n 2, 1, 2, 0, 0, 0) := rfl
theorem fX4_fits_21 : fetch tX4_fits 21 = some (.invokevirtual 78, 3, 2, 4, 0, 0) := rfl
theorem fX4_fits_24 : fetch tX4_fits 24 = some (.aload_n 0, 1, 0, 0, 0, 0) := rfl
theorem fX4_fits_25 : fetch tX4_fits 25 = some (.invokevirtual 90, 3, 3, 4, 0, 0) := rfl
theorem fX4_fits_28 : fetch tX4_fits 28 = some (.ifCond .eq 7, 3, 35, 0, 0, 0) := rfl
theorem fX4_fits_31 : fetch tX4_fits 31 = some (.iconst 1, 1, 0, 0, 1, 0) := rfl
theorem fX4_fits_32 : fetch tX4_fits 32 = some (.goto 4, 3, 36, 0, 0, 0) := rfl
theorem fX4_fits_35 : fetch tX4_fits 35 = some (.iconst 0, 1, 0, 0, 0, 0) := rfl
theorem fX4_fits_36 : fetch tX4_fits 36 = some (.ireturn, 1, 0, 0, 0, 0) := rfl
def tX4_timeWeight : List (Nat × TE) := [(0, .iload_n 2, 1, 2, 0, 0, 0), (1, .invokestatic 50, 3, 0, 4, 0, 0), (4, .ifCond .ne 7, 3, 11, 0, 0, 0), (7, .ldc2_w 94, 3, 0, 0, 0, (-2)), (10, .lreturn, 1, 0, 0, 0, 0), (11, .iload_n 1, 1, 1, 0, 0, 0), (12, .invokestatic 74, 3, 1, 4, 0, 0), (15, .ifCond .eq 13, 3, 28, 0, 0, 0), (18, .iload_n 3, 1, 3, 0, 0, 0), (19, .iconst (-1), 1, 0, 0, (-1), 0), (20, .bipush 30, 2, 0, 0, 30, 0), (22, .invokestatic 42, 3, 2, 4, 0, 0), (25, .ifCond .ne 7, 3, 32, 0, 0, 0), (28, .ldc2_w 88, 3, 0, 0, 0, (-3)), (31, .lreturn, 1, 0, 0, 0, 0), (32, .lconst 0, 1, 0, 0, 0, 0), (33, .lstore 4, 2, 4, 0, 0, 0), (35, .iconst 0, 1, 0, 0, 0, 0), (36, .istore 6, 2, 6, 0, 0, 0), (38, .iload 6, 2, 6, 0, 0, 0), (40, .iconst 1, 1, 0, 0, 1, 0), (41, .aload_n 0, 1, 0, 0, 0, 0), (42, .getfield 7, 3, 4, 0, 0, 0), (45, .iconst 0, 1, 0, 0, 0, 0), (46, .iaload, 1, 0, 0, 0, 0), (47, .ishl, 1, 0, 0, 0, 0), (48, .if_icmp .ge 55, 3, 103, 0, 0, 0), (51, .aload_n 0, 1, 0, 0, 0, 0), (52, .iload 6, 2, 6, 0, 0, 0), (54, .invokevirtual 84, 3, 3, 4, 0, 0), (57, .lstore 7, 2, 7, 0, 0, 0), (59, .lload 7, 2, 7, 0, 0, 0), (61, .lconst 0, 1, 0, 0, 0, 0), (62, .lcmp, 1, 0, 0, 0, 0), (63, .ifCond .le 34, 3, 97, 0, 0, 0), (66, .aload_n 0, 1, 0, 0, 0, 0), (67, .iload_n 1, 1, 1, 0, 0, 0), (68, .iload 6, 2, 6, 0, 0, 0), (70, .invokevirtual 78, 3, 4, 4, 0, 0), (73, .lload 4, 2, 4, 0, 0, 0), (75, .aload_n 0, 1, 0, 0, 0, 0), (76, .getfield 13, 3, 4, 3, 0, 0), (79, .iload_n 2, 1, 2, 0, 0, 0), (80, .iaload, 1, 0, 0, 0, 0), (81, .invokestatic 67, 3, 5, 4, 0, 0), (84, .iload_n 3, 1, 3, 0, 0, 0), (85, .if_icmp .ne 8, 3, 93, 0, 0, 0), (88, .lload 7, 2, 7, 0, 0, 0), (90, .goto 4, 3, 94, 0, 0, 0), (93, .lconst 0, 1, 0, 0, 0, 0), (94, .ladd, 1, 0, 0, 0, 0), (95, .lstore 4, 2, 4, 0, 0, 0), (97, .iinc 6 1, 3, 6, 0, 1, 0), (100, .goto (-62), 3, 38, 0, 0, 0), (103, .lload 4, 2, 4, 0, 0, 0), (105, .lreturn, 1, 0, 0, 0, 0)]
theorem tkX4_timeWeight : tOk cX4_timeWeight "RumourSourceModel" 9 tX4_timeWeight = true := by decide +kernel
theorem fX4_timeWeight_0 : fetch tX4_timeWeight 0 = some (.iload_n 2, 1, 2, 0, 0, 0) := rfl
theorem fX4_timeWeight_1 : fetch tX4_timeWeight 1 = some (.invokestatic 50, 3, 0, 4, 0, 0) := rfl
theorem fX4_timeWeight_4 : fetch tX4_timeWeight 4 = some (.ifCond .ne 7, 3, 11, 0, 0, 0) := rfl
theorem fX4_timeWeight_7 : fetch tX4_timeWeight 7 = some (.ldc2_w 94, 3, 0, 0, 0, (-2)) := rfl
theorem fX4_timeWeight_10 : fetch tX4_timeWeight 10 = some (.lreturn, 1, 0, 0, 0, 0) := rfl
theorem fX4_timeWeight_11 : fetch tX4_timeWeight 11 = some (.iload_n 1, 1, 1, 0, 0, 0) := rfl
theorem fX4_timeWeight_12 : fetch tX4_timeWeight 12 = some (.invokestatic 74, 3, 1, 4, 0, 0) := rfl
theorem fX4_timeWeight_15 : fetch tX4_timeWeight 15 = some (.ifCond .eq 13, 3, 28, 0, 0, 0) := rfl
theorem fX4_timeWeight_18 : fetch tX4_timeWeight 18 = some (.iload_n 3, 1, 3, 0, 0, 0) := rfl
theorem fX4_timeWeight_19 : fetch tX4_timeWeight 19 = some (.iconst (-1), 1, 0, 0, (-1), 0) := rfl
theorem fX4_timeWeight_20 : fetch tX4_timeWeight 20 = some (.bipush 30, 2, 0, 0, 30, 0) := rfl
theorem fX4_timeWeight_22 : fetch tX4_timeWeight 22 = some (.invokestatic 42, 3, 2, 4, 0, 0) := rfl
theorem fX4_timeWeight_25 : fetch tX4_timeWeight 25 = some (.ifCond .ne 7, 3, 32, 0, 0, 0) := rfl
theorem fX4_timeWeight_28 : fetch tX4_timeWeight 28 = some (.ldc2_w 88, 3, 0, 0, 0, (-3)) := rfl
theorem fX4_timeWeight_31 : fetch tX4_timeWeight 31 = some (.lreturn, 1, 0, 0, 0, 0) := rfl
theorem fX4_timeWeight_32 : fetch tX4_timeWeight 32 = some (.lconst 0, 1, 0, 0, 0, 0) := rfl
theorem fX4_timeWeight_33 : fetch tX4_timeWeight 33 = some (.lstore 4, 2, 4, 0, 0, 0) := rfl
theorem fX4_timeWeight_35 : fetch tX4_timeWeight 35 = some (.iconst 0, 1, 0, 0, 0, 0) := rfl
theorem fX4_timeWeight_36 : fetch tX4_timeWeight 36 = some (.istore 6, 2, 6, 0, 0, 0) := rfl
theorem fX4_timeWeight_38 : fetch tX4_timeWeight 38 = some (.iload 6, 2, 6, 0, 0, 0) := rfl
theorem fX4_timeWeight_40 : fetch tX4_timeWeight 40 = some (.iconst 1, 1, 0, 0, 1, 0) := rfl
theorem fX4_timeWeight_41 : fetch tX4_timeWeight 41 = some (.aload_n 0, 1, 0, 0, 0, 0) := rfl
theorem fX4_timeWeight_42 : fetch tX4_timeWeight 42 = some (.getfield 7, 3, 4, 0, 0, 0) := rfl
theorem fX4_timeWeight_45 : fetch tX4_timeWeight 45 = some (.iconst 0, 1, 0, 0, 0, 0) := rfl
theorem fX4_timeWeight_46 : fetch tX4_timeWeight 46 = some (.iaload, 1, 0, 0, 0, 0) := rfl
theorem fX4_timeWeight_47 : fetch tX4_timeWeight 47 = some (.ishl, 1, 0, 0, 0, 0) := rfl
theorem fX4_timeWeight_48 : fetch tX4_timeWeight 48 = some (.if_icmp .ge 55, 3, 103, 0, 0, 0) := rfl
theorem fX4_timeWeight_51 : fetch tX4_timeWeight 51 = some (.aload_n 0, 1, 0, 0, 0, 0) := rfl
theorem fX4_timeWeight_52 : fetch tX4_timeWeight 52 = some (.iload 6, 2, 6, 0, 0, 0) := rfl
theorem fX4_timeWeight_54 : fetch tX4_timeWeight 54 = some (.invokevirtual 84, 3, 3, 4, 0, 0) := rfl
theorem fX4_timeWeight_57 : fetch tX4_timeWeight 57 = some (.lstore 7, 2, 7, 0, 0, 0) := rfl
theorem fX4_timeWeight_59 : fetch tX4_timeWeight 59 = some (.lload 7, 2, 7, 0, 0, 0) := rfl
theorem fX4_timeWeight_61 : fetch tX4_timeWeight 61 = some (.lconst 0, 1, 0, 0, 0, 0) := rfl
theorem fX4_timeWeight_62 : fetch tX4_timeWeight 62 = some (.lcmp, 1, 0, 0, 0, 0) := rfl
theorem fX4_timeWeight_63 : fetch tX4_timeWeight 63 = some (.ifCond .le 34, 3, 97, 0, 0, 0) := rfl
theorem fX4_timeWeight_66 : fetch tX4_timeWeight 66 = some (.aload_n 0, 1, 0, 0, 0, 0) := rfl
theorem fX4_timeWeight_67 : fetch tX4_timeWeight 67 = some (.iload_n 1, 1, 1, 0, 0, 0) := rfl
theorem fX4_timeWeight_68 : fetch tX4_timeWeight 68 = some (.iload 6, 2, 6, 0, 0, 0) := rfl
theorem fX4_timeWeight_70 : fetch tX4_timeWeight 70 = some (.invokevirtual 78, 3, 4, 4, 0, 0) := rfl
theorem fX4_timeWeight_73 : fetch tX4_timeWeight 73 = some (.lload 4, 2, 4, 0, 0, 0) := rfl
theorem fX4_timeWeight_75 : fetch tX4_timeWeight 75 = some (.aload_n 0, 1, 0, 0, 0, 0) := rfl
theorem fX4_timeWeight_76 : fetch tX4_timeWeight 76 = some (.getfield 13, 3, 4, 3, 0, 0) := rfl
theorem fX4_timeWeight_79 : fetch tX4_timeWeight 79 = some (.iload_n 2, 1, 2, 0, 0, 0) := rfl
theorem fX4_timeWeight_80 : fetch tX4_timeWeight 80 = some (.iaload, 1, 0, 0, 0, 0) := rfl
theorem fX4_timeWeight_81 : fetch tX4_timeWeight 81 = some (.invokestatic 67, 3, 5, 4, 0, 0) := rfl
theorem fX4_timeWeight_84 : fetch tX4_timeWeight 84 = some (.iload_n 3, 1, 3, 0, 0, 0) := rfl
theorem fX4_timeWeight_85 : fetch tX4_timeWeight 85 = some (.if_icmp .ne 8, 3, 93, 0, 0, 0) := rfl
theorem fX4_timeWeight_88 : fetch tX4_timeWeight 88 = some (.lload 7, 2, 7, 0, 0, 0) := rfl
theorem fX4_timeWeight_90 : fetch tX4_timeWeight 90 = some (.goto 4, 3, 94, 0, 0, 0) := rfl
theorem fX4_timeWeight_93 : fetch tX4_timeWeight 93 = some (.lconst 0, 1, 0, 0, 0, 0) := rfl
theorem fX4_timeWeight_94 : fetch tX4_timeWeight 94 = some (.ladd, 1, 0, 0, 0, 0) := rfl
theorem fX4_timeWeight_95 : fetch tX4_timeWeight 95 = some (.lstore 4, 2, 4, 0, 0, 0) := rfl
theorem fX4_timeWeight_97 : fetch tX4_timeWeight 97 = some (.iinc 6 1, 3, 6, 0, 1, 0) := rfl
theorem fX4_timeWeight_100 : fetch tX4_timeWeight 100 = some (.goto (-62), 3, 38, 0, 0, 0) := rfl
theorem fX4_timeWeight_103 : fetch tX4_timeWeight 103 = some (.lload 4, 2, 4, 0, 0, 0) := rfl
theorem fX4_timeWeight_105 : fetch tX4_timeWeight 105 = some (.lreturn, 1, 0, 0, 0, 0) := rfl
def tX4_reach : List (Nat × TE) := [(0, .iload_n 1, 1, 1, 0, 0, 0), (1, .invokestatic 74, 3, 0, 4, 0, 0), (4, .ifCond .ne 7, 3, 11, 0, 0, 0), (7, .ldc2_w 88, 3, 0, 0, 0, (-3)), (10, .lreturn, 1, 0, 0, 0, 0), (11, .lconst 0, 1, 0, 0, 0, 0), (12, .lstore_n 2, 1, 2, 0, 0, 0), (13, .iconst 0, 1, 0, 0, 0, 0), (14, .istore 4, 2, 4, 0, 0, 0), (16, .iload 4, 2, 4, 0, 0, 0), (18, .iconst 1, 1, 0, 0, 1, 0), (19, .aload_n 0, 1, 0, 0, 0, 0), (20, .getfield 7, 3, 4, 0, 0, 0), (23, .iconst 0, 1, 0, 0, 0, 0), (24, .iaload, 1, 0, 0, 0, 0), (25, .ishl, 1, 0, 0, 0, 0), (26, .if_icmp .ge 69, 3, 95, 0, 0, 0), (29, .aload_n 0, 1, 0, 0, 0, 0), (30, .iload 4, 2, 4, 0, 0, 0), (32, .invokevirtual 84, 3, 1, 4, 0, 0), (35, .lstore 5, 2, 5, 0, 0, 0), (37, .lload 5, 2, 5, 0, 0, 0), (39, .lconst 0, 1, 0, 0, 0, 0), (40, .lcmp, 1, 0, 0, 0, 0), (41, .ifCond .le 48, 3, 89, 0, 0, 0), (44, .aload_n 0, 1, 0, 0, 0, 0), (45, .iload_n 1, 1, 1, 0, 0, 0), (46, .iload 4, 2, 4, 0, 0, 0), (48, .invokevirtual 78, 3, 2, 4, 0, 0), (51, .iconst 0, 1, 0, 0, 0, 0), (52, .istore 7, 2, 7, 0, 0, 0), (54, .iload 7, 2, 7, 0, 0, 0), (56, .bipush 8, 2, 0, 0, 8, 0), (58, .if_icmp .ge 31, 3, 89, 0, 0, 0), (61, .lload_n 2, 1, 2, 0, 0, 0), (62, .aload_n 0, 1, 0, 0, 0, 0), (63, .getfield 13, 3, 4, 3, 0, 0), (66, .iload 7, 2, 7, 0, 0, 0), (68, .iaload, 1, 0, 0, 0, 0), (69, .sipush 1000, 3, 0, 0, 1000, 0), (72, .if_icmp .ne 7, 3, 79, 0, 0, 0), (75, .lconst 0, 1, 0, 0, 0, 0), (76, .goto 5, 3, 81, 0, 0, 0), (79, .lload 5, 2, 5, 0, 0, 0), (81, .ladd, 1, 0, 0, 0, 0), (82, .lstore_n 2, 1, 2, 0, 0, 0), (83, .iinc 7 1, 3, 7, 0, 1, 0), (86, .goto (-32), 3, 54, 0, 0, 0), (89, .iinc 4 1, 3, 4, 0, 1, 0), (92, .goto (-76), 3, 16, 0, 0, 0), (95, .lload_n 2, 1, 2, 0, 0, 0), (96, .lreturn, 1, 0, 0, 0, 0)]
theorem tkX4_reach : tOk cX4_reach "RumourSourceModel" 8 tX4_reach = true := by decide +kernel
theorem fX4_reach_0 : fetch tX4_reach 0 = some (.iload_n 1, 1, 1, 0, 0, 0) := rfl
theorem fX4_reach_1 : fetch tX4_reach 1 = some (.invokestatic 74, 3, 0, 4, 0, 0) := rfl
theorem fX4_reach_4 : fetch tX4_reach 4 = some (.ifCond .ne 7, 3, 11, 0, 0, 0) := rfl
theorem fX4_reach_7 : fetch tX4_reach 7 = some (.ldc2_w 88, 3, 0, 0, 0, (-3)) := rfl
theorem fX4_reach_10 : fetch tX4_reach 10 = some (.lreturn, 1, 0, 0, 0, 0) := rfl
theorem fX4_reach_11 : fetch tX4_reach 11 = some (.lconst 0, 1, 0, 0, 0, 0) := rfl
theorem fX4_reach_12 : fetch tX4_reach 12 = some (.lstore_n 2, 1, 2, 0, 0, 0) := rfl
theorem fX4_reach_13 : fetch tX4_reach 13 = some (.iconst 0, 1, 0, 0, 0, 0) := rfl
theorem fX4_reach_14 : fetch tX4_reach 14 = some (.istore 4, 2, 4, 0, 0, 0) := rfl
theorem fX4_reach_16 : fetch tX4_reach 16 = some (.iload 4, 2, 4, 0, 0, 0) := rfl
theorem fX4_reach_18 : fetch tX4_reach 18 = some (.iconst 1, 1, 0, 0, 1, 0) := rfl
theorem fX4_reach_19 : fetch tX4_reach 19 = some (.aload_n 0, 1, 0, 0, 0, 0) := rfl
theorem fX4_reach_20 : fetch tX4_reach 20 = some (.getfield 7, 3, 4, 0, 0, 0) := rfl
theorem fX4_reach_23 : fetch tX4_reach 23 = some (.iconst 0, 1, 0, 0, 0, 0) := rfl
theorem fX4_reach_24 : fetch tX4_reach 24 = some (.iaload, 1, 0, 0, 0, 0) := rfl
theorem fX4_reach_25 : fetch tX4_reach 25 = some (.ishl, 1, 0, 0, 0, 0) := rfl
theorem fX4_reach_26 : fetch tX4_reach 26 = some (.if_icmp .ge 69, 3, 95, 0, 0, 0) := rfl
theorem fX4_reach_29 : fetch tX4_reach 29 = some (.aload_n 0, 1, 0, 0, 0, 0) := rfl
theorem fX4_reach_30 : fetch tX4_reach 30 = some (.iload 4, 2, 4, 0, 0, 0) := rfl
theorem fX4_reach_32 : fetch tX4_reach 32 = some (.invokevirtual 84, 3, 1, 4, 0, 0) := rfl
theorem fX4_reach_35 : fetch tX4_reach 35 = some (.lstore 5, 2, 5, 0, 0, 0) := rfl
theorem fX4_reach_37 : fetch tX4_reach 37 = some (.lload 5, 2, 5, 0, 0, 0) := rfl
theorem fX4_reach_39 : fetch tX4_reach 39 = some (.lconst 0, 1, 0, 0, 0, 0) := rfl
theorem fX4_reach_40 : fetch tX4_reach 40 = some (.lcmp, 1, 0, 0, 0, 0) := rfl
theorem fX4_reach_41 : fetch tX4_reach 41 = some (.ifCond .le 48, 3, 89, 0, 0, 0) := rfl
theorem fX4_reach_44 : fetch tX4_reach 44 = some (.aload_n 0, 1, 0, 0, 0, 0) := rfl
theorem fX4_reach_45 : fetch tX4_reach 45 = some (.iload_n 1, 1, 1, 0, 0, 0) := rfl
theorem fX4_reach_46 : fetch tX4_reach 46 = some (.iload 4, 2, 4, 0, 0, 0) := rfl
theorem fX4_reach_48 : fetch tX4_reach 48 = some (.invokevirtual 78, 3, 2, 4, 0, 0) := rfl
theorem fX4_reach_51 : fetch tX4_reach 51 = some (.iconst 0, 1, 0, 0, 0, 0) := rfl
theorem fX4_reach_52 : fetch tX4_reach 52 = some (.istore 7, 2, 7, 0, 0, 0) := rfl
theorem fX4_reach_54 : fetch tX4_reach 54 = some (.iload 7, 2, 7, 0, 0, 0) := rfl
theorem fX4_reach_56 : fetch tX4_reach 56 = some (.bipush 8, 2, 0, 0, 8, 0) := rfl
theorem fX4_reach_58 : fetch tX4_reach 58 = some (.if_icmp .ge 31, 3, 89, 0, 0, 0) := rfl
theorem fX4_reach_61 : fetch tX4_reach 61 = some (.lload_n 2, 1, 2, 0, 0, 0) := rfl
theorem fX4_reach_62 : fetch tX4_reach 62 = some (.aload_n 0, 1, 0, 0, 0, 0) := rfl
theorem fX4_reach_63 : fetch tX4_reach 63 = some (.getfield 13, 3, 4, 3, 0, 0) := rfl
theorem fX4_reach_66 : fetch tX4_reach 66 = some (.iload 7, 2, 7, 0, 0, 0) := rfl
theorem fX4_reach_68 : fetch tX4_reach 68 = some (.iaload, 1, 0, 0, 0, 0) := rfl
theorem fX4_reach_69 : fetch tX4_reach 69 = some (.sipush 1000, 3, 0, 0, 1000, 0) := rfl
theorem fX4_reach_72 : fetch tX4_reach 72 = some (.if_icmp .ne 7, 3, 79, 0, 0, 0) := rfl
theorem fX4_reach_75 : fetch tX4_reach 75 = some (.lconst 0, 1, 0, 0, 0, 0) := rfl
theorem fX4_reach_76 : fetch tX4_reach 76 = some (.goto 5, 3, 81, 0, 0, 0) := rfl
theorem fX4_reach_79 : fetch tX4_reach 79 = some (.lload 5, 2, 5, 0, 0, 0) := rfl
theorem fX4_reach_81 : fetch tX4_reach 81 = some (.ladd, 1, 0, 0, 0, 0) := rfl
theorem fX4_reach_82 : fetch tX4_reach 82 = some (.lstore_n 2, 1, 2, 0, 0, 0) := rfl
theorem fX4_reach_83 : fetch tX4_reach 83 = some (.iinc 7 1, 3, 7, 0, 1, 0) := rfl
theorem fX4_reach_86 : fetch tX4_reach 86 = some (.goto (-32), 3, 54, 0, 0, 0) := rfl
theorem fX4_reach_89 : fetch tX4_reach 89 = some (.iinc 4 1, 3, 4, 0, 1, 0) := rfl
theorem fX4_reach_92 : fetch tX4_reach 92 = some (.goto (-76), 3, 16, 0, 0, 0) := rfl
theorem fX4_reach_95 : fetch tX4_reach 95 = some (.lload_n 2, 1, 2, 0, 0, 0) := rfl
theorem fX4_reach_96 : fetch tX4_reach 96 = some (.lreturn, 1, 0, 0, 0, 0) := rfl
def tX4_likelihoodOf : List (Nat × TE) := [(0, .lconst 0, 1, 0, 0, 0, 0), (1, .lstore_n 3, 1, 3, 0, 0, 0), (2, .iconst 0, 1, 0, 0, 0, 0), (3, .istore 5, 2, 5, 0, 0, 0), (5, .iload 5, 2, 5, 0, 0, 0), (7, .iconst 1, 1, 0, 0, 1, 0), (8, .aload_n 0, 1, 0, 0, 0, 0), (9, .getfield 7, 3, 4, 0, 0, 0), (12, .iconst 0, 1, 0, 0, 0, 0), (13, .iaload, 1, 0, 0, 0, 0), (14, .ishl, 1, 0, 0, 0, 0), (15, .if_icmp .ge 57, 3, 72, 0, 0, 0), (18, .lload_n 3, 1, 3, 0, 0, 0), (19, .lconst 0, 1, 0, 0, 0, 0), (20, .lcmp, 1, 0, 0, 0, 0), (21, .ifCond .eq 7, 3, 28, 0, 0, 0), (24, .iload_n 2, 1, 2, 0, 0, 0), (25, .ifCond .ne 47, 3, 72, 0, 0, 0), (28, .aload_n 0, 1, 0, 0, 0, 0), (29, .iload 5, 2, 5, 0, 0, 0), (31, .invokevirtual 84, 3, 0, 4, 0, 0), (34, .lstore 6, 2, 6, 0, 0, 0), (36, .lload 6, 2, 6, 0, 0, 0), (38, .lconst 0, 1, 0, 0, 0, 0), (39, .lcmp, 1, 0, 0, 0, 0), (40, .ifCond .le 26, 3, 66, 0, 0, 0), (43, .aload_n 0, 1, 0, 0, 0, 0), (44, .iload_n 1, 1, 1, 0, 0, 0), (45, .iload 5, 2, 5, 0, 0, 0), (47, .invokevirtual 78, 3, 1, 4, 0, 0), (50, .lload_n 3, 1, 3, 0, 0, 0), (51, .aload_n 0, 1, 0, 0, 0, 0), (52, .invokevirtual 90, 3, 2, 4, 0, 0), (55, .ifCond .eq 8, 3, 63, 0, 0, 0), (58, .lload 6, 2, 6, 0, 0, 0), (60, .goto 4, 3, 64, 0, 0, 0), (63, .lconst 0, 1, 0, 0, 0, 0), (64, .ladd, 1, 0, 0, 0, 0), (65, .lstore_n 3, 1, 3, 0, 0, 0), (66, .iinc 5 1, 3, 5, 0, 1, 0), (69, .goto (-64), 3, 5, 0, 0, 0), (72, .lload_n 3, 1, 3, 0, 0, 0), (73, .lreturn, 1, 0, 0, 0, 0)]
theorem tkX4_likelihoodOf : tOk cX4_likelihoodOf "RumourSourceModel" 8 tX4_likelihoodOf = true := by decide +kernel
theorem fX4_likelihoodOf_0 : fetch tX4_likelihoodOf 0 = some (.lconst 0, 1, 0, 0, 0, 0) := rfl
theorem fX4_likelihoodOf_1 : fetch tX4_likelihoodOf 1 = some (.lstore_n 3, 1, 3, 0, 0, 0) := rfl
theorem fX4_likelihoodOf_2 : fetch tX4_likelihoodOf 2 = some (.iconst 0, 1, 0, 0, 0, 0) := rfl
theorem fX4_likelihoodOf_3 : fetch tX4_likelihoodOf 3 = some (.istore 5, 2, 5, 0, 0, 0) := rfl
theorem fX4_likelihoodOf_5 : fetch tX4_likelihoodOf 5 = some (.iload 5, 2, 5, 0, 0, 0) := rfl
theorem fX4_likelihoodOf_7 : fetch tX4_likelihoodOf 7 = some (.iconst 1, 1, 0, 0, 1, 0) := rfl
theorem fX4_likelihoodOf_8 : fetch tX4_likelihoodOf 8 = some (.aload_n 0, 1, 0, 0, 0, 0) := rfl
theorem fX4_likelihoodOf_9 : fetch tX4_likelihoodOf 9 = some (.getfield 7, 3, 4, 0, 0, 0) := rfl
theorem fX4_likelihoodOf_12 : fetch tX4_likelihoodOf 12 = some (.iconst 0, 1, 0, 0, 0, 0) := rfl
theorem fX4_likelihoodOf_13 : fetch tX4_likelihoodOf 13 = some (.iaload, 1, 0, 0, 0, 0) := rfl
theorem fX4_likelihoodOf_14 : fetch tX4_likelihoodOf 14 = some (.ishl, 1, 0, 0, 0, 0) := rfl
theorem fX4_likelihoodOf_15 : fetch tX4_likelihoodOf 15 = some (.if_icmp .ge 57, 3, 72, 0, 0, 0) := rfl
theorem fX4_likelihoodOf_18 : fetch tX4_likelihoodOf 18 = some (.lload_n 3, 1, 3, 0, 0, 0) := rfl
theorem fX4_likelihoodOf_19 : fetch tX4_likelihoodOf 19 = some (.lconst 0, 1, 0, 0, 0, 0) := rfl
theorem fX4_likelihoodOf_20 : fetch tX4_likelihoodOf 20 = some (.lcmp, 1, 0, 0, 0, 0) := rfl
theorem fX4_likelihoodOf_21 : fetch tX4_likelihoodOf 21 = some (.ifCond .eq 7, 3, 28, 0, 0, 0) := rfl
theorem fX4_likelihoodOf_24 : fetch tX4_likelihoodOf 24 = some (.iload_n 2, 1, 2, 0, 0, 0) := rfl
theorem fX4_likelihoodOf_25 : fetch tX4_likelihoodOf 25 = some (.ifCond .ne 47, 3, 72, 0, 0, 0) := rfl
theorem fX4_likelihoodOf_28 : fetch tX4_likelihoodOf 28 = some (.aload_n 0, 1, 0, 0, 0, 0) := rfl
theorem fX4_likelihoodOf_29 : fetch tX4_likelihoodOf 29 = some (.iload 5, 2, 5, 0, 0, 0) := rfl
theorem fX4_likelihoodOf_31 : fetch tX4_likelihoodOf 31 = some (.invokevirtual 84, 3, 0, 4, 0, 0) := rfl
theorem fX4_likelihoodOf_34 : fetch tX4_likelihoodOf 34 = some (.lstore 6, 2, 6, 0, 0, 0) := rfl
theorem fX4_likelihoodOf_36 : fetch tX4_likelihoodOf 36 = some (.lload 6, 2, 6, 0, 0, 0) := rfl
theorem fX4_likelihoodOf_38 : fetch tX4_likelihoodOf 38 = some (.lconst 0, 1, 0, 0, 0, 0) := rfl
theorem fX4_likelihoodOf_39 : fetch tX4_likelihoodOf 39 = some (.lcmp, 1, 0, 0, 0, 0) := rfl
theorem fX4_likelihoodOf_40 : fetch tX4_likelihoodOf 40 = some (.ifCond .le 26, 3, 66, 0, 0, 0) := rfl
theorem fX4_likelihoodOf_43 : fetch tX4_likelihoodOf 43 = some (.aload_n 0, 1, 0, 0, 0, 0) := rfl
theorem fX4_likelihoodOf_44 : fetch tX4_likelihoodOf 44 = some (.iload_n 1, 1, 1, 0, 0, 0) := rfl
theorem fX4_likelihoodOf_45 : fetch tX4_likelihoodOf 45 = some (.iload 5, 2, 5, 0, 0, 0) := rfl
theorem fX4_likelihoodOf_47 : fetch tX4_likelihoodOf 47 = some (.invokevirtual 78, 3, 1, 4, 0, 0) := rfl
theorem fX4_likelihoodOf_50 : fetch tX4_likelihoodOf 50 = some (.lload_n 3, 1, 3, 0, 0, 0) := rfl
theorem fX4_likelihoodOf_51 : fetch tX4_likelihoodOf 51 = some (.aload_n 0, 1, 0, 0, 0, 0) := rfl
theorem fX4_likelihoodOf_52 : fetch tX4_likelihoodOf 52 = some (.invokevirtual 90, 3, 2, 4, 0, 0) := rfl
theorem fX4_likelihoodOf_55 : fetch tX4_likelihoodOf 55 = some (.ifCond .eq 8, 3, 63, 0, 0, 0) := rfl
theorem fX4_likelihoodOf_58 : fetch tX4_likelihoodOf 58 = some (.lload 6, 2, 6, 0, 0, 0) := rfl
theorem fX4_likelihoodOf_60 : fetch tX4_likelihoodOf 60 = some (.goto 4, 3, 64, 0, 0, 0) := rfl
theorem fX4_likelihoodOf_63 : fetch tX4_likelihoodOf 63 = some (.lconst 0, 1, 0, 0, 0, 0) := rfl
theorem fX4_likelihoodOf_64 : fetch tX4_likelihoodOf 64 = some (.ladd, 1, 0, 0, 0, 0) := rfl
theorem fX4_likelihoodOf_65 : fetch tX4_likelihoodOf 65 = some (.lstore_n 3, 1, 3, 0, 0, 0) := rfl
theorem fX4_likelihoodOf_66 : fetch tX4_likelihoodOf 66 = some (.iinc 5 1, 3, 5, 0, 1, 0) := rfl
theorem fX4_likelihoodOf_69 : fetch tX4_likelihoodOf 69 = some (.goto (-64), 3, 5, 0, 0, 0) := rfl
theorem fX4_likelihoodOf_72 : fetch tX4_likelihoodOf 72 = some (.lload_n 3, 1, 3, 0, 0, 0) := rfl
theorem fX4_likelihoodOf_73 : fetch tX4_likelihoodOf 73 = some (.lreturn, 1, 0, 0, 0, 0) := rfl
def tX4_findsSingle : List (Nat × TE) := [(0, .iconst 0, 1, 0, 0, 0, 0), (1, .istore_n 1, 1, 1, 0, 0, 0), (2, .iload_n 1, 1, 1, 0, 0, 0), (3, .bipush 8, 2, 0, 0, 8, 0), (5, .if_icmp .ge 30, 3, 35, 0, 0, 0), (8, .aload_n 0, 1, 0, 0, 0, 0), (9, .getfield 38, 3, 4, 2, 0, 0), (12, .ifCond .ne 23, 3, 35, 0, 0, 0), (15, .aload_n 0, 1, 0, 0, 0, 0), (16, .getfield 16, 3, 4, 4, 0, 0), (19, .iload_n 1, 1, 1, 0, 0, 0), (20, .aload_n 0, 1, 0, 0, 0, 0), (21, .iconst 1, 1, 0, 0, 1, 0), (22, .iload_n 1, 1, 1, 0, 0, 0), (23, .ishl, 1, 0, 0, 0, 0), (24, .iconst 0, 1, 0, 0, 0, 0), (25, .invokevirtual 96, 3, 0, 4, 0, 0), (28, .lastore, 1, 0, 0, 0, 0), (29, .iinc 1 1, 3, 1, 0, 1, 0), (32, .goto (-30), 3, 2, 0, 0, 0), (35, .aload_n 0, 1, 0, 0, 0, 0), (36, .iconst 1, 1, 0, 0, 1, 0), (37, .putfield 38, 3, 4, 2, 0, 0), (40, .return_, 1, 0, 0, 0, 0)]
theorem tkX4_findsSingle : tOk cX4_findsSingle "RumourSourceModel" 2 tX4_findsSingle = true := by decide +kernel
theorem fX4_findsSingle_0 : fetch tX4_findsSingle 0 = some (.iconst 0, 1, 0, 0, 0, 0) := rfl
theorem fX4_findsSingle_1 : fetch tX4_findsSingle 1 = some (.istore_n 1, 1, 1, 0, 0, 0) := rfl
theorem fX4_findsSingle_2 : fetch tX4_findsSingle 2 = some (.iload_n 1, 1, 1, 0, 0, 0) := rfl
theorem fX4_findsSingle_3 : fetch tX4_findsSingle 3 = some (.bipush 8, 2, 0, 0, 8, 0) := rfl
theorem fX4_findsSingle_5 : fetch tX4_findsSingle 5 = some (.if_icmp .ge 30, 3, 35, 0, 0, 0) := rfl
theorem fX4_findsSingle_8 : fetch tX4_findsSingle 8 = some (.aload_n 0, 1, 0, 0, 0, 0) := rfl
theorem fX4_findsSingle_9 : fetch tX4_findsSingle 9 = some (.getfield 38, 3, 4, 2, 0, 0) := rfl
theorem fX4_findsSingle_12 : fetch tX4_findsSingle 12 = some (.ifCond .ne 23, 3, 35, 0, 0, 0) := rfl
theorem fX4_findsSingle_15 : fetch tX4_findsSingle 15 = some (.aload_n 0, 1, 0, 0, 0, 0) := rfl
theorem fX4_findsSingle_16 : fetch tX4_findsSingle 16 = some (.getfield 16, 3, 4, 4, 0, 0) := rfl
theorem fX4_findsSingle_19 : fetch tX4_findsSingle 19 = some (.iload_n 1, 1, 1, 0, 0, 0) := rfl
theorem fX4_findsSingle_20 : fetch tX4_findsSingle 20 = some (.aload_n 0, 1, 0, 0, 0, 0) := rfl
theorem fX4_findsSingle_21 : fetch tX4_findsSingle 21 = some (.iconst 1, 1, 0, 0, 1, 0) := rfl
theorem fX4_findsSingle_22 : fetch tX4_findsSingle 22 = some (.iload_n 1, 1, 1, 0, 0, 0) := rfl
theorem fX4_findsSingle_23 : fetch tX4_findsSingle 23 = some (.ishl, 1, 0, 0, 0, 0) := rfl
theorem fX4_findsSingle_24 : fetch tX4_findsSingle 24 = some (.iconst 0, 1, 0, 0, 0, 0) := rfl
theorem fX4_findsSingle_25 : fetch tX4_findsSingle 25 = some (.invokevirtual 96, 3, 0, 4, 0, 0) := rfl
theorem fX4_findsSingle_28 : fetch tX4_findsSingle 28 = some (.lastore, 1, 0, 0, 0, 0) := rfl
theorem fX4_findsSingle_29 : fetch tX4_findsSingle 29 = some (.iinc 1 1, 3, 1, 0, 1, 0) := rfl
theorem fX4_findsSingle_32 : fetch tX4_findsSingle 32 = some (.goto (-30), 3, 2, 0, 0, 0) := rfl
theorem fX4_findsSingle_35 : fetch tX4_findsSingle 35 = some (.aload_n 0, 1, 0, 0, 0, 0) := rfl
theorem fX4_findsSingle_36 : fetch tX4_findsSingle 36 = some (.iconst 1, 1, 0, 0, 1, 0) := rfl
theorem fX4_findsSingle_37 : fetch tX4_findsSingle 37 = some (.putfield 38, 3, 4, 2, 0, 0) := rfl
theorem fX4_findsSingle_40 : fetch tX4_findsSingle 40 = some (.return_, 1, 0, 0, 0, 0) := rfl
def tX4_likelihood : List (Nat × TE) := [(0, .iload_n 1, 1, 1, 0, 0, 0), (1, .invokestatic 74, 3, 0, 4, 0, 0), (4, .ifCond .eq 12, 3, 16, 0, 0, 0), (7, .aload_n 0, 1, 0, 0, 0, 0), (8, .iload_n 1, 1, 1, 0, 0, 0), (9, .iconst 0, 1, 0, 0, 0, 0), (10, .invokevirtual 96, 3, 1, 4, 0, 0), (13, .goto 6, 3, 19, 0, 0, 0), (16, .ldc2_w 88, 3, 0, 0, 0, (-3)), (19, .lreturn, 1, 0, 0, 0, 0)]
theorem tkX4_likelihood : tOk cX4_likelihood "RumourSourceModel" 2 tX4_likelihood = true := by decide +kernel
theorem fX4_likelihood_0 : fetch tX4_likelihood 0 = some (.iload_n 1, 1, 1, 0, 0, 0) := rfl
theorem fX4_likelihood_1 : fetch tX4_likelihood 1 = some (.invokestatic 74, 3, 0, 4, 0, 0) := rfl
theorem fX4_likelihood_4 : fetch tX4_likelihood 4 = some (.ifCond .eq 12, 3, 16, 0, 0, 0) := rfl
theorem fX4_likelihood_7 : fetch tX4_likelihood 7 = some (.aload_n 0, 1, 0, 0, 0, 0) := rfl
theorem fX4_likelihood_8 : fetch tX4_likelihood 8 = some (.iload_n 1, 1, 1, 0, 0, 0) := rfl
theorem fX4_likelihood_9 : fetch tX4_likelihood 9 = some (.iconst 0, 1, 0, 0, 0, 0) := rfl
theorem fX4_likelihood_10 : fetch tX4_likelihood 10 = some (.invokevirtual 96, 3, 1, 4, 0, 0) := rfl
theorem fX4_likelihood_13 : fetch tX4_likelihood 13 = some (.goto 6, 3, 19, 0, 0, 0) := rfl
theorem fX4_likelihood_16 : fetch tX4_likelihood 16 = some (.ldc2_w 88, 3, 0, 0, 0, (-3)) := rfl
theorem fX4_likelihood_19 : fetch tX4_likelihood 19 = some (.lreturn, 1, 0, 0, 0, 0) := rfl
def tX4_candidates : List (Nat × TE) := [(0, .aload_n 0, 1, 0, 0, 0, 0), (1, .invokevirtual 100, 3, 0, 4, 0, 0), (4, .iconst 0, 1, 0, 0, 0, 0), (5, .istore_n 1, 1, 1, 0, 0, 0), (6, .iconst 0, 1, 0, 0, 0, 0), (7, .istore_n 2, 1, 2, 0, 0, 0), (8, .iload_n 2, 1, 2, 0, 0, 0), (9, .bipush 8, 2, 0, 0, 8, 0), (11, .if_icmp .ge 28, 3, 39, 0, 0, 0), (14, .iload_n 1, 1, 1, 0, 0, 0), (15, .aload_n 0, 1, 0, 0, 0, 0), (16, .getfield 16, 3, 4, 4, 0, 0), (19, .iload_n 2, 1, 2, 0, 0, 0), (20, .laload, 1, 0, 0, 0, 0), (21, .lconst 0, 1, 0, 0, 0, 0), (22, .lcmp, 1, 0, 0, 0, 0), (23, .ifCond .le 7, 3, 30, 0, 0, 0), (26, .iconst 1, 1, 0, 0, 1, 0), (27, .goto 4, 3, 31, 0, 0, 0), (30, .iconst 0, 1, 0, 0, 0, 0), (31, .iadd, 1, 0, 0, 0, 0), (32, .istore_n 1, 1, 1, 0, 0, 0), (33, .iinc 2 1, 3, 2, 0, 1, 0), (36, .goto (-28), 3, 8, 0, 0, 0), (39, .iload_n 1, 1, 1, 0, 0, 0), (40, .ireturn, 1, 0, 0, 0, 0)]
theorem tkX4_candidates : tOk cX4_candidates "RumourSourceModel" 3 tX4_candidates = true := by decide +kernel
theorem fX4_candidates_0 : fetch tX4_candidates 0 = some (.aload_n 0, 1, 0, 0, 0, 0) := rfl
theorem fX4_candidates_1 : fetch tX4_candidates 1 = some (.invokevirtual 100, 3, 0, 4, 0, 0) := rfl
theorem fX4_candidates_4 : fetch tX4_candidates 4 = some (.iconst 0, 1, 0, 0, 0, 0) := rfl
theorem fX4_candidates_5 : fetch tX4_candidates 5 = some (.istore_n 1, 1, 1, 0, 0, 0) := rfl
theorem fX4_candidates_6 : fetch tX4_candidates 6 = some (.iconst 0, 1, 0, 0, 0, 0) := rfl
theorem fX4_candidates_7 : fetch tX4_candidates 7 = some (.istore_n 2, 1, 2, 0, 0, 0) := rfl
theorem fX4_candidates_8 : fetch tX4_candidates 8 = some (.iload_n 2, 1, 2, 0, 0, 0) := rfl
theorem fX4_candidates_9 : fetch tX4_candidates 9 = some (.bipush 8, 2, 0, 0, 8, 0) := rfl
theorem fX4_candidates_11 : fetch tX4_candidates 11 = some (.if_icmp .ge 28, 3, 39, 0, 0, 0) := rfl
theorem fX4_candidates_14 : fetch tX4_candidates 14 = some (.iload_n 1, 1, 1, 0, 0, 0) := rfl
theorem fX4_candidates_15 : fetch tX4_candidates 15 = some (.aload_n 0, 1, 0, 0, 0, 0) := rfl
theorem fX4_candidates_16 : fetch tX4_candidates 16 = some (.getfield 16, 3, 4, 4, 0, 0) := rfl
theorem fX4_candidates_19 : fetch tX4_candidates 19 = some (.iload_n 2, 1, 2, 0, 0, 0) := rfl
theorem fX4_candidates_20 : fetch tX4_candidates 20 = some (.laload, 1, 0, 0, 0, 0) := rfl
theorem fX4_candidates_21 : fetch tX4_candidates 21 = some (.lconst 0, 1, 0, 0, 0, 0) := rfl
theorem fX4_candidates_22 : fetch tX4_candidates 22 = some (.lcmp, 1, 0, 0, 0, 0) := rfl
theorem fX4_candidates_23 : fetch tX4_candidates 23 = some (.ifCond .le 7, 3, 30, 0, 0, 0) := rfl
theorem fX4_candidates_26 : fetch tX4_candidates 26 = some (.iconst 1, 1, 0, 0, 1, 0) := rfl
theorem fX4_candidates_27 : fetch tX4_candidates 27 = some (.goto 4, 3, 31, 0, 0, 0) := rfl
theorem fX4_candidates_30 : fetch tX4_candidates 30 = some (.iconst 0, 1, 0, 0, 0, 0) := rfl
theorem fX4_candidates_31 : fetch tX4_candidates 31 = some (.iadd, 1, 0, 0, 0, 0) := rfl
theorem fX4_candidates_32 : fetch tX4_candidates 32 = some (.istore_n 1, 1, 1, 0, 0, 0) := rfl
theorem fX4_candidates_33 : fetch tX4_candidates 33 = some (.iinc 2 1, 3, 2, 0, 1, 0) := rfl
theorem fX4_candidates_36 : fetch tX4_candidates 36 = some (.goto (-28), 3, 8, 0, 0, 0) := rfl
theorem fX4_candidates_39 : fetch tX4_candidates 39 = some (.iload_n 1, 1, 1, 0, 0, 0) := rfl
theorem fX4_candidates_40 : fetch tX4_candidates 40 = some (.ireturn, 1, 0, 0, 0, 0) := rfl
def tX4_candidate : List (Nat × TE) := [(0, .aload_n 0, 1, 0, 0, 0, 0), (1, .invokevirtual 100, 3, 0, 4, 0, 0), (4, .iconst 0, 1, 0, 0, 0, 0), (5, .istore_n 2, 1, 2, 0, 0, 0), (6, .iload_n 2, 1, 2, 0, 0, 0), (7, .bipush 8, 2, 0, 0, 8, 0), (9, .if_icmp .ge 93, 3, 102, 0, 0, 0), (12, .iconst 0, 1, 0, 0, 0, 0), (13, .istore_n 3, 1, 3, 0, 0, 0), (14, .iconst 0, 1, 0, 0, 0, 0), (15, .istore 4, 2, 4, 0, 0, 0), (17, .iload 4, 2, 4, 0, 0, 0), (19, .bipush 8, 2, 0, 0, 8, 0), (21, .if_icmp .ge 57, 3, 78, 0, 0, 0), (24, .iload_n 3, 1, 3, 0, 0, 0), (25, .aload_n 0, 1, 0, 0, 0, 0), (26, .getfield 16, 3, 4, 4, 0, 0), (29, .iload 4, 2, 4, 0, 0, 0), (31, .laload, 1, 0, 0, 0, 0), (32, .aload_n 0, 1, 0, 0, 0, 0), (33, .getfield 16, 3, 4, 4, 0, 0), (36, .iload_n 2, 1, 2, 0, 0, 0), (37, .laload, 1, 0, 0, 0, 0), (38, .lcmp, 1, 0, 0, 0, 0), (39, .ifCond .gt 26, 3, 65, 0, 0, 0), (42, .aload_n 0, 1, 0, 0, 0, 0), (43, .getfield 16, 3, 4, 4, 0, 0), (46, .iload 4, 2, 4, 0, 0, 0), (48, .laload, 1, 0, 0, 0, 0), (49, .aload_n 0, 1, 0, 0, 0, 0), (50, .getfield 16, 3, 4, 4, 0, 0), (53, .iload_n 2, 1, 2, 0, 0, 0), (54, .laload, 1, 0, 0, 0, 0), (55, .lcmp, 1, 0, 0, 0, 0), (56, .ifCond .ne 13, 3, 69, 0, 0, 0), (59, .iload 4, 2, 4, 0, 0, 0), (61, .iload_n 2, 1, 2, 0, 0, 0), (62, .if_icmp .ge 7, 3, 69, 0, 0, 0), (65, .iconst 1, 1, 0, 0, 1, 0), (66, .goto 4, 3, 70, 0, 0, 0), (69, .iconst 0, 1, 0, 0, 0, 0), (70, .iadd, 1, 0, 0, 0, 0), (71, .istore_n 3, 1, 3, 0, 0, 0), (72, .iinc 4 1, 3, 4, 0, 1, 0), (75, .goto (-58), 3, 17, 0, 0, 0), (78, .aload_n 0, 1, 0, 0, 0, 0), (79, .getfield 16, 3, 4, 4, 0, 0), (82, .iload_n 2, 1, 2, 0, 0, 0), (83, .laload, 1, 0, 0, 0, 0), (84, .lconst 0, 1, 0, 0, 0, 0), (85, .lcmp, 1, 0, 0, 0, 0), (86, .ifCond .le 10, 3, 96, 0, 0, 0), (89, .iload_n 3, 1, 3, 0, 0, 0), (90, .iload_n 1, 1, 1, 0, 0, 0), (91, .if_icmp .ne 5, 3, 96, 0, 0, 0), (94, .iload_n 2, 1, 2, 0, 0, 0), (95, .ireturn, 1, 0, 0, 0, 0), (96, .iinc 2 1, 3, 2, 0, 1, 0), (99, .goto (-93), 3, 6, 0, 0, 0), (102, .bipush (-2), 2, 0, 0, (-2), 0), (104, .ireturn, 1, 0, 0, 0, 0)]
theorem tkX4_candidate : tOk cX4_candidate "RumourSourceModel" 5 tX4_candidate = true := by decide +kernel
theorem fX4_candidate_0 : fetch tX4_candidate 0 = some (.aload_n 0, 1, 0, 0, 0, 0) := rfl
theorem fX4_candidate_1 : fetch tX4_candidate 1 = some (.invokevirtual 100, 3, 0, 4, 0, 0) := rfl
theorem fX4_candidate_4 : fetch tX4_candidate 4 = some (.iconst 0, 1, 0, 0, 0, 0) := rfl
theorem fX4_candidate_5 : fetch tX4_candidate 5 = some (.istore_n 2, 1, 2, 0, 0, 0) := rfl
theorem fX4_candidate_6 : fetch tX4_candidate 6 = some (.iload_n 2, 1, 2, 0, 0, 0) := rfl
theorem fX4_candidate_7 : fetch tX4_candidate 7 = some (.bipush 8, 2, 0, 0, 8, 0) := rfl
theorem fX4_candidate_9 : fetch tX4_candidate 9 = some (.if_icmp .ge 93, 3, 102, 0, 0, 0) := rfl
theorem fX4_candidate_12 : fetch tX4_candidate 12 = some (.iconst 0, 1, 0, 0, 0, 0) := rfl
theorem fX4_candidate_13 : fetch tX4_candidate 13 = some (.istore_n 3, 1, 3, 0, 0, 0) := rfl
theorem fX4_candidate_14 : fetch tX4_candidate 14 = some (.iconst 0, 1, 0, 0, 0, 0) := rfl
theorem fX4_candidate_15 : fetch tX4_candidate 15 = some (.istore 4, 2, 4, 0, 0, 0) := rfl
theorem fX4_candidate_17 : fetch tX4_candidate 17 = some (.iload 4, 2, 4, 0, 0, 0) := rfl
theorem fX4_candidate_19 : fetch tX4_candidate 19 = some (.bipush 8, 2, 0, 0, 8, 0) := rfl
theorem fX4_candidate_21 : fetch tX4_candidate 21 = some (.if_icmp .ge 57, 3, 78, 0, 0, 0) := rfl
theorem fX4_candidate_24 : fetch tX4_candidate 24 = some (.iload_n 3, 1, 3, 0, 0, 0) := rfl
theorem fX4_candidate_25 : fetch tX4_candidate 25 = some (.aload_n 0, 1, 0, 0, 0, 0) := rfl
theorem fX4_candidate_26 : fetch tX4_candidate 26 = some (.getfield 16, 3, 4, 4, 0, 0) := rfl
theorem fX4_candidate_29 : fetch tX4_candidate 29 = some (.iload 4, 2, 4, 0, 0, 0) := rfl
theorem fX4_candidate_31 : fetch tX4_candidate 31 = some (.laload, 1, 0, 0, 0, 0) := rfl
theorem fX4_candidate_32 : fetch tX4_candidate 32 = some (.aload_n 0, 1, 0, 0, 0, 0) := rfl
theorem fX4_candidate_33 : fetch tX4_candidate 33 = some (.getfield 16, 3, 4, 4, 0, 0) := rfl
theorem fX4_candidate_36 : fetch tX4_candidate 36 = some (.iload_n 2, 1, 2, 0, 0, 0) := rfl
theorem fX4_candidate_37 : fetch tX4_candidate 37 = some (.laload, 1, 0, 0, 0, 0) := rfl
theorem fX4_candidate_38 : fetch tX4_candidate 38 = some (.lcmp, 1, 0, 0, 0, 0) := rfl
theorem fX4_candidate_39 : fetch tX4_candidate 39 = some (.ifCond .gt 26, 3, 65, 0, 0, 0) := rfl
theorem fX4_candidate_42 : fetch tX4_candidate 42 = some (.aload_n 0, 1, 0, 0, 0, 0) := rfl
theorem fX4_candidate_43 : fetch tX4_candidate 43 = some (.getfield 16, 3, 4, 4, 0, 0) := rfl
theorem fX4_candidate_46 : fetch tX4_candidate 46 = some (.iload 4, 2, 4, 0, 0, 0) := rfl
theorem fX4_candidate_48 : fetch tX4_candidate 48 = some (.laload, 1, 0, 0, 0, 0) := rfl
theorem fX4_candidate_49 : fetch tX4_candidate 49 = some (.aload_n 0, 1, 0, 0, 0, 0) := rfl
theorem fX4_candidate_50 : fetch tX4_candidate 50 = some (.getfield 16, 3, 4, 4, 0, 0) := rfl
theorem fX4_candidate_53 : fetch tX4_candidate 53 = some (.iload_n 2, 1, 2, 0, 0, 0) := rfl
theorem fX4_candidate_54 : fetch tX4_candidate 54 = some (.laload, 1, 0, 0, 0, 0) := rfl
theorem fX4_candidate_55 : fetch tX4_candidate 55 = some (.lcmp, 1, 0, 0, 0, 0) := rfl
theorem fX4_candidate_56 : fetch tX4_candidate 56 = some (.ifCond .ne 13, 3, 69, 0, 0, 0) := rfl
theorem fX4_candidate_59 : fetch tX4_candidate 59 = some (.iload 4, 2, 4, 0, 0, 0) := rfl
theorem fX4_candidate_61 : fetch tX4_candidate 61 = some (.iload_n 2, 1, 2, 0, 0, 0) := rfl
theorem fX4_candidate_62 : fetch tX4_candidate 62 = some (.if_icmp .ge 7, 3, 69, 0, 0, 0) := rfl
theorem fX4_candidate_65 : fetch tX4_candidate 65 = some (.iconst 1, 1, 0, 0, 1, 0) := rfl
theorem fX4_candidate_66 : fetch tX4_candidate 66 = some (.goto 4, 3, 70, 0, 0, 0) := rfl
theorem fX4_candidate_69 : fetch tX4_candidate 69 = some (.iconst 0, 1, 0, 0, 0, 0) := rfl
theorem fX4_candidate_70 : fetch tX4_candidate 70 = some (.iadd, 1, 0, 0, 0, 0) := rfl
theorem fX4_candidate_71 : fetch tX4_candidate 71 = some (.istore_n 3, 1, 3, 0, 0, 0) := rfl
theorem fX4_candidate_72 : fetch tX4_candidate 72 = some (.iinc 4 1, 3, 4, 0, 1, 0) := rfl
theorem fX4_candidate_75 : fetch tX4_candidate 75 = some (.goto (-58), 3, 17, 0, 0, 0) := rfl
theorem fX4_candidate_78 : fetch tX4_candidate 78 = some (.aload_n 0, 1, 0, 0, 0, 0) := rfl
theorem fX4_candidate_79 : fetch tX4_candidate 79 = some (.getfield 16, 3, 4, 4, 0, 0) := rfl
theorem fX4_candidate_82 : fetch tX4_candidate 82 = some (.iload_n 2, 1, 2, 0, 0, 0) := rfl
theorem fX4_candidate_83 : fetch tX4_candidate 83 = some (.laload, 1, 0, 0, 0, 0) := rfl
theorem fX4_candidate_84 : fetch tX4_candidate 84 = some (.lconst 0, 1, 0, 0, 0, 0) := rfl
theorem fX4_candidate_85 : fetch tX4_candidate 85 = some (.lcmp, 1, 0, 0, 0, 0) := rfl
theorem fX4_candidate_86 : fetch tX4_candidate 86 = some (.ifCond .le 10, 3, 96, 0, 0, 0) := rfl
theorem fX4_candidate_89 : fetch tX4_candidate 89 = some (.iload_n 3, 1, 3, 0, 0, 0) := rfl
theorem fX4_candidate_90 : fetch tX4_candidate 90 = some (.iload_n 1, 1, 1, 0, 0, 0) := rfl
theorem fX4_candidate_91 : fetch tX4_candidate 91 = some (.if_icmp .ne 5, 3, 96, 0, 0, 0) := rfl
theorem fX4_candidate_94 : fetch tX4_candidate 94 = some (.iload_n 2, 1, 2, 0, 0, 0) := rfl
theorem fX4_candidate_95 : fetch tX4_candidate 95 = some (.ireturn, 1, 0, 0, 0, 0) := rfl
theorem fX4_candidate_96 : fetch tX4_candidate 96 = some (.iinc 2 1, 3, 2, 0, 1, 0) := rfl
theorem fX4_candidate_99 : fetch tX4_candidate 99 = some (.goto (-93), 3, 6, 0, 0, 0) := rfl
theorem fX4_candidate_102 : fetch tX4_candidate 102 = some (.bipush (-2), 2, 0, 0, (-2), 0) := rfl
theorem fX4_candidate_104 : fetch tX4_candidate 104 = some (.ireturn, 1, 0, 0, 0, 0) := rfl
def tX4_belief : List (Nat × TE) := [(0, .iload_n 1, 1, 1, 0, 0, 0), (1, .invokestatic 50, 3, 0, 4, 0, 0), (4, .ifCond .ne 6, 3, 10, 0, 0, 0), (7, .bipush (-2), 2, 0, 0, (-2), 0), (9, .ireturn, 1, 0, 0, 0, 0), (10, .aload_n 0, 1, 0, 0, 0, 0), (11, .invokevirtual 100, 3, 1, 4, 0, 0), (14, .lconst 0, 1, 0, 0, 0, 0), (15, .lstore_n 2, 1, 2, 0, 0, 0), (16, .iconst 0, 1, 0, 0, 0, 0), (17, .istore 4, 2, 4, 0, 0, 0), (19, .iload 4, 2, 4, 0, 0, 0), (21, .bipush 8, 2, 0, 0, 8, 0), (23, .if_icmp .ge 19, 3, 42, 0, 0, 0), (26, .lload_n 2, 1, 2, 0, 0, 0), (27, .aload_n 0, 1, 0, 0, 0, 0), (28, .getfield 16, 3, 4, 4, 0, 0), (31, .iload 4, 2, 4, 0, 0, 0), (33, .laload, 1, 0, 0, 0, 0), (34, .ladd, 1, 0, 0, 0, 0), (35, .lstore_n 2, 1, 2, 0, 0, 0), (36, .iinc 4 1, 3, 4, 0, 1, 0), (39, .goto (-20), 3, 19, 0, 0, 0), (42, .aload_n 0, 1, 0, 0, 0, 0), (43, .getfield 16, 3, 4, 4, 0, 0), (46, .iload_n 1, 1, 1, 0, 0, 0), (47, .laload, 1, 0, 0, 0, 0), (48, .lconst 0, 1, 0, 0, 0, 0), (49, .lcmp, 1, 0, 0, 0, 0), (50, .ifCond .ne 7, 3, 57, 0, 0, 0), (53, .iconst 0, 1, 0, 0, 0, 0), (54, .goto 16, 3, 70, 0, 0, 0), (57, .ldc2_w 103, 3, 0, 0, 0, 1000), (60, .aload_n 0, 1, 0, 0, 0, 0), (61, .getfield 16, 3, 4, 4, 0, 0), (64, .iload_n 1, 1, 1, 0, 0, 0), (65, .laload, 1, 0, 0, 0, 0), (66, .lmul, 1, 0, 0, 0, 0), (67, .lload_n 2, 1, 2, 0, 0, 0), (68, .ldiv, 1, 0, 0, 0, 0), (69, .l2i, 1, 0, 0, 0, 0), (70, .ireturn, 1, 0, 0, 0, 0)]
theorem tkX4_belief : tOk cX4_belief "RumourSourceModel" 5 tX4_belief = true := by decide +kernel
theorem fX4_belief_0 : fetch tX4_belief 0 = some (.iload_n 1, 1, 1, 0, 0, 0) := rfl
theorem fX4_belief_1 : fetch tX4_belief 1 = some (.invokestatic 50, 3, 0, 4, 0, 0) := rfl
theorem fX4_belief_4 : fetch tX4_belief 4 = some (.ifCond .ne 6, 3, 10, 0, 0, 0) := rfl
theorem fX4_belief_7 : fetch tX4_belief 7 = some (.bipush (-2), 2, 0, 0, (-2), 0) := rfl
theorem fX4_belief_9 : fetch tX4_belief 9 = some (.ireturn, 1, 0, 0, 0, 0) := rfl
theorem fX4_belief_10 : fetch tX4_belief 10 = some (.aload_n 0, 1, 0, 0, 0, 0) := rfl
theorem fX4_belief_11 : fetch tX4_belief 11 = some (.invokevirtual 100, 3, 1, 4, 0, 0) := rfl
theorem fX4_belief_14 : fetch tX4_belief 14 = some (.lconst 0, 1, 0, 0, 0, 0) := rfl
theorem fX4_belief_15 : fetch tX4_belief 15 = some (.lstore_n 2, 1, 2, 0, 0, 0) := rfl
theorem fX4_belief_16 : fetch tX4_belief 16 = some (.iconst 0, 1, 0, 0, 0, 0) := rfl
theorem fX4_belief_17 : fetch tX4_belief 17 = some (.istore 4, 2, 4, 0, 0, 0) := rfl
theorem fX4_belief_19 : fetch tX4_belief 19 = some (.iload 4, 2, 4, 0, 0, 0) := rfl
theorem fX4_belief_21 : fetch tX4_belief 21 = some (.bipush 8, 2, 0, 0, 8, 0) := rfl
theorem fX4_belief_23 : fetch tX4_belief 23 = some (.if_icmp .ge 19, 3, 42, 0, 0, 0) := rfl
theorem fX4_belief_26 : fetch tX4_belief 26 = some (.lload_n 2, 1, 2, 0, 0, 0) := rfl
theorem fX4_belief_27 : fetch tX4_belief 27 = some (.aload_n 0, 1, 0, 0, 0, 0) := rfl
theorem fX4_belief_28 : fetch tX4_belief 28 = some (.getfield 16, 3, 4, 4, 0, 0) := rfl
theorem fX4_belief_31 : fetch tX4_belief 31 = some (.iload 4, 2, 4, 0, 0, 0) := rfl
theorem fX4_belief_33 : fetch tX4_belief 33 = some (.laload, 1, 0, 0, 0, 0) := rfl
theorem fX4_belief_34 : fetch tX4_belief 34 = some (.ladd, 1, 0, 0, 0, 0) := rfl
theorem fX4_belief_35 : fetch tX4_belief 35 = some (.lstore_n 2, 1, 2, 0, 0, 0) := rfl
theorem fX4_belief_36 : fetch tX4_belief 36 = some (.iinc 4 1, 3, 4, 0, 1, 0) := rfl
theorem fX4_belief_39 : fetch tX4_belief 39 = some (.goto (-20), 3, 19, 0, 0, 0) := rfl
theorem fX4_belief_42 : fetch tX4_belief 42 = some (.aload_n 0, 1, 0, 0, 0, 0) := rfl
theorem fX4_belief_43 : fetch tX4_belief 43 = some (.getfield 16, 3, 4, 4, 0, 0) := rfl
theorem fX4_belief_46 : fetch tX4_belief 46 = some (.iload_n 1, 1, 1, 0, 0, 0) := rfl
theorem fX4_belief_47 : fetch tX4_belief 47 = some (.laload, 1, 0, 0, 0, 0) := rfl
theorem fX4_belief_48 : fetch tX4_belief 48 = some (.lconst 0, 1, 0, 0, 0, 0) := rfl
theorem fX4_belief_49 : fetch tX4_belief 49 = some (.lcmp, 1, 0, 0, 0, 0) := rfl
theorem fX4_belief_50 : fetch tX4_belief 50 = some (.ifCond .ne 7, 3, 57, 0, 0, 0) := rfl
theorem fX4_belief_53 : fetch tX4_belief 53 = some (.iconst 0, 1, 0, 0, 0, 0) := rfl
theorem fX4_belief_54 : fetch tX4_belief 54 = some (.goto 16, 3, 70, 0, 0, 0) := rfl
theorem fX4_belief_57 : fetch tX4_belief 57 = some (.ldc2_w 103, 3, 0, 0, 0, 1000) := rfl
theorem fX4_belief_60 : fetch tX4_belief 60 = some (.aload_n 0, 1, 0, 0, 0, 0) := rfl
theorem fX4_belief_61 : fetch tX4_belief 61 = some (.getfield 16, 3, 4, 4, 0, 0) := rfl
theorem fX4_belief_64 : fetch tX4_belief 64 = some (.iload_n 1, 1, 1, 0, 0, 0) := rfl
theorem fX4_belief_65 : fetch tX4_belief 65 = some (.laload, 1, 0, 0, 0, 0) := rfl
theorem fX4_belief_66 : fetch tX4_belief 66 = some (.lmul, 1, 0, 0, 0, 0) := rfl
theorem fX4_belief_67 : fetch tX4_belief 67 = some (.lload_n 2, 1, 2, 0, 0, 0) := rfl
theorem fX4_belief_68 : fetch tX4_belief 68 = some (.ldiv, 1, 0, 0, 0, 0) := rfl
theorem fX4_belief_69 : fetch tX4_belief 69 = some (.l2i, 1, 0, 0, 0, 0) := rfl
theorem fX4_belief_70 : fetch tX4_belief 70 = some (.ireturn, 1, 0, 0, 0, 0) := rfl
def tX4_decoy : List (Nat × TE) := [(0, .iload_n 1, 1, 1, 0, 0, 0), (1, .invokestatic 50, 3, 0, 4, 0, 0), (4, .ifCond .ne 6, 3, 10, 0, 0, 0), (7, .bipush (-2), 2, 0, 0, (-2), 0), (9, .ireturn, 1, 0, 0, 0, 0), (10, .iconst (-1), 1, 0, 0, (-1), 0), (11, .istore_n 2, 1, 2, 0, 0, 0), (12, .lconst 0, 1, 0, 0, 0, 0), (13, .lstore_n 3, 1, 3, 0, 0, 0), (14, .iconst 0, 1, 0, 0, 0, 0), (15, .istore 5, 2, 5, 0, 0, 0), (17, .iload 5, 2, 5, 0, 0, 0), (19, .bipush 8, 2, 0, 0, 8, 0), (21, .if_icmp .ge 62, 3, 83, 0, 0, 0), (24, .iload 5, 2, 5, 0, 0, 0), (26, .iload_n 1, 1, 1, 0, 0, 0), (27, .if_icmp .ne 7, 3, 34, 0, 0, 0), (30, .lconst 0, 1, 0, 0, 0, 0), (31, .goto 16, 3, 47, 0, 0, 0), (34, .aload_n 0, 1, 0, 0, 0, 0), (35, .iconst 1, 1, 0, 0, 1, 0), (36, .iload_n 1, 1, 1, 0, 0, 0), (37, .ishl, 1, 0, 0, 0, 0), (38, .iconst 1, 1, 0, 0, 1, 0), (39, .iload 5, 2, 5, 0, 0, 0), (41, .ishl, 1, 0, 0, 0, 0), (42, .ior, 1, 0, 0, 0, 0), (43, .iconst 0, 1, 0, 0, 0, 0), (44, .invokevirtual 96, 3, 1, 4, 0, 0), (47, .lstore 6, 2, 6, 0, 0, 0), (49, .lload 6, 2, 6, 0, 0, 0), (51, .lload_n 3, 1, 3, 0, 0, 0), (52, .lcmp, 1, 0, 0, 0, 0), (53, .ifCond .le 8, 3, 61, 0, 0, 0), (56, .iload 5, 2, 5, 0, 0, 0), (58, .goto 4, 3, 62, 0, 0, 0), (61, .iload_n 2, 1, 2, 0, 0, 0), (62, .istore_n 2, 1, 2, 0, 0, 0), (63, .lload 6, 2, 6, 0, 0, 0), (65, .lload_n 3, 1, 3, 0, 0, 0), (66, .lcmp, 1, 0, 0, 0, 0), (67, .ifCond .le 8, 3, 75, 0, 0, 0), (70, .lload 6, 2, 6, 0, 0, 0), (72, .goto 4, 3, 76, 0, 0, 0), (75, .lload_n 3, 1, 3, 0, 0, 0), (76, .lstore_n 3, 1, 3, 0, 0, 0), (77, .iinc 5 1, 3, 5, 0, 1, 0), (80, .goto (-63), 3, 17, 0, 0, 0), (83, .iload_n 2, 1, 2, 0, 0, 0), (84, .ireturn, 1, 0, 0, 0, 0)]
theorem tkX4_decoy : tOk cX4_decoy "RumourSourceModel" 8 tX4_decoy = true := by decide +kernel
theorem fX4_decoy_0 : fetch tX4_decoy 0 = some (.iload_n 1, 1, 1, 0, 0, 0) := rfl
theorem fX4_decoy_1 : fetch tX4_decoy 1 = some (.invokestatic 50, 3, 0, 4, 0, 0) := rfl
theorem fX4_decoy_4 : fetch tX4_decoy 4 = some (.ifCond .ne 6, 3, 10, 0, 0, 0) := rfl
theorem fX4_decoy_7 : fetch tX4_decoy 7 = some (.bipush (-2), 2, 0, 0, (-2), 0) := rfl
theorem fX4_decoy_9 : fetch tX4_decoy 9 = some (.ireturn, 1, 0, 0, 0, 0) := rfl
theorem fX4_decoy_10 : fetch tX4_decoy 10 = some (.iconst (-1), 1, 0, 0, (-1), 0) := rfl
theorem fX4_decoy_11 : fetch tX4_decoy 11 = some (.istore_n 2, 1, 2, 0, 0, 0) := rfl
theorem fX4_decoy_12 : fetch tX4_decoy 12 = some (.lconst 0, 1, 0, 0, 0, 0) := rfl
theorem fX4_decoy_13 : fetch tX4_decoy 13 = some (.lstore_n 3, 1, 3, 0, 0, 0) := rfl
theorem fX4_decoy_14 : fetch tX4_decoy 14 = some (.iconst 0, 1, 0, 0, 0, 0) := rfl
theorem fX4_decoy_15 : fetch tX4_decoy 15 = some (.istore 5, 2, 5, 0, 0, 0) := rfl
theorem fX4_decoy_17 : fetch tX4_decoy 17 = some (.iload 5, 2, 5, 0, 0, 0) := rfl
theorem fX4_decoy_19 : fetch tX4_decoy 19 = some (.bipush 8, 2, 0, 0, 8, 0) := rfl
theorem fX4_decoy_21 : fetch tX4_decoy 21 = some (.if_icmp .ge 62, 3, 83, 0, 0, 0) := rfl
theorem fX4_decoy_24 : fetch tX4_decoy 24 = some (.iload 5, 2, 5, 0, 0, 0) := rfl
theorem fX4_decoy_26 : fetch tX4_decoy 26 = some (.iload_n 1, 1, 1, 0, 0, 0) := rfl
theorem fX4_decoy_27 : fetch tX4_decoy 27 = some (.if_icmp .ne 7, 3, 34, 0, 0, 0) := rfl
theorem fX4_decoy_30 : fetch tX4_decoy 30 = some (.lconst 0, 1, 0, 0, 0, 0) := rfl
theorem fX4_decoy_31 : fetch tX4_decoy 31 = some (.goto 16, 3, 47, 0, 0, 0) := rfl
theorem fX4_decoy_34 : fetch tX4_decoy 34 = some (.aload_n 0, 1, 0, 0, 0, 0) := rfl
theorem fX4_decoy_35 : fetch tX4_decoy 35 = some (.iconst 1, 1, 0, 0, 1, 0) := rfl
theorem fX4_decoy_36 : fetch tX4_decoy 36 = some (.iload_n 1, 1, 1, 0, 0, 0) := rfl
theorem fX4_decoy_37 : fetch tX4_decoy 37 = some (.ishl, 1, 0, 0, 0, 0) := rfl
theorem fX4_decoy_38 : fetch tX4_decoy 38 = some (.iconst 1, 1, 0, 0, 1, 0) := rfl
theorem fX4_decoy_39 : fetch tX4_decoy 39 = some (.iload 5, 2, 5, 0, 0, 0) := rfl
theorem fX4_decoy_41 : fetch tX4_decoy 41 = some (.ishl, 1, 0, 0, 0, 0) := rfl
theorem fX4_decoy_42 : fetch tX4_decoy 42 = some (.ior, 1, 0, 0, 0, 0) := rfl
theorem fX4_decoy_43 : fetch tX4_decoy 43 = some (.iconst 0, 1, 0, 0, 0, 0) := rfl
theorem fX4_decoy_44 : fetch tX4_decoy 44 = some (.invokevirtual 96, 3, 1, 4, 0, 0) := rfl
theorem fX4_decoy_47 : fetch tX4_decoy 47 = some (.lstore 6, 2, 6, 0, 0, 0) := rfl
theorem fX4_decoy_49 : fetch tX4_decoy 49 = some (.lload 6, 2, 6, 0, 0, 0) := rfl
theorem fX4_decoy_51 : fetch tX4_decoy 51 = some (.lload_n 3, 1, 3, 0, 0, 0) := rfl
theorem fX4_decoy_52 : fetch tX4_decoy 52 = some (.lcmp, 1, 0, 0, 0, 0) := rfl
theorem fX4_decoy_53 : fetch tX4_decoy 53 = some (.ifCond .le 8, 3, 61, 0, 0, 0) := rfl
theorem fX4_decoy_56 : fetch tX4_decoy 56 = some (.iload 5, 2, 5, 0, 0, 0) := rfl
theorem fX4_decoy_58 : fetch tX4_decoy 58 = some (.goto 4, 3, 62, 0, 0, 0) := rfl
theorem fX4_decoy_61 : fetch tX4_decoy 61 = some (.iload_n 2, 1, 2, 0, 0, 0) := rfl
theorem fX4_decoy_62 : fetch tX4_decoy 62 = some (.istore_n 2, 1, 2, 0, 0, 0) := rfl
theorem fX4_decoy_63 : fetch tX4_decoy 63 = some (.lload 6, 2, 6, 0, 0, 0) := rfl
theorem fX4_decoy_65 : fetch tX4_decoy 65 = some (.lload_n 3, 1, 3, 0, 0, 0) := rfl
theorem fX4_decoy_66 : fetch tX4_decoy 66 = some (.lcmp, 1, 0, 0, 0, 0) := rfl
theorem fX4_decoy_67 : fetch tX4_decoy 67 = some (.ifCond .le 8, 3, 75, 0, 0, 0) := rfl
theorem fX4_decoy_70 : fetch tX4_decoy 70 = some (.lload 6, 2, 6, 0, 0, 0) := rfl
theorem fX4_decoy_72 : fetch tX4_decoy 72 = some (.goto 4, 3, 76, 0, 0, 0) := rfl
theorem fX4_decoy_75 : fetch tX4_decoy 75 = some (.lload_n 3, 1, 3, 0, 0, 0) := rfl
theorem fX4_decoy_76 : fetch tX4_decoy 76 = some (.lstore_n 3, 1, 3, 0, 0, 0) := rfl
theorem fX4_decoy_77 : fetch tX4_decoy 77 = some (.iinc 5 1, 3, 5, 0, 1, 0) := rfl
theorem fX4_decoy_80 : fetch tX4_decoy 80 = some (.goto (-63), 3, 17, 0, 0, 0) := rfl
theorem fX4_decoy_83 : fetch tX4_decoy 83 = some (.iload_n 2, 1, 2, 0, 0, 0) := rfl
theorem fX4_decoy_84 : fetch tX4_decoy 84 = some (.ireturn, 1, 0, 0, 0, 0) := rfl
def tX4_possible : List (Nat × TE) := [(0, .iconst 0, 1, 0, 0, 0, 0), (1, .istore_n 1, 1, 1, 0, 0, 0), (2, .iconst 0, 1, 0, 0, 0, 0), (3, .istore_n 2, 1, 2, 0, 0, 0), (4, .iload_n 2, 1, 2, 0, 0, 0), (5, .bipush 8, 2, 0, 0, 8, 0), (7, .if_icmp .ge 48, 3, 55, 0, 0, 0), (10, .iload_n 2, 1, 2, 0, 0, 0), (11, .istore_n 3, 1, 3, 0, 0, 0), (12, .iload_n 3, 1, 3, 0, 0, 0), (13, .bipush 8, 2, 0, 0, 8, 0), (15, .if_icmp .ge 34, 3, 49, 0, 0, 0), (18, .iload_n 1, 1, 1, 0, 0, 0), (19, .aload_n 0, 1, 0, 0, 0, 0), (20, .iconst 1, 1, 0, 0, 1, 0), (21, .iload_n 2, 1, 2, 0, 0, 0), (22, .ishl, 1, 0, 0, 0, 0), (23, .iconst 1, 1, 0, 0, 1, 0), (24, .iload_n 3, 1, 3, 0, 0, 0), (25, .ishl, 1, 0, 0, 0, 0), (26, .ior, 1, 0, 0, 0, 0), (27, .iconst 1, 1, 0, 0, 1, 0), (28, .invokevirtual 96, 3, 0, 4, 0, 0), (31, .lconst 0, 1, 0, 0, 0, 0), (32, .lcmp, 1, 0, 0, 0, 0), (33, .ifCond .le 7, 3, 40, 0, 0, 0), (36, .iconst 1, 1, 0, 0, 1, 0), (37, .goto 4, 3, 41, 0, 0, 0), (40, .iconst 0, 1, 0, 0, 0, 0), (41, .iadd, 1, 0, 0, 0, 0), (42, .istore_n 1, 1, 1, 0, 0, 0), (43, .iinc 3 1, 3, 3, 0, 1, 0), (46, .goto (-34), 3, 12, 0, 0, 0), (49, .iinc 2 1, 3, 2, 0, 1, 0), (52, .goto (-48), 3, 4, 0, 0, 0), (55, .iload_n 1, 1, 1, 0, 0, 0), (56, .ireturn, 1, 0, 0, 0, 0)]
theorem tkX4_possible : tOk cX4_possible "RumourSourceModel" 4 tX4_possible = true := by decide +kernel
theorem fX4_possible_0 : fetch tX4_possible 0 = some (.iconst 0, 1, 0, 0, 0, 0) := rfl
theorem fX4_possible_1 : fetch tX4_possible 1 = some (.istore_n 1, 1, 1, 0, 0, 0) := rfl
theorem fX4_possible_2 : fetch tX4_possible 2 = some (.iconst 0, 1, 0, 0, 0, 0) := rfl
theorem fX4_possible_3 : fetch tX4_possible 3 = some (.istore_n 2, 1, 2, 0, 0, 0) := rfl
theorem fX4_possible_4 : fetch tX4_possible 4 = some (.iload_n 2, 1, 2, 0, 0, 0) := rfl
theorem fX4_possible_5 : fetch tX4_possible 5 = some (.bipush 8, 2, 0, 0, 8, 0) := rfl
theorem fX4_possible_7 : fetch tX4_possible 7 = some (.if_icmp .ge 48, 3, 55, 0, 0, 0) := rfl
theorem fX4_possible_10 : fetch tX4_possible 10 = some (.iload_n 2, 1, 2, 0, 0, 0) := rfl
theorem fX4_possible_11 : fetch tX4_possible 11 = some (.istore_n 3, 1, 3, 0, 0, 0) := rfl
theorem fX4_possible_12 : fetch tX4_possible 12 = some (.iload_n 3, 1, 3, 0, 0, 0) := rfl
theorem fX4_possible_13 : fetch tX4_possible 13 = some (.bipush 8, 2, 0, 0, 8, 0) := rfl
theorem fX4_possible_15 : fetch tX4_possible 15 = some (.if_icmp .ge 34, 3, 49, 0, 0, 0) := rfl
theorem fX4_possible_18 : fetch tX4_possible 18 = some (.iload_n 1, 1, 1, 0, 0, 0) := rfl
theorem fX4_possible_19 : fetch tX4_possible 19 = some (.aload_n 0, 1, 0, 0, 0, 0) := rfl
theorem fX4_possible_20 : fetch tX4_possible 20 = some (.iconst 1, 1, 0, 0, 1, 0) := rfl
theorem fX4_possible_21 : fetch tX4_possible 21 = some (.iload_n 2, 1, 2, 0, 0, 0) := rfl
theorem fX4_possible_22 : fetch tX4_possible 22 = some (.ishl, 1, 0, 0, 0, 0) := rfl
theorem fX4_possible_23 : fetch tX4_possible 23 = some (.iconst 1, 1, 0, 0, 1, 0) := rfl
theorem fX4_possible_24 : fetch tX4_possible 24 = some (.iload_n 3, 1, 3, 0, 0, 0) := rfl
theorem fX4_possible_25 : fetch tX4_possible 25 = some (.ishl, 1, 0, 0, 0, 0) := rfl
theorem fX4_possible_26 : fetch tX4_possible 26 = some (.ior, 1, 0, 0, 0, 0) := rfl
theorem fX4_possible_27 : fetch tX4_possible 27 = some (.iconst 1, 1, 0, 0, 1, 0) := rfl
theorem fX4_possible_28 : fetch tX4_possible 28 = some (.invokevirtual 96, 3, 0, 4, 0, 0) := rfl
theorem fX4_possible_31 : fetch tX4_possible 31 = some (.lconst 0, 1, 0, 0, 0, 0) := rfl
theorem fX4_possible_32 : fetch tX4_possible 32 = some (.lcmp, 1, 0, 0, 0, 0) := rfl
theorem fX4_possible_33 : fetch tX4_possible 33 = some (.ifCond .le 7, 3, 40, 0, 0, 0) := rfl
theorem fX4_possible_36 : fetch tX4_possible 36 = some (.iconst 1, 1, 0, 0, 1, 0) := rfl
theorem fX4_possible_37 : fetch tX4_possible 37 = some (.goto 4, 3, 41, 0, 0, 0) := rfl
theorem fX4_possible_40 : fetch tX4_possible 40 = some (.iconst 0, 1, 0, 0, 0, 0) := rfl
theorem fX4_possible_41 : fetch tX4_possible 41 = some (.iadd, 1, 0, 0, 0, 0) := rfl
theorem fX4_possible_42 : fetch tX4_possible 42 = some (.istore_n 1, 1, 1, 0, 0, 0) := rfl
theorem fX4_possible_43 : fetch tX4_possible 43 = some (.iinc 3 1, 3, 3, 0, 1, 0) := rfl
theorem fX4_possible_46 : fetch tX4_possible 46 = some (.goto (-34), 3, 12, 0, 0, 0) := rfl
theorem fX4_possible_49 : fetch tX4_possible 49 = some (.iinc 2 1, 3, 2, 0, 1, 0) := rfl
theorem fX4_possible_52 : fetch tX4_possible 52 = some (.goto (-48), 3, 4, 0, 0, 0) := rfl
theorem fX4_possible_55 : fetch tX4_possible 55 = some (.iload_n 1, 1, 1, 0, 0, 0) := rfl
theorem fX4_possible_56 : fetch tX4_possible 56 = some (.ireturn, 1, 0, 0, 0, 0) := rfl
def tX4_explanation : List (Nat × TE) := [(0, .iload_n 1, 1, 1, 0, 0, 0), (1, .invokestatic 74, 3, 0, 4, 0, 0), (4, .ifCond .ne 6, 3, 10, 0, 0, 0), (7, .bipush (-3), 2, 0, 0, (-3), 0), (9, .ireturn, 1, 0, 0, 0, 0), (10, .iconst (-1), 1, 0, 0, (-1), 0), (11, .istore_n 2, 1, 2, 0, 0, 0), (12, .lconst 0, 1, 0, 0, 0, 0), (13, .lstore_n 3, 1, 3, 0, 0, 0), (14, .iconst 0, 1, 0, 0, 0, 0), (15, .istore 5, 2, 5, 0, 0, 0), (17, .iload 5, 2, 5, 0, 0, 0), (19, .iconst 1, 1, 0, 0, 1, 0), (20, .aload_n 0, 1, 0, 0, 0, 0), (21, .getfield 7, 3, 4, 0, 0, 0), (24, .iconst 0, 1, 0, 0, 0, 0), (25, .iaload, 1, 0, 0, 0, 0), (26, .ishl, 1, 0, 0, 0, 0), (27, .if_icmp .ge 59, 3, 86, 0, 0, 0), (30, .aload_n 0, 1, 0, 0, 0, 0), (31, .iload 5, 2, 5, 0, 0, 0), (33, .invokevirtual 84, 3, 1, 4, 0, 0), (36, .lstore 6, 2, 6, 0, 0, 0), (38, .lload 6, 2, 6, 0, 0, 0), (40, .lload_n 3, 1, 3, 0, 0, 0), (41, .lcmp, 1, 0, 0, 0, 0), (42, .ifCond .le 38, 3, 80, 0, 0, 0), (45, .aload_n 0, 1, 0, 0, 0, 0), (46, .iload_n 1, 1, 1, 0, 0, 0), (47, .iload 5, 2, 5, 0, 0, 0), (49, .invokevirtual 78, 3, 2, 4, 0, 0), (52, .aload_n 0, 1, 0, 0, 0, 0), (53, .invokevirtual 90, 3, 3, 4, 0, 0), (56, .ifCond .eq 8, 3, 64, 0, 0, 0), (59, .iload 5, 2, 5, 0, 0, 0), (61, .goto 4, 3, 65, 0, 0, 0), (64, .iload_n 2, 1, 2, 0, 0, 0), (65, .istore_n 2, 1, 2, 0, 0, 0), (66, .aload_n 0, 1, 0, 0, 0, 0), (67, .invokevirtual 90, 3, 3, 4, 0, 0), (70, .ifCond .eq 8, 3, 78, 0, 0, 0), (73, .lload 6, 2, 6, 0, 0, 0), (75, .goto 4, 3, 79, 0, 0, 0), (78, .lload_n 3, 1, 3, 0, 0, 0), (79, .lstore_n 3, 1, 3, 0, 0, 0), (80, .iinc 5 1, 3, 5, 0, 1, 0), (83, .goto (-66), 3, 17, 0, 0, 0), (86, .iload_n 2, 1, 2, 0, 0, 0), (87, .ireturn, 1, 0, 0, 0, 0)]
theorem tkX4_explanation : tOk cX4_explanation "RumourSourceModel" 8 tX4_explanation = true := by decide +kernel
theorem fX4_explanation_0 : fetch tX4_explanation 0 = some (.iload_n 1, 1, 1, 0, 0, 0) := rfl
theorem fX4_explanation_1 : fetch tX4_explanation 1 = some (.invokestatic 74, 3, 0, 4, 0, 0) := rfl
theorem fX4_explanation_4 : fetch tX4_explanation 4 = some (.ifCond .ne 6, 3, 10, 0, 0, 0) := rfl
theorem fX4_explanation_7 : fetch tX4_explanation 7 = some (.bipush (-3), 2, 0, 0, (-3), 0) := rfl
theorem fX4_explanation_9 : fetch tX4_explanation 9 = some (.ireturn, 1, 0, 0, 0, 0) := rfl
theorem fX4_explanation_10 : fetch tX4_explanation 10 = some (.iconst (-1), 1, 0, 0, (-1), 0) := rfl
theorem fX4_explanation_11 : fetch tX4_explanation 11 = some (.istore_n 2, 1, 2, 0, 0, 0) := rfl
theorem fX4_explanation_12 : fetch tX4_explanation 12 = some (.lconst 0, 1, 0, 0, 0, 0) := rfl
theorem fX4_explanation_13 : fetch tX4_explanation 13 = some (.lstore_n 3, 1, 3, 0, 0, 0) := rfl
theorem fX4_explanation_14 : fetch tX4_explanation 14 = some (.iconst 0, 1, 0, 0, 0, 0) := rfl
theorem fX4_explanation_15 : fetch tX4_explanation 15 = some (.istore 5, 2, 5, 0, 0, 0) := rfl
theorem fX4_explanation_17 : fetch tX4_explanation 17 = some (.iload 5, 2, 5, 0, 0, 0) := rfl
theorem fX4_explanation_19 : fetch tX4_explanation 19 = some (.iconst 1, 1, 0, 0, 1, 0) := rfl
theorem fX4_explanation_20 : fetch tX4_explanation 20 = some (.aload_n 0, 1, 0, 0, 0, 0) := rfl
theorem fX4_explanation_21 : fetch tX4_explanation 21 = some (.getfield 7, 3, 4, 0, 0, 0) := rfl
theorem fX4_explanation_24 : fetch tX4_explanation 24 = some (.iconst 0, 1, 0, 0, 0, 0) := rfl
theorem fX4_explanation_25 : fetch tX4_explanation 25 = some (.iaload, 1, 0, 0, 0, 0) := rfl
theorem fX4_explanation_26 : fetch tX4_explanation 26 = some (.ishl, 1, 0, 0, 0, 0) := rfl
theorem fX4_explanation_27 : fetch tX4_explanation 27 = some (.if_icmp .ge 59, 3, 86, 0, 0, 0) := rfl
theorem fX4_explanation_30 : fetch tX4_explanation 30 = some (.aload_n 0, 1, 0, 0, 0, 0) := rfl
theorem fX4_explanation_31 : fetch tX4_explanation 31 = some (.iload 5, 2, 5, 0, 0, 0) := rfl
theorem fX4_explanation_33 : fetch tX4_explanation 33 = some (.invokevirtual 84, 3, 1, 4, 0, 0) := rfl
theorem fX4_explanation_36 : fetch tX4_explanation 36 = some (.lstore 6, 2, 6, 0, 0, 0) := rfl
theorem fX4_explanation_38 : fetch tX4_explanation 38 = some (.lload 6, 2, 6, 0, 0, 0) := rfl
theorem fX4_explanation_40 : fetch tX4_explanation 40 = some (.lload_n 3, 1, 3, 0, 0, 0) := rfl
theorem fX4_explanation_41 : fetch tX4_explanation 41 = some (.lcmp, 1, 0, 0, 0, 0) := rfl
theorem fX4_explanation_42 : fetch tX4_explanation 42 = some (.ifCond .le 38, 3, 80, 0, 0, 0) := rfl
theorem fX4_explanation_45 : fetch tX4_explanation 45 = some (.aload_n 0, 1, 0, 0, 0, 0) := rfl
theorem fX4_explanation_46 : fetch tX4_explanation 46 = some (.iload_n 1, 1, 1, 0, 0, 0) := rfl
theorem fX4_explanation_47 : fetch tX4_explanation 47 = some (.iload 5, 2, 5, 0, 0, 0) := rfl
theorem fX4_explanation_49 : fetch tX4_explanation 49 = some (.invokevirtual 78, 3, 2, 4, 0, 0) := rfl
theorem fX4_explanation_52 : fetch tX4_explanation 52 = some (.aload_n 0, 1, 0, 0, 0, 0) := rfl
theorem fX4_explanation_53 : fetch tX4_explanation 53 = some (.invokevirtual 90, 3, 3, 4, 0, 0) := rfl
theorem fX4_explanation_56 : fetch tX4_explanation 56 = some (.ifCond .eq 8, 3, 64, 0, 0, 0) := rfl
theorem fX4_explanation_59 : fetch tX4_explanation 59 = some (.iload 5, 2, 5, 0, 0, 0) := rfl
theorem fX4_explanation_61 : fetch tX4_explanation 61 = some (.goto 4, 3, 65, 0, 0, 0) := rfl
theorem fX4_explanation_64 : fetch tX4_explanation 64 = some (.iload_n 2, 1, 2, 0, 0, 0) := rfl
theorem fX4_explanation_65 : fetch tX4_explanation 65 = some (.istore_n 2, 1, 2, 0, 0, 0) := rfl
theorem fX4_explanation_66 : fetch tX4_explanation 66 = some (.aload_n 0, 1, 0, 0, 0, 0) := rfl
theorem fX4_explanation_67 : fetch tX4_explanation 67 = some (.invokevirtual 90, 3, 3, 4, 0, 0) := rfl
theorem fX4_explanation_70 : fetch tX4_explanation 70 = some (.ifCond .eq 8, 3, 78, 0, 0, 0) := rfl
theorem fX4_explanation_73 : fetch tX4_explanation 73 = some (.lload 6, 2, 6, 0, 0, 0) := rfl
theorem fX4_explanation_75 : fetch tX4_explanation 75 = some (.goto 4, 3, 79, 0, 0, 0) := rfl
theorem fX4_explanation_78 : fetch tX4_explanation 78 = some (.lload_n 3, 1, 3, 0, 0, 0) := rfl
theorem fX4_explanation_79 : fetch tX4_explanation 79 = some (.lstore_n 3, 1, 3, 0, 0, 0) := rfl
theorem fX4_explanation_80 : fetch tX4_explanation 80 = some (.iinc 5 1, 3, 5, 0, 1, 0) := rfl
theorem fX4_explanation_83 : fetch tX4_explanation 83 = some (.goto (-66), 3, 17, 0, 0, 0) := rfl
theorem fX4_explanation_86 : fetch tX4_explanation 86 = some (.iload_n 2, 1, 2, 0, 0, 0) := rfl
theorem fX4_explanation_87 : fetch tX4_explanation 87 = some (.ireturn, 1, 0, 0, 0, 0) := rfl
def tX4_values : List (Nat × TE) := [(0, .iload_n 1, 1, 1, 0, 0, 0), (1, .invokestatic 50, 3, 0, 4, 0, 0), (4, .ifCond .ne 6, 3, 10, 0, 0, 0), (7, .bipush (-2), 2, 0, 0, (-2), 0), (9, .ireturn, 1, 0, 0, 0, 0), (10, .iconst 0, 1, 0, 0, 0, 0), (11, .istore_n 2, 1, 2, 0, 0, 0), (12, .iload_n 2, 1, 2, 0, 0, 0), (13, .bipush 32, 2, 0, 0, 32, 0), (15, .if_icmp .ge 16, 3, 31, 0, 0, 0), (18, .aload_n 0, 1, 0, 0, 0, 0), (19, .getfield 20, 3, 4, 5, 0, 0), (22, .iload_n 2, 1, 2, 0, 0, 0), (23, .iconst 0, 1, 0, 0, 0, 0), (24, .bastore, 1, 0, 0, 0, 0), (25, .iinc 2 1, 3, 2, 0, 1, 0), (28, .goto (-16), 3, 12, 0, 0, 0), (31, .iconst 0, 1, 0, 0, 0, 0), (32, .istore_n 2, 1, 2, 0, 0, 0), (33, .iload_n 2, 1, 2, 0, 0, 0), (34, .iconst 1, 1, 0, 0, 1, 0), (35, .aload_n 0, 1, 0, 0, 0, 0), (36, .getfield 7, 3, 4, 0, 0, 0), (39, .iconst 0, 1, 0, 0, 0, 0), (40, .iaload, 1, 0, 0, 0, 0), (41, .ishl, 1, 0, 0, 0, 0), (42, .if_icmp .ge 77, 3, 119, 0, 0, 0), (45, .iconst 0, 1, 0, 0, 0, 0), (46, .istore_n 3, 1, 3, 0, 0, 0), (47, .iload_n 3, 1, 3, 0, 0, 0), (48, .bipush 8, 2, 0, 0, 8, 0), (50, .if_icmp .ge 63, 3, 113, 0, 0, 0), (53, .aload_n 0, 1, 0, 0, 0, 0), (54, .iload_n 2, 1, 2, 0, 0, 0), (55, .invokevirtual 84, 3, 1, 4, 0, 0), (58, .lconst 0, 1, 0, 0, 0, 0), (59, .lcmp, 1, 0, 0, 0, 0), (60, .ifCond .le 53, 3, 113, 0, 0, 0), (63, .aload_n 0, 1, 0, 0, 0, 0), (64, .iconst 1, 1, 0, 0, 1, 0), (65, .iload_n 3, 1, 3, 0, 0, 0), (66, .ishl, 1, 0, 0, 0, 0), (67, .iload_n 2, 1, 2, 0, 0, 0), (68, .invokevirtual 78, 3, 2, 4, 0, 0), (71, .aload_n 0, 1, 0, 0, 0, 0), (72, .invokevirtual 90, 3, 3, 4, 0, 0), (75, .ifCond .eq 32, 3, 107, 0, 0, 0), (78, .aload_n 0, 1, 0, 0, 0, 0), (79, .getfield 20, 3, 4, 5, 0, 0), (82, .aload_n 0, 1, 0, 0, 0, 0), (83, .getfield 13, 3, 4, 3, 0, 0), (86, .iload_n 1, 1, 1, 0, 0, 0), (87, .iaload, 1, 0, 0, 0, 0), (88, .sipush 1000, 3, 0, 0, 1000, 0), (91, .if_icmp .ne 8, 3, 99, 0, 0, 0), (94, .bipush 31, 2, 0, 0, 31, 0), (96, .goto 9, 3, 105, 0, 0, 0), (99, .aload_n 0, 1, 0, 0, 0, 0), (100, .getfield 13, 3, 4, 3, 0, 0), (103, .iload_n 1, 1, 1, 0, 0, 0), (104, .iaload, 1, 0, 0, 0, 0), (105, .iconst 1, 1, 0, 0, 1, 0), (106, .bastore, 1, 0, 0, 0, 0), (107, .iinc 3 1, 3, 3, 0, 1, 0), (110, .goto (-63), 3, 47, 0, 0, 0), (113, .iinc 2 1, 3, 2, 0, 1, 0), (116, .goto (-83), 3, 33, 0, 0, 0), (119, .iconst 0, 1, 0, 0, 0, 0), (120, .istore_n 2, 1, 2, 0, 0, 0), (121, .iconst 0, 1, 0, 0, 0, 0), (122, .istore_n 3, 1, 3, 0, 0, 0), (123, .iload_n 3, 1, 3, 0, 0, 0), (124, .bipush 32, 2, 0, 0, 32, 0), (126, .if_icmp .ge 26, 3, 152, 0, 0, 0), (129, .iload_n 2, 1, 2, 0, 0, 0), (130, .aload_n 0, 1, 0, 0, 0, 0), (131, .getfield 20, 3, 4, 5, 0, 0), (134, .iload_n 3, 1, 3, 0, 0, 0), (135, .baload, 1, 0, 0, 0, 0), (136, .ifCond .eq 7, 3, 143, 0, 0, 0), (139, .iconst 1, 1, 0, 0, 1, 0), (140, .goto 4, 3, 144, 0, 0, 0), (143, .iconst 0, 1, 0, 0, 0, 0), (144, .iadd, 1, 0, 0, 0, 0), (145, .istore_n 2, 1, 2, 0, 0, 0), (146, .iinc 3 1, 3, 3, 0, 1, 0), (149, .goto (-26), 3, 123, 0, 0, 0), (152, .iload_n 2, 1, 2, 0, 0, 0), (153, .ireturn, 1, 0, 0, 0, 0)]
theorem tkX4_values : tOk cX4_values "RumourSourceModel" 4 tX4_values = true := by decide +kernel
theorem fX4_values_0 : fetch tX4_values 0 = some (.iload_n 1, 1, 1, 0, 0, 0) := rfl
theorem fX4_values_1 : fetch tX4_values 1 = some (.invokestatic 50, 3, 0, 4, 0, 0) := rfl
theorem fX4_values_4 : fetch tX4_values 4 = some (.ifCond .ne 6, 3, 10, 0, 0, 0) := rfl
theorem fX4_values_7 : fetch tX4_values 7 = some (.bipush (-2), 2, 0, 0, (-2), 0) := rfl
theorem fX4_values_9 : fetch tX4_values 9 = some (.ireturn, 1, 0, 0, 0, 0) := rfl
theorem fX4_values_10 : fetch tX4_values 10 = some (.iconst 0, 1, 0, 0, 0, 0) := rfl
theorem fX4_values_11 : fetch tX4_values 11 = some (.istore_n 2, 1, 2, 0, 0, 0) := rfl
theorem fX4_values_12 : fetch tX4_values 12 = some (.iload_n 2, 1, 2, 0, 0, 0) := rfl
theorem fX4_values_13 : fetch tX4_values 13 = some (.bipush 32, 2, 0, 0, 32, 0) := rfl
theorem fX4_values_15 : fetch tX4_values 15 = some (.if_icmp .ge 16, 3, 31, 0, 0, 0) := rfl
theorem fX4_values_18 : fetch tX4_values 18 = some (.aload_n 0, 1, 0, 0, 0, 0) := rfl
theorem fX4_values_19 : fetch tX4_values 19 = some (.getfield 20, 3, 4, 5, 0, 0) := rfl
theorem fX4_values_22 : fetch tX4_values 22 = some (.iload_n 2, 1, 2, 0, 0, 0) := rfl
theorem fX4_values_23 : fetch tX4_values 23 = some (.iconst 0, 1, 0, 0, 0, 0) := rfl
theorem fX4_values_24 : fetch tX4_values 24 = some (.bastore, 1, 0, 0, 0, 0) := rfl
theorem fX4_values_25 : fetch tX4_values 25 = some (.iinc 2 1, 3, 2, 0, 1, 0) := rfl
theorem fX4_values_28 : fetch tX4_values 28 = some (.goto (-16), 3, 12, 0, 0, 0) := rfl
theorem fX4_values_31 : fetch tX4_values 31 = some (.iconst 0, 1, 0, 0, 0, 0) := rfl
theorem fX4_values_32 : fetch tX4_values 32 = some (.istore_n 2, 1, 2, 0, 0, 0) := rfl
theorem fX4_values_33 : fetch tX4_values 33 = some (.iload_n 2, 1, 2, 0, 0, 0) := rfl
theorem fX4_values_34 : fetch tX4_values 34 = some (.iconst 1, 1, 0, 0, 1, 0) := rfl
theorem fX4_values_35 : fetch tX4_values 35 = some (.aload_n 0, 1, 0, 0, 0, 0) := rfl
theorem fX4_values_36 : fetch tX4_values 36 = some (.getfield 7, 3, 4, 0, 0, 0) := rfl
theorem fX4_values_39 : fetch tX4_values 39 = some (.iconst 0, 1, 0, 0, 0, 0) := rfl
theorem fX4_values_40 : fetch tX4_values 40 = some (.iaload, 1, 0, 0, 0, 0) := rfl
theorem fX4_values_41 : fetch tX4_values 41 = some (.ishl, 1, 0, 0, 0, 0) := rfl
theorem fX4_values_42 : fetch tX4_values 42 = some (.if_icmp .ge 77, 3, 119, 0, 0, 0) := rfl
theorem fX4_values_45 : fetch tX4_values 45 = some (.iconst 0, 1, 0, 0, 0, 0) := rfl
theorem fX4_values_46 : fetch tX4_values 46 = some (.istore_n 3, 1, 3, 0, 0, 0) := rfl
theorem fX4_values_47 : fetch tX4_values 47 = some (.iload_n 3, 1, 3, 0, 0, 0) := rfl
theorem fX4_values_48 : fetch tX4_values 48 = some (.bipush 8, 2, 0, 0, 8, 0) := rfl
theorem fX4_values_50 : fetch tX4_values 50 = some (.if_icmp .ge 63, 3, 113, 0, 0, 0) := rfl
theorem fX4_values_53 : fetch tX4_values 53 = some (.aload_n 0, 1, 0, 0, 0, 0) := rfl
theorem fX4_values_54 : fetch tX4_values 54 = some (.iload_n 2, 1, 2, 0, 0, 0) := rfl
theorem fX4_values_55 : fetch tX4_values 55 = some (.invokevirtual 84, 3, 1, 4, 0, 0) := rfl
theorem fX4_values_58 : fetch tX4_values 58 = some (.lconst 0, 1, 0, 0, 0, 0) := rfl
theorem fX4_values_59 : fetch tX4_values 59 = some (.lcmp, 1, 0, 0, 0, 0) := rfl
theorem fX4_values_60 : fetch tX4_values 60 = some (.ifCond .le 53, 3, 113, 0, 0, 0) := rfl
theorem fX4_values_63 : fetch tX4_values 63 = some (.aload_n 0, 1, 0, 0, 0, 0) := rfl
theorem fX4_values_64 : fetch tX4_values 64 = some (.iconst 1, 1, 0, 0, 1, 0) := rfl
theorem fX4_values_65 : fetch tX4_values 65 = some (.iload_n 3, 1, 3, 0, 0, 0) := rfl
theorem fX4_values_66 : fetch tX4_values 66 = some (.ishl, 1, 0, 0, 0, 0) := rfl
theorem fX4_values_67 : fetch tX4_values 67 = some (.iload_n 2, 1, 2, 0, 0, 0) := rfl
theorem fX4_values_68 : fetch tX4_values 68 = some (.invokevirtual 78, 3, 2, 4, 0, 0) := rfl
theorem fX4_values_71 : fetch tX4_values 71 = some (.aload_n 0, 1, 0, 0, 0, 0) := rfl
theorem fX4_values_72 : fetch tX4_values 72 = some (.invokevirtual 90, 3, 3, 4, 0, 0) := rfl
theorem fX4_values_75 : fetch tX4_values 75 = some (.ifCond .eq 32, 3, 107, 0, 0, 0) := rfl
theorem fX4_values_78 : fetch tX4_values 78 = some (.aload_n 0, 1, 0, 0, 0, 0) := rfl
theorem fX4_values_79 : fetch tX4_values 79 = some (.getfield 20, 3, 4, 5, 0, 0) := rfl
theorem fX4_values_82 : fetch tX4_values 82 = some (.aload_n 0, 1, 0, 0, 0, 0) := rfl
theorem fX4_values_83 : fetch tX4_values 83 = some (.getfield 13, 3, 4, 3, 0, 0) := rfl
theorem fX4_values_86 : fetch tX4_values 86 = some (.iload_n 1, 1, 1, 0, 0, 0) := rfl
theorem fX4_values_87 : fetch tX4_values 87 = some (.iaload, 1, 0, 0, 0, 0) := rfl
theorem fX4_values_88 : fetch tX4_values 88 = some (.sipush 1000, 3, 0, 0, 1000, 0) := rfl
theorem fX4_values_91 : fetch tX4_values 91 = some (.if_icmp .ne 8, 3, 99, 0, 0, 0) := rfl
theorem fX4_values_94 : fetch tX4_values 94 = some (.bipush 31, 2, 0, 0, 31, 0) := rfl
theorem fX4_values_96 : fetch tX4_values 96 = some (.goto 9, 3, 105, 0, 0, 0) := rfl
theorem fX4_values_99 : fetch tX4_values 99 = some (.aload_n 0, 1, 0, 0, 0, 0) := rfl
theorem fX4_values_100 : fetch tX4_values 100 = some (.getfield 13, 3, 4, 3, 0, 0) := rfl
theorem fX4_values_103 : fetch tX4_values 103 = some (.iload_n 1, 1, 1, 0, 0, 0) := rfl
theorem fX4_values_104 : fetch tX4_values 104 = some (.iaload, 1, 0, 0, 0, 0) := rfl
theorem fX4_values_105 : fetch tX4_values 105 = some (.iconst 1, 1, 0, 0, 1, 0) := rfl
theorem fX4_values_106 : fetch tX4_values 106 = some (.bastore, 1, 0, 0, 0, 0) := rfl
theorem fX4_values_107 : fetch tX4_values 107 = some (.iinc 3 1, 3, 3, 0, 1, 0) := rfl
theorem fX4_values_110 : fetch tX4_values 110 = some (.goto (-63), 3, 47, 0, 0, 0) := rfl
theorem fX4_values_113 : fetch tX4_values 113 = some (.iinc 2 1, 3, 2, 0, 1, 0) := rfl
theorem fX4_values_116 : fetch tX4_values 116 = some (.goto (-83), 3, 33, 0, 0, 0) := rfl
theorem fX4_values_119 : fetch tX4_values 119 = some (.iconst 0, 1, 0, 0, 0, 0) := rfl
theorem fX4_values_120 : fetch tX4_values 120 = some (.istore_n 2, 1, 2, 0, 0, 0) := rfl
theorem fX4_values_121 : fetch tX4_values 121 = some (.iconst 0, 1, 0, 0, 0, 0) := rfl
theorem fX4_values_122 : fetch tX4_values 122 = some (.istore_n 3, 1, 3, 0, 0, 0) := rfl
theorem fX4_values_123 : fetch tX4_values 123 = some (.iload_n 3, 1, 3, 0, 0, 0) := rfl
theorem fX4_values_124 : fetch tX4_values 124 = some (.bipush 32, 2, 0, 0, 32, 0) := rfl
theorem fX4_values_126 : fetch tX4_values 126 = some (.if_icmp .ge 26, 3, 152, 0, 0, 0) := rfl
theorem fX4_values_129 : fetch tX4_values 129 = some (.iload_n 2, 1, 2, 0, 0, 0) := rfl
theorem fX4_values_130 : fetch tX4_values 130 = some (.aload_n 0, 1, 0, 0, 0, 0) := rfl
theorem fX4_values_131 : fetch tX4_values 131 = some (.getfield 20, 3, 4, 5, 0, 0) := rfl
theorem fX4_values_134 : fetch tX4_values 134 = some (.iload_n 3, 1, 3, 0, 0, 0) := rfl
theorem fX4_values_135 : fetch tX4_values 135 = some (.baload, 1, 0, 0, 0, 0) := rfl
theorem fX4_values_136 : fetch tX4_values 136 = some (.ifCond .eq 7, 3, 143, 0, 0, 0) := rfl
theorem fX4_values_139 : fetch tX4_values 139 = some (.iconst 1, 1, 0, 0, 1, 0) := rfl
theorem fX4_values_140 : fetch tX4_values 140 = some (.goto 4, 3, 144, 0, 0, 0) := rfl
theorem fX4_values_143 : fetch tX4_values 143 = some (.iconst 0, 1, 0, 0, 0, 0) := rfl
theorem fX4_values_144 : fetch tX4_values 144 = some (.iadd, 1, 0, 0, 0, 0) := rfl
theorem fX4_values_145 : fetch tX4_values 145 = some (.istore_n 2, 1, 2, 0, 0, 0) := rfl
theorem fX4_values_146 : fetch tX4_values 146 = some (.iinc 3 1, 3, 3, 0, 1, 0) := rfl
theorem fX4_values_149 : fetch tX4_values 149 = some (.goto (-26), 3, 123, 0, 0, 0) := rfl
theorem fX4_values_152 : fetch tX4_values 152 = some (.iload_n 2, 1, 2, 0, 0, 0) := rfl
theorem fX4_values_153 : fetch tX4_values 153 = some (.ireturn, 1, 0, 0, 0, 0) := rfl
def tX4_undo : List (Nat × TE) := [(0, .aload_n 0, 1, 0, 0, 0, 0), (1, .getfield 30, 3, 4, 1, 0, 0), (4, .ifCond .ne 6, 3, 10, 0, 0, 0), (7, .bipush (-4), 2, 0, 0, (-4), 0), (9, .ireturn, 1, 0, 0, 0, 0), (10, .aload_n 0, 1, 0, 0, 0, 0), (11, .aload_n 0, 1, 0, 0, 0, 0), (12, .getfield 30, 3, 4, 1, 0, 0), (15, .iconst 0, 1, 0, 0, 0, 0), (16, .invokevirtual 34, 3, 0, 4, 0, 0), (19, .aload_n 0, 1, 0, 0, 0, 0), (20, .dup, 1, 0, 0, 0, 0), (21, .getfield 30, 3, 4, 1, 0, 0), (24, .iconst 1, 1, 0, 0, 1, 0), (25, .isub, 1, 0, 0, 0, 0), (26, .putfield 30, 3, 4, 1, 0, 0), (29, .aload_n 0, 1, 0, 0, 0, 0), (30, .iconst 0, 1, 0, 0, 0, 0), (31, .putfield 38, 3, 4, 2, 0, 0), (34, .aload_n 0, 1, 0, 0, 0, 0), (35, .getfield 30, 3, 4, 1, 0, 0), (38, .ireturn, 1, 0, 0, 0, 0)]
theorem tkX4_undo : tOk cX4_undo "RumourSourceModel" 1 tX4_undo = true := by decide +kernel
theorem fX4_undo_0 : fetch tX4_undo 0 = some (.aload_n 0, 1, 0, 0, 0, 0) := rfl
theorem fX4_undo_1 : fetch tX4_undo 1 = some (.getfield 30, 3, 4, 1, 0, 0) := rfl
theorem fX4_undo_4 : fetch tX4_undo 4 = some (.ifCond .ne 6, 3, 10, 0, 0, 0) := rfl
theorem fX4_undo_7 : fetch tX4_undo 7 = some (.bipush (-4), 2, 0, 0, (-4), 0) := rfl
theorem fX4_undo_9 : fetch tX4_undo 9 = some (.ireturn, 1, 0, 0, 0, 0) := rfl
theorem fX4_undo_10 : fetch tX4_undo 10 = some (.aload_n 0, 1, 0, 0, 0, 0) := rfl
theorem fX4_undo_11 : fetch tX4_undo 11 = some (.aload_n 0, 1, 0, 0, 0, 0) := rfl
theorem fX4_undo_12 : fetch tX4_undo 12 = some (.getfield 30, 3, 4, 1, 0, 0) := rfl
theorem fX4_undo_15 : fetch tX4_undo 15 = some (.iconst 0, 1, 0, 0, 0, 0) := rfl
theorem fX4_undo_16 : fetch tX4_undo 16 = some (.invokevirtual 34, 3, 0, 4, 0, 0) := rfl
theorem fX4_undo_19 : fetch tX4_undo 19 = some (.aload_n 0, 1, 0, 0, 0, 0) := rfl
theorem fX4_undo_20 : fetch tX4_undo 20 = some (.dup, 1, 0, 0, 0, 0) := rfl
theorem fX4_undo_21 : fetch tX4_undo 21 = some (.getfield 30, 3, 4, 1, 0, 0) := rfl
theorem fX4_undo_24 : fetch tX4_undo 24 = some (.iconst 1, 1, 0, 0, 1, 0) := rfl
theorem fX4_undo_25 : fetch tX4_undo 25 = some (.isub, 1, 0, 0, 0, 0) := rfl
theorem fX4_undo_26 : fetch tX4_undo 26 = some (.putfield 30, 3, 4, 1, 0, 0) := rfl
theorem fX4_undo_29 : fetch tX4_undo 29 = some (.aload_n 0, 1, 0, 0, 0, 0) := rfl
theorem fX4_undo_30 : fetch tX4_undo 30 = some (.iconst 0, 1, 0, 0, 0, 0) := rfl
theorem fX4_undo_31 : fetch tX4_undo 31 = some (.putfield 38, 3, 4, 2, 0, 0) := rfl
theorem fX4_undo_34 : fetch tX4_undo 34 = some (.aload_n 0, 1, 0, 0, 0, 0) := rfl
theorem fX4_undo_35 : fetch tX4_undo 35 = some (.getfield 30, 3, 4, 1, 0, 0) := rfl
theorem fX4_undo_38 : fetch tX4_undo 38 = some (.ireturn, 1, 0, 0, 0, 0) := rfl
def tX4_type : List (Nat × TE) := [(0, .iload_n 1, 1, 1, 0, 0, 0), (1, .iconst 0, 1, 0, 0, 0, 0), (2, .sipush 255, 3, 0, 0, 255, 0), (5, .invokestatic 42, 3, 0, 4, 0, 0), (8, .ifCond .ne 6, 3, 14, 0, 0, 0), (11, .bipush (-3), 2, 0, 0, (-3), 0), (13, .ireturn, 1, 0, 0, 0, 0), (14, .aload_n 0, 1, 0, 0, 0, 0), (15, .getfield 105, 3, 4, 7, 0, 0), (18, .bipush 120, 2, 0, 0, 120, 0), (20, .if_icmp .ne 6, 3, 26, 0, 0, 0), (23, .bipush (-5), 2, 0, 0, (-5), 0), (25, .ireturn, 1, 0, 0, 0, 0), (26, .aload_n 0, 1, 0, 0, 0, 0), (27, .getfield 24, 3, 4, 6, 0, 0), (30, .aload_n 0, 1, 0, 0, 0, 0), (31, .getfield 105, 3, 4, 7, 0, 0), (34, .iload_n 1, 1, 1, 0, 0, 0), (35, .iastore, 1, 0, 0, 0, 0), (36, .aload_n 0, 1, 0, 0, 0, 0), (37, .dup, 1, 0, 0, 0, 0), (38, .getfield 105, 3, 4, 7, 0, 0), (41, .iconst 1, 1, 0, 0, 1, 0), (42, .iadd, 1, 0, 0, 0, 0), (43, .putfield 105, 3, 4, 7, 0, 0), (46, .aload_n 0, 1, 0, 0, 0, 0), (47, .getfield 105, 3, 4, 7, 0, 0), (50, .ireturn, 1, 0, 0, 0, 0)]
theorem tkX4_type : tOk cX4_type "RumourSourceModel" 2 tX4_type = true := by decide +kernel
theorem fX4_type_0 : fetch tX4_type 0 = some (.iload_n 1, 1, 1, 0, 0, 0) := rfl
theorem fX4_type_1 : fetch tX4_type 1 = some (.iconst 0, 1, 0, 0, 0, 0) := rfl
theorem fX4_type_2 : fetch tX4_type 2 = some (.sipush 255, 3, 0, 0, 255, 0) := rfl
theorem fX4_type_5 : fetch tX4_type 5 = some (.invokestatic 42, 3, 0, 4, 0, 0) := rfl
theorem fX4_type_8 : fetch tX4_type 8 = some (.ifCond .ne 6, 3, 14, 0, 0, 0) := rfl
theorem fX4_type_11 : fetch tX4_type 11 = some (.bipush (-3), 2, 0, 0, (-3), 0) := rfl
theorem fX4_type_13 : fetch tX4_type 13 = some (.ireturn, 1, 0, 0, 0, 0) := rfl
theorem fX4_type_14 : fetch tX4_type 14 = some (.aload_n 0, 1, 0, 0, 0, 0) := rfl
theorem fX4_type_15 : fetch tX4_type 15 = some (.getfield 105, 3, 4, 7, 0, 0) := rfl
theorem fX4_type_18 : fetch tX4_type 18 = some (.bipush 120, 2, 0, 0, 120, 0) := rfl
theorem fX4_type_20 : fetch tX4_type 20 = some (.if_icmp .ne 6, 3, 26, 0, 0, 0) := rfl
theorem fX4_type_23 : fetch tX4_type 23 = some (.bipush (-5), 2, 0, 0, (-5), 0) := rfl
theorem fX4_type_25 : fetch tX4_type 25 = some (.ireturn, 1, 0, 0, 0, 0) := rfl
theorem fX4_type_26 : fetch tX4_type 26 = some (.aload_n 0, 1, 0, 0, 0, 0) := rfl
theorem fX4_type_27 : fetch tX4_type 27 = some (.getfield 24, 3, 4, 6, 0, 0) := rfl
theorem fX4_type_30 : fetch tX4_type 30 = some (.aload_n 0, 1, 0, 0, 0, 0) := rfl
theorem fX4_type_31 : fetch tX4_type 31 = some (.getfield 105, 3, 4, 7, 0, 0) := rfl
theorem fX4_type_34 : fetch tX4_type 34 = some (.iload_n 1, 1, 1, 0, 0, 0) := rfl
theorem fX4_type_35 : fetch tX4_type 35 = some (.iastore, 1, 0, 0, 0, 0) := rfl
theorem fX4_type_36 : fetch tX4_type 36 = some (.aload_n 0, 1, 0, 0, 0, 0) := rfl
theorem fX4_type_37 : fetch tX4_type 37 = some (.dup, 1, 0, 0, 0, 0) := rfl
theorem fX4_type_38 : fetch tX4_type 38 = some (.getfield 105, 3, 4, 7, 0, 0) := rfl
theorem fX4_type_41 : fetch tX4_type 41 = some (.iconst 1, 1, 0, 0, 1, 0) := rfl
theorem fX4_type_42 : fetch tX4_type 42 = some (.iadd, 1, 0, 0, 0, 0) := rfl
theorem fX4_type_43 : fetch tX4_type 43 = some (.putfield 105, 3, 4, 7, 0, 0) := rfl
theorem fX4_type_46 : fetch tX4_type 46 = some (.aload_n 0, 1, 0, 0, 0, 0) := rfl
theorem fX4_type_47 : fetch tX4_type 47 = some (.getfield 105, 3, 4, 7, 0, 0) := rfl
theorem fX4_type_50 : fetch tX4_type 50 = some (.ireturn, 1, 0, 0, 0, 0) := rfl
def tX4_clearText : List (Nat × TE) := [(0, .aload_n 0, 1, 0, 0, 0, 0), (1, .getfield 105, 3, 4, 7, 0, 0), (4, .istore_n 1, 1, 1, 0, 0, 0), (5, .aload_n 0, 1, 0, 0, 0, 0), (6, .iconst 0, 1, 0, 0, 0, 0), (7, .putfield 105, 3, 4, 7, 0, 0), (10, .iload_n 1, 1, 1, 0, 0, 0), (11, .ireturn, 1, 0, 0, 0, 0)]
theorem tkX4_clearText : tOk cX4_clearText "RumourSourceModel" 2 tX4_clearText = true := by decide +kernel
theorem fX4_clearText_0 : fetch tX4_clearText 0 = some (.aload_n 0, 1, 0, 0, 0, 0) := rfl
theorem fX4_clearText_1 : fetch tX4_clearText 1 = some (.getfield 105, 3, 4, 7, 0, 0) := rfl
theorem fX4_clearText_4 : fetch tX4_clearText 4 = some (.istore_n 1, 1, 1, 0, 0, 0) := rfl
theorem fX4_clearText_5 : fetch tX4_clearText 5 = some (.aload_n 0, 1, 0, 0, 0, 0) := rfl
theorem fX4_clearText_6 : fetch tX4_clearText 6 = some (.iconst 0, 1, 0, 0, 0, 0) := rfl
theorem fX4_clearText_7 : fetch tX4_clearText 7 = some (.putfield 105, 3, 4, 7, 0, 0) := rfl
theorem fX4_clearText_10 : fetch tX4_clearText 10 = some (.iload_n 1, 1, 1, 0, 0, 0) := rfl
theorem fX4_clearText_11 : fetch tX4_clearText 11 = some (.ireturn, 1, 0, 0, 0, 0) := rfl
def tX4_here : List (Nat × TE) := [(0, .aload_n 0, 1, 0, 0, 0, 0), (1, .getfield 108, 3, 4, 8, 0, 0), (4, .aload_n 0, 1, 0, 0, 0, 0), (5, .getfield 105, 3, 4, 7, 0, 0), (8, .if_icmp .ge 30, 3, 38, 0, 0, 0), (11, .aload_n 0, 1, 0, 0, 0, 0), (12, .getfield 24, 3, 4, 6, 0, 0), (15, .aload_n 0, 1, 0, 0, 0, 0), (16, .getfield 108, 3, 4, 8, 0, 0), (19, .iaload, 1, 0, 0, 0, 0), (20, .bipush 32, 2, 0, 0, 32, 0), (22, .if_icmp .ne 16, 3, 38, 0, 0, 0), (25, .aload_n 0, 1, 0, 0, 0, 0), (26, .dup, 1, 0, 0, 0, 0), (27, .getfield 108, 3, 4, 8, 0, 0), (30, .iconst 1, 1, 0, 0, 1, 0), (31, .iadd, 1, 0, 0, 0, 0), (32, .putfield 108, 3, 4, 8, 0, 0), (35, .goto (-35), 3, 0, 0, 0, 0), (38, .aload_n 0, 1, 0, 0, 0, 0), (39, .getfield 108, 3, 4, 8, 0, 0), (42, .aload_n 0, 1, 0, 0, 0, 0), (43, .getfield 105, 3, 4, 7, 0, 0), (46, .if_icmp .ge 15, 3, 61, 0, 0, 0), (49, .aload_n 0, 1, 0, 0, 0, 0), (50, .getfield 24, 3, 4, 6, 0, 0), (53, .aload_n 0, 1, 0, 0, 0, 0), (54, .getfield 108, 3, 4, 8, 0, 0), (57, .iaload, 1, 0, 0, 0, 0), (58, .goto 4, 3, 62, 0, 0, 0), (61, .iconst (-1), 1, 0, 0, (-1), 0), (62, .ireturn, 1, 0, 0, 0, 0)]
theorem tkX4_here : tOk cX4_here "RumourSourceModel" 1 tX4_here = true := by decide +kernel
theorem fX4_here_0 : fetch tX4_here 0 = some (.aload_n 0, 1, 0, 0, 0, 0) := rfl
theorem fX4_here_1 : fetch tX4_here 1 = some (.getfield 108, 3, 4, 8, 0, 0) := rfl
theorem fX4_here_4 : fetch tX4_here 4 = some (.aload_n 0, 1, 0, 0, 0, 0) := rfl
theorem fX4_here_5 : fetch tX4_here 5 = some (.getfield 105, 3, 4, 7, 0, 0) := rfl
theorem fX4_here_8 : fetch tX4_here 8 = some (.if_icmp .ge 30, 3, 38, 0, 0, 0) := rfl
theorem fX4_here_11 : fetch tX4_here 11 = some (.aload_n 0, 1, 0, 0, 0, 0) := rfl
theorem fX4_here_12 : fetch tX4_here 12 = some (.getfield 24, 3, 4, 6, 0, 0) := rfl
theorem fX4_here_15 : fetch tX4_here 15 = some (.aload_n 0, 1, 0, 0, 0, 0) := rfl
theorem fX4_here_16 : fetch tX4_here 16 = some (.getfield 108, 3, 4, 8, 0, 0) := rfl
theorem fX4_here_19 : fetch tX4_here 19 = some (.iaload, 1, 0, 0, 0, 0) := rfl
theorem fX4_here_20 : fetch tX4_here 20 = some (.bipush 32, 2, 0, 0, 32, 0) := rfl
theorem fX4_here_22 : fetch tX4_here 22 = some (.if_icmp .ne 16, 3, 38, 0, 0, 0) := rfl
theorem fX4_here_25 : fetch tX4_here 25 = some (.aload_n 0, 1, 0, 0, 0, 0) := rfl
theorem fX4_here_26 : fetch tX4_here 26 = some (.dup, 1, 0, 0, 0, 0) := rfl
theorem fX4_here_27 : fetch tX4_here 27 = some (.getfield 108, 3, 4, 8, 0, 0) := rfl
theorem fX4_here_30 : fetch tX4_here 30 = some (.iconst 1, 1, 0, 0, 1, 0) := rfl
theorem fX4_here_31 : fetch tX4_here 31 = some (.iadd, 1, 0, 0, 0, 0) := rfl
theorem fX4_here_32 : fetch tX4_here 32 = some (.putfield 108, 3, 4, 8, 0, 0) := rfl
theorem fX4_here_35 : fetch tX4_here 35 = some (.goto (-35), 3, 0, 0, 0, 0) := rfl
theorem fX4_here_38 : fetch tX4_here 38 = some (.aload_n 0, 1, 0, 0, 0, 0) := rfl
theorem fX4_here_39 : fetch tX4_here 39 = some (.getfield 108, 3, 4, 8, 0, 0) := rfl
theorem fX4_here_42 : fetch tX4_here 42 = some (.aload_n 0, 1, 0, 0, 0, 0) := rfl
theorem fX4_here_43 : fetch tX4_here 43 = some (.getfield 105, 3, 4, 7, 0, 0) := rfl
theorem fX4_here_46 : fetch tX4_here 46 = some (.if_icmp .ge 15, 3, 61, 0, 0, 0) := rfl
theorem fX4_here_49 : fetch tX4_here 49 = some (.aload_n 0, 1, 0, 0, 0, 0) := rfl
theorem fX4_here_50 : fetch tX4_here 50 = some (.getfield 24, 3, 4, 6, 0, 0) := rfl
theorem fX4_here_53 : fetch tX4_here 53 = some (.aload_n 0, 1, 0, 0, 0, 0) := rfl
theorem fX4_here_54 : fetch tX4_here 54 = some (.getfield 108, 3, 4, 8, 0, 0) := rfl
theorem fX4_here_57 : fetch tX4_here 57 = some (.iaload, 1, 0, 0, 0, 0) := rfl
theorem fX4_here_58 : fetch tX4_here 58 = some (.goto 4, 3, 62, 0, 0, 0) := rfl
theorem fX4_here_61 : fetch tX4_here 61 = some (.iconst (-1), 1, 0, 0, (-1), 0) := rfl
theorem fX4_here_62 : fetch tX4_here 62 = some (.ireturn, 1, 0, 0, 0, 0) := rfl
def tX4_sign : List (Nat × TE) := [(0, .aload_n 0, 1, 0, 0, 0, 0), (1, .invokevirtual 111, 3, 0, 4, 0, 0), (4, .iload_n 1, 1, 1, 0, 0, 0), (5, .if_icmp .ne 7, 3, 12, 0, 0, 0), (8, .iconst 1, 1, 0, 0, 1, 0), (9, .goto 4, 3, 13, 0, 0, 0), (12, .iconst 0, 1, 0, 0, 0, 0), (13, .istore_n 2, 1, 2, 0, 0, 0), (14, .aload_n 0, 1, 0, 0, 0, 0), (15, .dup, 1, 0, 0, 0, 0), (16, .getfield 108, 3, 4, 8, 0, 0), (19, .iload_n 2, 1, 2, 0, 0, 0), (20, .ifCond .eq 7, 3, 27, 0, 0, 0), (23, .iconst 1, 1, 0, 0, 1, 0), (24, .goto 4, 3, 28, 0, 0, 0), (27, .iconst 0, 1, 0, 0, 0, 0), (28, .iadd, 1, 0, 0, 0, 0), (29, .putfield 108, 3, 4, 8, 0, 0), (32, .iload_n 2, 1, 2, 0, 0, 0), (33, .ireturn, 1, 0, 0, 0, 0)]
theorem tkX4_sign : tOk cX4_sign "RumourSourceModel" 3 tX4_sign = true := by decide +kernel
theorem fX4_sign_0 : fetch tX4_sign 0 = some (.aload_n 0, 1, 0, 0, 0, 0) := rfl
theorem fX4_sign_1 : fetch tX4_sign 1 = some (.invokevirtual 111, 3, 0, 4, 0, 0) := rfl
theorem fX4_sign_4 : fetch tX4_sign 4 = some (.iload_n 1, 1, 1, 0, 0, 0) := rfl
theorem fX4_sign_5 : fetch tX4_sign 5 = some (.if_icmp .ne 7, 3, 12, 0, 0, 0) := rfl
theorem fX4_sign_8 : fetch tX4_sign 8 = some (.iconst 1, 1, 0, 0, 1, 0) := rfl
theorem fX4_sign_9 : fetch tX4_sign 9 = some (.goto 4, 3, 13, 0, 0, 0) := rfl
theorem fX4_sign_12 : fetch tX4_sign 12 = some (.iconst 0, 1, 0, 0, 0, 0) := rfl
theorem fX4_sign_13 : fetch tX4_sign 13 = some (.istore_n 2, 1, 2, 0, 0, 0) := rfl
theorem fX4_sign_14 : fetch tX4_sign 14 = some (.aload_n 0, 1, 0, 0, 0, 0) := rfl
theorem fX4_sign_15 : fetch tX4_sign 15 = some (.dup, 1, 0, 0, 0, 0) := rfl
theorem fX4_sign_16 : fetch tX4_sign 16 = some (.getfield 108, 3, 4, 8, 0, 0) := rfl
theorem fX4_sign_19 : fetch tX4_sign 19 = some (.iload_n 2, 1, 2, 0, 0, 0) := rfl
theorem fX4_sign_20 : fetch tX4_sign 20 = some (.ifCond .eq 7, 3, 27, 0, 0, 0) := rfl
theorem fX4_sign_23 : fetch tX4_sign 23 = some (.iconst 1, 1, 0, 0, 1, 0) := rfl
theorem fX4_sign_24 : fetch tX4_sign 24 = some (.goto 4, 3, 28, 0, 0, 0) := rfl
theorem fX4_sign_27 : fetch tX4_sign 27 = some (.iconst 0, 1, 0, 0, 0, 0) := rfl
theorem fX4_sign_28 : fetch tX4_sign 28 = some (.iadd, 1, 0, 0, 0, 0) := rfl
theorem fX4_sign_29 : fetch tX4_sign 29 = some (.putfield 108, 3, 4, 8, 0, 0) := rfl
theorem fX4_sign_32 : fetch tX4_sign 32 = some (.iload_n 2, 1, 2, 0, 0, 0) := rfl
theorem fX4_sign_33 : fetch tX4_sign 33 = some (.ireturn, 1, 0, 0, 0, 0) := rfl
def tX4_number : List (Nat × TE) := [(0, .aload_n 0, 1, 0, 0, 0, 0), (1, .invokevirtual 111, 3, 0, 4, 0, 0), (4, .istore_n 3, 1, 3, 0, 0, 0), (5, .aload_n 0, 1, 0, 0, 0, 0), (6, .getfield 108, 3, 4, 8, 0, 0), (9, .istore 4, 2, 4, 0, 0, 0), (11, .iconst 0, 1, 0, 0, 0, 0), (12, .istore 5, 2, 5, 0, 0, 0), (14, .iload_n 3, 1, 3, 0, 0, 0), (15, .ifCond .lt 69, 3, 84, 0, 0, 0), (18, .iload 4, 2, 4, 0, 0, 0), (20, .aload_n 0, 1, 0, 0, 0, 0), (21, .getfield 105, 3, 4, 7, 0, 0), (24, .if_icmp .ge 60, 3, 84, 0, 0, 0), (27, .aload_n 0, 1, 0, 0, 0, 0), (28, .getfield 24, 3, 4, 6, 0, 0), (31, .iload 4, 2, 4, 0, 0, 0), (33, .iaload, 1, 0, 0, 0, 0), (34, .bipush 48, 2, 0, 0, 48, 0), (36, .bipush 57, 2, 0, 0, 57, 0), (38, .invokestatic 42, 3, 1, 4, 0, 0), (41, .ifCond .eq 43, 3, 84, 0, 0, 0), (44, .iload 4, 2, 4, 0, 0, 0), (46, .aload_n 0, 1, 0, 0, 0, 0), (47, .getfield 108, 3, 4, 8, 0, 0), (50, .isub, 1, 0, 0, 0, 0), (51, .iconst 3, 1, 0, 0, 3, 0), (52, .if_icmp .ge 22, 3, 74, 0, 0, 0), (55, .bipush 10, 2, 0, 0, 10, 0), (57, .iload 5, 2, 5, 0, 0, 0), (59, .imul, 1, 0, 0, 0, 0), (60, .aload_n 0, 1, 0, 0, 0, 0), (61, .getfield 24, 3, 4, 6, 0, 0), (64, .iload 4, 2, 4, 0, 0, 0), (66, .iaload, 1, 0, 0, 0, 0), (67, .iadd, 1, 0, 0, 0, 0), (68, .bipush 48, 2, 0, 0, 48, 0), (70, .isub, 1, 0, 0, 0, 0), (71, .goto 5, 3, 76, 0, 0, 0), (74, .iload 5, 2, 5, 0, 0, 0), (76, .istore 5, 2, 5, 0, 0, 0), (78, .iinc 4 1, 3, 4, 0, 1, 0), (81, .goto (-67), 3, 14, 0, 0, 0), (84, .iload 4, 2, 4, 0, 0, 0), (86, .aload_n 0, 1, 0, 0, 0, 0), (87, .getfield 108, 3, 4, 8, 0, 0), (90, .if_icmp .eq 24, 3, 114, 0, 0, 0), (93, .iload 4, 2, 4, 0, 0, 0), (95, .aload_n 0, 1, 0, 0, 0, 0), (96, .getfield 108, 3, 4, 8, 0, 0), (99, .isub, 1, 0, 0, 0, 0), (100, .iconst 2, 1, 0, 0, 2, 0), (101, .if_icmp .gt 13, 3, 114, 0, 0, 0), (104, .iload 5, 2, 5, 0, 0, 0), (106, .iload_n 1, 1, 1, 0, 0, 0), (107, .iload_n 2, 1, 2, 0, 0, 0), (108, .invokestatic 42, 3, 1, 4, 0, 0), (111, .ifCond .ne 5, 3, 116, 0, 0, 0), (114, .iconst (-1), 1, 0, 0, (-1), 0), (115, .ireturn, 1, 0, 0, 0, 0), (116, .aload_n 0, 1, 0, 0, 0, 0), (117, .iload 4, 2, 4, 0, 0, 0), (119, .putfield 108, 3, 4, 8, 0, 0), (122, .iload 5, 2, 5, 0, 0, 0), (124, .ireturn, 1, 0, 0, 0, 0)]
theorem tkX4_number : tOk cX4_number "RumourSourceModel" 6 tX4_number = true := by decide +kernel
theorem fX4_number_0 : fetch tX4_number 0 = some (.aload_n 0, 1, 0, 0, 0, 0) := rfl
theorem fX4_number_1 : fetch tX4_number 1 = some (.invokevirtual 111, 3, 0, 4, 0, 0) := rfl
theorem fX4_number_4 : fetch tX4_number 4 = some (.istore_n 3, 1, 3, 0, 0, 0) := rfl
theorem fX4_number_5 : fetch tX4_number 5 = some (.aload_n 0, 1, 0, 0, 0, 0) := rfl
theorem fX4_number_6 : fetch tX4_number 6 = some (.getfield 108, 3, 4, 8, 0, 0) := rfl
theorem fX4_number_9 : fetch tX4_number 9 = some (.istore 4, 2, 4, 0, 0, 0) := rfl
theorem fX4_number_11 : fetch tX4_number 11 = some (.iconst 0, 1, 0, 0, 0, 0) := rfl
theorem fX4_number_12 : fetch tX4_number 12 = some (.istore 5, 2, 5, 0, 0, 0) := rfl
theorem fX4_number_14 : fetch tX4_number 14 = some (.iload_n 3, 1, 3, 0, 0, 0) := rfl
theorem fX4_number_15 : fetch tX4_number 15 = some (.ifCond .lt 69, 3, 84, 0, 0, 0) := rfl
theorem fX4_number_18 : fetch tX4_number 18 = some (.iload 4, 2, 4, 0, 0, 0) := rfl
theorem fX4_number_20 : fetch tX4_number 20 = some (.aload_n 0, 1, 0, 0, 0, 0) := rfl
theorem fX4_number_21 : fetch tX4_number 21 = some (.getfield 105, 3, 4, 7, 0, 0) := rfl
theorem fX4_number_24 : fetch tX4_number 24 = some (.if_icmp .ge 60, 3, 84, 0, 0, 0) := rfl
theorem fX4_number_27 : fetch tX4_number 27 = some (.aload_n 0, 1, 0, 0, 0, 0) := rfl
theorem fX4_number_28 : fetch tX4_number 28 = some (.getfield 24, 3, 4, 6, 0, 0) := rfl
theorem fX4_number_31 : fetch tX4_number 31 = some (.iload 4, 2, 4, 0, 0, 0) := rfl
theorem fX4_number_33 : fetch tX4_number 33 = some (.iaload, 1, 0, 0, 0, 0) := rfl
theorem fX4_number_34 : fetch tX4_number 34 = some (.bipush 48, 2, 0, 0, 48, 0) := rfl
theorem fX4_number_36 : fetch tX4_number 36 = some (.bipush 57, 2, 0, 0, 57, 0) := rfl
theorem fX4_number_38 : fetch tX4_number 38 = some (.invokestatic 42, 3, 1, 4, 0, 0) := rfl
theorem fX4_number_41 : fetch tX4_number 41 = some (.ifCond .eq 43, 3, 84, 0, 0, 0) := rfl
theorem fX4_number_44 : fetch tX4_number 44 = some (.iload 4, 2, 4, 0, 0, 0) := rfl
theorem fX4_number_46 : fetch tX4_number 46 = some (.aload_n 0, 1, 0, 0, 0, 0) := rfl
theorem fX4_number_47 : fetch tX4_number 47 = some (.getfield 108, 3, 4, 8, 0, 0) := rfl
theorem fX4_number_50 : fetch tX4_number 50 = some (.isub, 1, 0, 0, 0, 0) := rfl
theorem fX4_number_51 : fetch tX4_number 51 = some (.iconst 3, 1, 0, 0, 3, 0) := rfl
theorem fX4_number_52 : fetch tX4_number 52 = some (.if_icmp .ge 22, 3, 74, 0, 0, 0) := rfl
theorem fX4_number_55 : fetch tX4_number 55 = some (.bipush 10, 2, 0, 0, 10, 0) := rfl
theorem fX4_number_57 : fetch tX4_number 57 = some (.iload 5, 2, 5, 0, 0, 0) := rfl
theorem fX4_number_59 : fetch tX4_number 59 = some (.imul, 1, 0, 0, 0, 0) := rfl
theorem fX4_number_60 : fetch tX4_number 60 = some (.aload_n 0, 1, 0, 0, 0, 0) := rfl
theorem fX4_number_61 : fetch tX4_number 61 = some (.getfield 24, 3, 4, 6, 0, 0) := rfl
theorem fX4_number_64 : fetch tX4_number 64 = some (.iload 4, 2, 4, 0, 0, 0) := rfl
theorem fX4_number_66 : fetch tX4_number 66 = some (.iaload, 1, 0, 0, 0, 0) := rfl
theorem fX4_number_67 : fetch tX4_number 67 = some (.iadd, 1, 0, 0, 0, 0) := rfl
theorem fX4_number_68 : fetch tX4_number 68 = some (.bipush 48, 2, 0, 0, 48, 0) := rfl
theorem fX4_number_70 : fetch tX4_number 70 = some (.isub, 1, 0, 0, 0, 0) := rfl
theorem fX4_number_71 : fetch tX4_number 71 = some (.goto 5, 3, 76, 0, 0, 0) := rfl
theorem fX4_number_74 : fetch tX4_number 74 = some (.iload 5, 2, 5, 0, 0, 0) := rfl
theorem fX4_number_76 : fetch tX4_number 76 = some (.istore 5, 2, 5, 0, 0, 0) := rfl
theorem fX4_number_78 : fetch tX4_number 78 = some (.iinc 4 1, 3, 4, 0, 1, 0) := rfl
theorem fX4_number_81 : fetch tX4_number 81 = some (.goto (-67), 3, 14, 0, 0, 0) := rfl
theorem fX4_number_84 : fetch tX4_number 84 = some (.iload 4, 2, 4, 0, 0, 0) := rfl
theorem fX4_number_86 : fetch tX4_number 86 = some (.aload_n 0, 1, 0, 0, 0, 0) := rfl
theorem fX4_number_87 : fetch tX4_number 87 = some (.getfield 108, 3, 4, 8, 0, 0) := rfl
theorem fX4_number_90 : fetch tX4_number 90 = some (.if_icmp .eq 24, 3, 114, 0, 0, 0) := rfl
theorem fX4_number_93 : fetch tX4_number 93 = some (.iload 4, 2, 4, 0, 0, 0) := rfl
theorem fX4_number_95 : fetch tX4_number 95 = some (.aload_n 0, 1, 0, 0, 0, 0) := rfl
theorem fX4_number_96 : fetch tX4_number 96 = some (.getfield 108, 3, 4, 8, 0, 0) := rfl
theorem fX4_number_99 : fetch tX4_number 99 = some (.isub, 1, 0, 0, 0, 0) := rfl
theorem fX4_number_100 : fetch tX4_number 100 = some (.iconst 2, 1, 0, 0, 2, 0) := rfl
theorem fX4_number_101 : fetch tX4_number 101 = some (.if_icmp .gt 13, 3, 114, 0, 0, 0) := rfl
theorem fX4_number_104 : fetch tX4_number 104 = some (.iload 5, 2, 5, 0, 0, 0) := rfl
theorem fX4_number_106 : fetch tX4_number 106 = some (.iload_n 1, 1, 1, 0, 0, 0) := rfl
theorem fX4_number_107 : fetch tX4_number 107 = some (.iload_n 2, 1, 2, 0, 0, 0) := rfl
theorem fX4_number_108 : fetch tX4_number 108 = some (.invokestatic 42, 3, 1, 4, 0, 0) := rfl
theorem fX4_number_111 : fetch tX4_number 111 = some (.ifCond .ne 5, 3, 116, 0, 0, 0) := rfl
theorem fX4_number_114 : fetch tX4_number 114 = some (.iconst (-1), 1, 0, 0, (-1), 0) := rfl
theorem fX4_number_115 : fetch tX4_number 115 = some (.ireturn, 1, 0, 0, 0, 0) := rfl
theorem fX4_number_116 : fetch tX4_number 116 = some (.aload_n 0, 1, 0, 0, 0, 0) := rfl
theorem fX4_number_117 : fetch tX4_number 117 = some (.iload 4, 2, 4, 0, 0, 0) := rfl
theorem fX4_number_119 : fetch tX4_number 119 = some (.putfield 108, 3, 4, 8, 0, 0) := rfl
theorem fX4_number_122 : fetch tX4_number 122 = some (.iload 5, 2, 5, 0, 0, 0) := rfl
theorem fX4_number_124 : fetch tX4_number 124 = some (.ireturn, 1, 0, 0, 0, 0) := rfl
def tX4_readsEdge : List (Nat × TE) := [(0, .aload_n 0, 1, 0, 0, 0, 0), (1, .invokevirtual 111, 3, 0, 4, 0, 0), (4, .bipush 48, 2, 0, 0, 48, 0), (6, .isub, 1, 0, 0, 0, 0), (7, .istore_n 3, 1, 3, 0, 0, 0), (8, .iload_n 3, 1, 3, 0, 0, 0), (9, .invokestatic 50, 3, 1, 4, 0, 0), (12, .ifCond .eq 35, 3, 47, 0, 0, 0), (15, .iload_n 3, 1, 3, 0, 0, 0), (16, .iload_n 1, 1, 1, 0, 0, 0), (17, .if_icmp .eq 30, 3, 47, 0, 0, 0), (20, .aload_n 0, 1, 0, 0, 0, 0), (21, .getfield 27, 3, 4, 9, 0, 0), (24, .bipush 8, 2, 0, 0, 8, 0), (26, .iload_n 1, 1, 1, 0, 0, 0), (27, .imul, 1, 0, 0, 0, 0), (28, .iload_n 3, 1, 3, 0, 0, 0), (29, .iadd, 1, 0, 0, 0, 0), (30, .baload, 1, 0, 0, 0, 0), (31, .ifCond .ne 12, 3, 43, 0, 0, 0), (34, .aload_n 0, 1, 0, 0, 0, 0), (35, .getfield 115, 3, 4, 10, 0, 0), (38, .bipush 12, 2, 0, 0, 12, 0), (40, .if_icmp .ge 7, 3, 47, 0, 0, 0), (43, .iconst 1, 1, 0, 0, 1, 0), (44, .goto 4, 3, 48, 0, 0, 0), (47, .iconst 0, 1, 0, 0, 0, 0), (48, .istore 4, 2, 4, 0, 0, 0), (50, .iload 4, 2, 4, 0, 0, 0), (52, .ifCond .ne 5, 3, 57, 0, 0, 0), (55, .iconst 0, 1, 0, 0, 0, 0), (56, .ireturn, 1, 0, 0, 0, 0), (57, .aload_n 0, 1, 0, 0, 0, 0), (58, .dup, 1, 0, 0, 0, 0), (59, .getfield 108, 3, 4, 8, 0, 0), (62, .iconst 1, 1, 0, 0, 1, 0), (63, .iadd, 1, 0, 0, 0, 0), (64, .putfield 108, 3, 4, 8, 0, 0), (67, .aload_n 0, 1, 0, 0, 0, 0), (68, .dup, 1, 0, 0, 0, 0), (69, .getfield 115, 3, 4, 10, 0, 0), (72, .aload_n 0, 1, 0, 0, 0, 0), (73, .getfield 27, 3, 4, 9, 0, 0), (76, .bipush 8, 2, 0, 0, 8, 0), (78, .iload_n 1, 1, 1, 0, 0, 0), (79, .imul, 1, 0, 0, 0, 0), (80, .iload_n 3, 1, 3, 0, 0, 0), (81, .iadd, 1, 0, 0, 0, 0), (82, .baload, 1, 0, 0, 0, 0), (83, .ifCond .eq 7, 3, 90, 0, 0, 0), (86, .iconst 0, 1, 0, 0, 0, 0), (87, .goto 4, 3, 91, 0, 0, 0), (90, .iconst 1, 1, 0, 0, 1, 0), (91, .iadd, 1, 0, 0, 0, 0), (92, .putfield 115, 3, 4, 10, 0, 0), (95, .aload_n 0, 1, 0, 0, 0, 0), (96, .getfield 27, 3, 4, 9, 0, 0), (99, .bipush 8, 2, 0, 0, 8, 0), (101, .iload_n 1, 1, 1, 0, 0, 0), (102, .imul, 1, 0, 0, 0, 0), (103, .iload_n 3, 1, 3, 0, 0, 0), (104, .iadd, 1, 0, 0, 0, 0), (105, .iconst 1, 1, 0, 0, 1, 0), (106, .bastore, 1, 0, 0, 0, 0), (107, .aload_n 0, 1, 0, 0, 0, 0), (108, .bipush 42, 2, 0, 0, 42, 0), (110, .invokevirtual 118, 3, 2, 4, 0, 0), (113, .ifCond .ne 5, 3, 118, 0, 0, 0), (116, .iconst 0, 1, 0, 0, 0, 0), (117, .ireturn, 1, 0, 0, 0, 0), (118, .aload_n 0, 1, 0, 0, 0, 0), (119, .iconst 0, 1, 0, 0, 0, 0), (120, .bipush 10, 2, 0, 0, 10, 0), (122, .invokevirtual 121, 3, 3, 4, 0, 0), (125, .istore 5, 2, 5, 0, 0, 0), (127, .iload 5, 2, 5, 0, 0, 0), (129, .iconst (-1), 1, 0, 0, (-1), 0), (130, .if_icmp .eq 12, 3, 142, 0, 0, 0), (133, .aload_n 0, 1, 0, 0, 0, 0), (134, .bipush 43, 2, 0, 0, 43, 0), (136, .invokevirtual 118, 3, 2, 4, 0, 0), (139, .ifCond .ne 5, 3, 144, 0, 0, 0), (142, .iconst 0, 1, 0, 0, 0, 0), (143, .ireturn, 1, 0, 0, 0, 0), (144, .aload_n 0, 1, 0, 0, 0, 0), (145, .iconst 1, 1, 0, 0, 1, 0), (146, .iconst 5, 1, 0, 0, 5, 0), (147, .invokevirtual 121, 3, 3, 4, 0, 0), (150, .istore 6, 2, 6, 0, 0, 0), (152, .iload 6, 2, 6, 0, 0, 0), (154, .iconst (-1), 1, 0, 0, (-1), 0), (155, .if_icmp .ne 5, 3, 160, 0, 0, 0), (158, .iconst 0, 1, 0, 0, 0, 0), (159, .ireturn, 1, 0, 0, 0, 0), (160, .iload_n 2, 1, 2, 0, 0, 0), (161, .ifCond .eq 58, 3, 219, 0, 0, 0), (164, .aload_n 0, 1, 0, 0, 0, 0), (165, .iload_n 1, 1, 1, 0, 0, 0), (166, .iload_n 3, 1, 3, 0, 0, 0), (167, .invokevirtual 54, 3, 4, 4, 0, 0), (170, .istore 7, 2, 7, 0, 0, 0), (172, .aload_n 0, 1, 0, 0, 0, 0), (173, .iload 7, 2, 7, 0, 0, 0), (175, .iconst (-1), 1, 0, 0, (-1), 0), (176, .if_icmp .ne 12, 3, 188, 0, 0, 0), (179, .aload_n 0, 1, 0, 0, 0, 0), (180, .getfield 7, 3, 4, 0, 0, 0), (183, .iconst 0, 1, 0, 0, 0, 0), (184, .iaload, 1, 0, 0, 0, 0), (185, .goto 5, 3, 190, 0, 0, 0), (188, .iload 7, 2, 7, 0, 0, 0), (190, .iload_n 1, 1, 1, 0, 0, 0), (191, .iload_n 3, 1, 3, 0, 0, 0), (192, .iload 5, 2, 5, 0, 0, 0), (194, .iload 6, 2, 6, 0, 0, 0), (196, .invokevirtual 60, 3, 5, 4, 0, 0), (199, .aload_n 0, 1, 0, 0, 0, 0), (200, .getfield 7, 3, 4, 0, 0, 0), (203, .iconst 0, 1, 0, 0, 0, 0), (204, .dup2, 1, 0, 0, 0, 0), (205, .iaload, 1, 0, 0, 0, 0), (206, .iload 7, 2, 7, 0, 0, 0), (208, .iconst (-1), 1, 0, 0, (-1), 0), (209, .if_icmp .ne 7, 3, 216, 0, 0, 0), (212, .iconst 1, 1, 0, 0, 1, 0), (213, .goto 4, 3, 217, 0, 0, 0), (216, .iconst 0, 1, 0, 0, 0, 0), (217, .iadd, 1, 0, 0, 0, 0), (218, .iastore, 1, 0, 0, 0, 0), (219, .iconst 1, 1, 0, 0, 1, 0), (220, .ireturn, 1, 0, 0, 0, 0)]
theorem tkX4_readsEdge : tOk cX4_readsEdge "RumourSourceModel" 8 tX4_readsEdge = true := by decide +kernel
set_option maxRecDepth 20000 in
theorem fX4_readsEdge_0 : fetch tX4_readsEdge 0 = some (.aload_n 0, 1, 0, 0, 0, 0) := rfl
set_option maxRecDepth 20000 in
theorem fX4_readsEdge_1 : fetch tX4_readsEdge 1 = some (.invokevirtual 111, 3, 0, 4, 0, 0) := rfl
set_option maxRecDepth 20000 in
theorem fX4_readsEdge_4 : fetch tX4_readsEdge 4 = some (.bipush 48, 2, 0, 0, 48, 0) := rfl
set_option maxRecDepth 20000 in
theorem fX4_readsEdge_6 : fetch tX4_readsEdge 6 = some (.isub, 1, 0, 0, 0, 0) := rfl
set_option maxRecDepth 20000 in
theorem fX4_readsEdge_7 : fetch tX4_readsEdge 7 = some (.istore_n 3, 1, 3, 0, 0, 0) := rfl
set_option maxRecDepth 20000 in
theorem fX4_readsEdge_8 : fetch tX4_readsEdge 8 = some (.iload_n 3, 1, 3, 0, 0, 0) := rfl
set_option maxRecDepth 20000 in
theorem fX4_readsEdge_9 : fetch tX4_readsEdge 9 = some (.invokestatic 50, 3, 1, 4, 0, 0) := rfl
set_option maxRecDepth 20000 in
theorem fX4_readsEdge_12 : fetch tX4_readsEdge 12 = some (.ifCond .eq 35, 3, 47, 0, 0, 0) := rfl
set_option maxRecDepth 20000 in
theorem fX4_readsEdge_15 : fetch tX4_readsEdge 15 = some (.iload_n 3, 1, 3, 0, 0, 0) := rfl
set_option maxRecDepth 20000 in
theorem fX4_readsEdge_16 : fetch tX4_readsEdge 16 = some (.iload_n 1, 1, 1, 0, 0, 0) := rfl
set_option maxRecDepth 20000 in
theorem fX4_readsEdge_17 : fetch tX4_readsEdge 17 = some (.if_icmp .eq 30, 3, 47, 0, 0, 0) := rfl
set_option maxRecDepth 20000 in
theorem fX4_readsEdge_20 : fetch tX4_readsEdge 20 = some (.aload_n 0, 1, 0, 0, 0, 0) := rfl
set_option maxRecDepth 20000 in
theorem fX4_readsEdge_21 : fetch tX4_readsEdge 21 = some (.getfield 27, 3, 4, 9, 0, 0) := rfl
set_option maxRecDepth 20000 in
theorem fX4_readsEdge_24 : fetch tX4_readsEdge 24 = some (.bipush 8, 2, 0, 0, 8, 0) := rfl
set_option maxRecDepth 20000 in
theorem fX4_readsEdge_26 : fetch tX4_readsEdge 26 = some (.iload_n 1, 1, 1, 0, 0, 0) := rfl
set_option maxRecDepth 20000 in
theorem fX4_readsEdge_27 : fetch tX4_readsEdge 27 = some (.imul, 1, 0, 0, 0, 0) := rfl
set_option maxRecDepth 20000 in
theorem fX4_readsEdge_28 : fetch tX4_readsEdge 28 = some (.iload_n 3, 1, 3, 0, 0, 0) := rfl
set_option maxRecDepth 20000 in
theorem fX4_readsEdge_29 : fetch tX4_readsEdge 29 = some (.iadd, 1, 0, 0, 0, 0) := rfl
set_option maxRecDepth 20000 in
theorem fX4_readsEdge_30 : fetch tX4_readsEdge 30 = some (.baload, 1, 0, 0, 0, 0) := rfl
set_option maxRecDepth 20000 in
theorem fX4_readsEdge_31 : fetch tX4_readsEdge 31 = some (.ifCond .ne 12, 3, 43, 0, 0, 0) := rfl
set_option maxRecDepth 20000 in
theorem fX4_readsEdge_34 : fetch tX4_readsEdge 34 = some (.aload_n 0, 1, 0, 0, 0, 0) := rfl
set_option maxRecDepth 20000 in
theorem fX4_readsEdge_35 : fetch tX4_readsEdge 35 = some (.getfield 115, 3, 4, 10, 0, 0) := rfl
set_option maxRecDepth 20000 in
theorem fX4_readsEdge_38 : fetch tX4_readsEdge 38 = some (.bipush 12, 2, 0, 0, 12, 0) := rfl
set_option maxRecDepth 20000 in
theorem fX4_readsEdge_40 : fetch tX4_readsEdge 40 = some (.if_icmp .ge 7, 3, 47, 0, 0, 0) := rfl
set_option maxRecDepth 20000 in
theorem fX4_readsEdge_43 : fetch tX4_readsEdge 43 = some (.iconst 1, 1, 0, 0, 1, 0) := rfl
set_option maxRecDepth 20000 in
theorem fX4_readsEdge_44 : fetch tX4_readsEdge 44 = some (.goto 4, 3, 48, 0, 0, 0) := rfl
set_option maxRecDepth 20000 in
theorem fX4_readsEdge_47 : fetch tX4_readsEdge 47 = some (.iconst 0, 1, 0, 0, 0, 0) := rfl
set_option maxRecDepth 20000 in
theorem fX4_readsEdge_48 : fetch tX4_readsEdge 48 = some (.istore 4, 2, 4, 0, 0, 0) := rfl
set_option maxRecDepth 20000 in
theorem fX4_readsEdge_50 : fetch tX4_readsEdge 50 = some (.iload 4, 2, 4, 0, 0, 0) := rfl
set_option maxRecDepth 20000 in
theorem fX4_readsEdge_52 : fetch tX4_readsEdge 52 = some (.ifCond .ne 5, 3, 57, 0, 0, 0) := rfl
set_option maxRecDepth 20000 in
theorem fX4_readsEdge_55 : fetch tX4_readsEdge 55 = some (.iconst 0, 1, 0, 0, 0, 0) := rfl
set_option maxRecDepth 20000 in
theorem fX4_readsEdge_56 : fetch tX4_readsEdge 56 = some (.ireturn, 1, 0, 0, 0, 0) := rfl
set_option maxRecDepth 20000 in
theorem fX4_readsEdge_57 : fetch tX4_readsEdge 57 = some (.aload_n 0, 1, 0, 0, 0, 0) := rfl
set_option maxRecDepth 20000 in
theorem fX4_readsEdge_58 : fetch tX4_readsEdge 58 = some (.dup, 1, 0, 0, 0, 0) := rfl
set_option maxRecDepth 20000 in
theorem fX4_readsEdge_59 : fetch tX4_readsEdge 59 = some (.getfield 108, 3, 4, 8, 0, 0) := rfl
set_option maxRecDepth 20000 in
theorem fX4_readsEdge_62 : fetch tX4_readsEdge 62 = some (.iconst 1, 1, 0, 0, 1, 0) := rfl
set_option maxRecDepth 20000 in
theorem fX4_readsEdge_63 : fetch tX4_readsEdge 63 = some (.iadd, 1, 0, 0, 0, 0) := rfl
set_option maxRecDepth 20000 in
theorem fX4_readsEdge_64 : fetch tX4_readsEdge 64 = some (.putfield 108, 3, 4, 8, 0, 0) := rfl
set_option maxRecDepth 20000 in
theorem fX4_readsEdge_67 : fetch tX4_readsEdge 67 = some (.aload_n 0, 1, 0, 0, 0, 0) := rfl
set_option maxRecDepth 20000 in
theorem fX4_readsEdge_68 : fetch tX4_readsEdge 68 = some (.dup, 1, 0, 0, 0, 0) := rfl
set_option maxRecDepth 20000 in
theorem fX4_readsEdge_69 : fetch tX4_readsEdge 69 = some (.getfield 115, 3, 4, 10, 0, 0) := rfl
set_option maxRecDepth 20000 in
theorem fX4_readsEdge_72 : fetch tX4_readsEdge 72 = some (.aload_n 0, 1, 0, 0, 0, 0) := rfl
set_option maxRecDepth 20000 in
theorem fX4_readsEdge_73 : fetch tX4_readsEdge 73 = some (.getfield 27, 3, 4, 9, 0, 0) := rfl
set_option maxRecDepth 20000 in
theorem fX4_readsEdge_76 : fetch tX4_readsEdge 76 = some (.bipush 8, 2, 0, 0, 8, 0) := rfl
set_option maxRecDepth 20000 in
theorem fX4_readsEdge_78 : fetch tX4_readsEdge 78 = some (.iload_n 1, 1, 1, 0, 0, 0) := rfl
set_option maxRecDepth 20000 in
theorem fX4_readsEdge_79 : fetch tX4_readsEdge 79 = some (.imul, 1, 0, 0, 0, 0) := rfl
set_option maxRecDepth 20000 in
theorem fX4_readsEdge_80 : fetch tX4_readsEdge 80 = some (.iload_n 3, 1, 3, 0, 0, 0) := rfl
set_option maxRecDepth 20000 in
theorem fX4_readsEdge_81 : fetch tX4_readsEdge 81 = some (.iadd, 1, 0, 0, 0, 0) := rfl
set_option maxRecDepth 20000 in
theorem fX4_readsEdge_82 : fetch tX4_readsEdge 82 = some (.baload, 1, 0, 0, 0, 0) := rfl
set_option maxRecDepth 20000 in
theorem fX4_readsEdge_83 : fetch tX4_readsEdge 83 = some (.ifCond .eq 7, 3, 90, 0, 0, 0) := rfl
set_option maxRecDepth 20000 in
theorem fX4_readsEdge_86 : fetch tX4_readsEdge 86 = some (.iconst 0, 1, 0, 0, 0, 0) := rfl
set_option maxRecDepth 20000 in
theorem fX4_readsEdge_87 : fetch tX4_readsEdge 87 = some (.goto 4, 3, 91, 0, 0, 0) := rfl
set_option maxRecDepth 20000 in
theorem fX4_readsEdge_90 : fetch tX4_readsEdge 90 = some (.iconst 1, 1, 0, 0, 1, 0) := rfl
set_option maxRecDepth 20000 in
theorem fX4_readsEdge_91 : fetch tX4_readsEdge 91 = some (.iadd, 1, 0, 0, 0, 0) := rfl
set_option maxRecDepth 20000 in
theorem fX4_readsEdge_92 : fetch tX4_readsEdge 92 = some (.putfield 115, 3, 4, 10, 0, 0) := rfl
set_option maxRecDepth 20000 in
theorem fX4_readsEdge_95 : fetch tX4_readsEdge 95 = some (.aload_n 0, 1, 0, 0, 0, 0) := rfl
set_option maxRecDepth 20000 in
theorem fX4_readsEdge_96 : fetch tX4_readsEdge 96 = some (.getfield 27, 3, 4, 9, 0, 0) := rfl
set_option maxRecDepth 20000 in
theorem fX4_readsEdge_99 : fetch tX4_readsEdge 99 = some (.bipush 8, 2, 0, 0, 8, 0) := rfl
set_option maxRecDepth 20000 in
theorem fX4_readsEdge_101 : fetch tX4_readsEdge 101 = some (.iload_n 1, 1, 1, 0, 0, 0) := rfl
set_option maxRecDepth 20000 in
theorem fX4_readsEdge_102 : fetch tX4_readsEdge 102 = some (.imul, 1, 0, 0, 0, 0) := rfl
set_option maxRecDepth 20000 in
theorem fX4_readsEdge_103 : fetch tX4_readsEdge 103 = some (.iload_n 3, 1, 3, 0, 0, 0) := rfl
set_option maxRecDepth 20000 in
theorem fX4_readsEdge_104 : fetch tX4_readsEdge 104 = some (.iadd, 1, 0, 0, 0, 0) := rfl
set_option maxRecDepth 20000 in
theorem fX4_readsEdge_105 : fetch tX4_readsEdge 105 = some (.iconst 1, 1, 0, 0, 1, 0) := rfl
set_option maxRecDepth 20000 in
theorem fX4_readsEdge_106 : fetch tX4_readsEdge 106 = some (.bastore, 1, 0, 0, 0, 0) := rfl
set_option maxRecDepth 20000 in
theorem fX4_readsEdge_107 : fetch tX4_readsEdge 107 = some (.aload_n 0, 1, 0, 0, 0, 0) := rfl
set_option maxRecDepth 20000 in
theorem fX4_readsEdge_108 : fetch tX4_readsEdge 108 = some (.bipush 42, 2, 0, 0, 42, 0) := rfl
set_option maxRecDepth 20000 in
theorem fX4_readsEdge_110 : fetch tX4_readsEdge 110 = some (.invokevirtual 118, 3, 2, 4, 0, 0) := rfl
set_option maxRecDepth 20000 in
theorem fX4_readsEdge_113 : fetch tX4_readsEdge 113 = some (.ifCond .ne 5, 3, 118, 0, 0, 0) := rfl
set_option maxRecDepth 20000 in
theorem fX4_readsEdge_116 : fetch tX4_readsEdge 116 = some (.iconst 0, 1, 0, 0, 0, 0) := rfl
set_option maxRecDepth 20000 in
theorem fX4_readsEdge_117 : fetch tX4_readsEdge 117 = some (.ireturn, 1, 0, 0, 0, 0) := rfl
set_option maxRecDepth 20000 in
theorem fX4_readsEdge_118 : fetch tX4_readsEdge 118 = some (.aload_n 0, 1, 0, 0, 0, 0) := rfl
set_option maxRecDepth 20000 in
theorem fX4_readsEdge_119 : fetch tX4_readsEdge 119 = some (.iconst 0, 1, 0, 0, 0, 0) := rfl
set_option maxRecDepth 20000 in
theorem fX4_readsEdge_120 : fetch tX4_readsEdge 120 = some (.bipush 10, 2, 0, 0, 10, 0) := rfl
set_option maxRecDepth 20000 in
theorem fX4_readsEdge_122 : fetch tX4_readsEdge 122 = some (.invokevirtual 121, 3, 3, 4, 0, 0) := rfl
set_option maxRecDepth 20000 in
theorem fX4_readsEdge_125 : fetch tX4_readsEdge 125 = some (.istore 5, 2, 5, 0, 0, 0) := rfl
set_option maxRecDepth 20000 in
theorem fX4_readsEdge_127 : fetch tX4_readsEdge 127 = some (.iload 5, 2, 5, 0, 0, 0) := rfl
set_option maxRecDepth 20000 in
theorem fX4_readsEdge_129 : fetch tX4_readsEdge 129 = some (.iconst (-1), 1, 0, 0, (-1), 0) := rfl
set_option maxRecDepth 20000 in
theorem fX4_readsEdge_130 : fetch tX4_readsEdge 130 = some (.if_icmp .eq 12, 3, 142, 0, 0, 0) := rfl
set_option maxRecDepth 20000 in
theorem fX4_readsEdge_133 : fetch tX4_readsEdge 133 = some (.aload_n 0, 1, 0, 0, 0, 0) := rfl
set_option maxRecDepth 20000 in
theorem fX4_readsEdge_134 : fetch tX4_readsEdge 134 = some (.bipush 43, 2, 0, 0, 43, 0) := rfl
set_option maxRecDepth 20000 in
theorem fX4_readsEdge_136 : fetch tX4_readsEdge 136 = some (.invokevirtual 118, 3, 2, 4, 0, 0) := rfl
set_option maxRecDepth 20000 in
theorem fX4_readsEdge_139 : fetch tX4_readsEdge 139 = some (.ifCond .ne 5, 3, 144, 0, 0, 0) := rfl
set_option maxRecDepth 20000 in
theorem fX4_readsEdge_142 : fetch tX4_readsEdge 142 = some (.iconst 0, 1, 0, 0, 0, 0) := rfl
set_option maxRecDepth 20000 in
theorem fX4_readsEdge_143 : fetch tX4_readsEdge 143 = some (.ireturn, 1, 0, 0, 0, 0) := rfl
set_option maxRecDepth 20000 in
theorem fX4_readsEdge_144 : fetch tX4_readsEdge 144 = some (.aload_n 0, 1, 0, 0, 0, 0) := rfl
set_option maxRecDepth 20000 in
theorem fX4_readsEdge_145 : fetch tX4_readsEdge 145 = some (.iconst 1, 1, 0, 0, 1, 0) := rfl
set_option maxRecDepth 20000 in
theorem fX4_readsEdge_146 : fetch tX4_readsEdge 146 = some (.iconst 5, 1, 0, 0, 5, 0) := rfl
set_option maxRecDepth 20000 in
theorem fX4_readsEdge_147 : fetch tX4_readsEdge 147 = some (.invokevirtual 121, 3, 3, 4, 0, 0) := rfl
set_option maxRecDepth 20000 in
theorem fX4_readsEdge_150 : fetch tX4_readsEdge 150 = some (.istore 6, 2, 6, 0, 0, 0) := rfl
set_option maxRecDepth 20000 in
theorem fX4_readsEdge_152 : fetch tX4_readsEdge 152 = some (.iload 6, 2, 6, 0, 0, 0) := rfl
set_option maxRecDepth 20000 in
theorem fX4_readsEdge_154 : fetch tX4_readsEdge 154 = some (.iconst (-1), 1, 0, 0, (-1), 0) := rfl
set_option maxRecDepth 20000 in
theorem fX4_readsEdge_155 : fetch tX4_readsEdge 155 = some (.if_icmp .ne 5, 3, 160, 0, 0, 0) := rfl
set_option maxRecDepth 20000 in
theorem fX4_readsEdge_158 : fetch tX4_readsEdge 158 = some (.iconst 0, 1, 0, 0, 0, 0) := rfl
set_option maxRecDepth 20000 in
theorem fX4_readsEdge_159 : fetch tX4_readsEdge 159 = some (.ireturn, 1, 0, 0, 0, 0) := rfl
set_option maxRecDepth 20000 in
theorem fX4_readsEdge_160 : fetch tX4_readsEdge 160 = some (.iload_n 2, 1, 2, 0, 0, 0) := rfl
set_option maxRecDepth 20000 in
theorem fX4_readsEdge_161 : fetch tX4_readsEdge 161 = some (.ifCond .eq 58, 3, 219, 0, 0, 0) := rfl
set_option maxRecDepth 20000 in
theorem fX4_readsEdge_164 : fetch tX4_readsEdge 164 = some (.aload_n 0, 1, 0, 0, 0, 0) := rfl
set_option maxRecDepth 20000 in
theorem fX4_readsEdge_165 : fetch tX4_readsEdge 165 = some (.iload_n 1, 1, 1, 0, 0, 0) := rfl
set_option maxRecDepth 20000 in
theorem fX4_readsEdge_166 : fetch tX4_readsEdge 166 = some (.iload_n 3, 1, 3, 0, 0, 0) := rfl
set_option maxRecDepth 20000 in
theorem fX4_readsEdge_167 : fetch tX4_readsEdge 167 = some (.invokevirtual 54, 3, 4, 4, 0, 0) := rfl
set_option maxRecDepth 20000 in
theorem fX4_readsEdge_170 : fetch tX4_readsEdge 170 = some (.istore 7, 2, 7, 0, 0, 0) := rfl
set_option maxRecDepth 20000 in
theorem fX4_readsEdge_172 : fetch tX4_readsEdge 172 = some (.aload_n 0, 1, 0, 0, 0, 0) := rfl
set_option maxRecDepth 20000 in
theorem fX4_readsEdge_173 : fetch tX4_readsEdge 173 = some (.iload 7, 2, 7, 0, 0, 0) := rfl
set_option maxRecDepth 20000 in
theorem fX4_readsEdge_175 : fetch tX4_readsEdge 175 = some (.iconst (-1), 1, 0, 0, (-1), 0) := rfl
set_option maxRecDepth 20000 in
theorem fX4_readsEdge_176 : fetch tX4_readsEdge 176 = some (.if_icmp .ne 12, 3, 188, 0, 0, 0) := rfl
set_option maxRecDepth 20000 in
theorem fX4_readsEdge_179 : fetch tX4_readsEdge 179 = some (.aload_n 0, 1, 0, 0, 0, 0) := rfl
set_option maxRecDepth 20000 in
theorem fX4_readsEdge_180 : fetch tX4_readsEdge 180 = some (.getfield 7, 3, 4, 0, 0, 0) := rfl
set_option maxRecDepth 20000 in
theorem fX4_readsEdge_183 : fetch tX4_readsEdge 183 = some (.iconst 0, 1, 0, 0, 0, 0) := rfl
set_option maxRecDepth 20000 in
theorem fX4_readsEdge_184 : fetch tX4_readsEdge 184 = some (.iaload, 1, 0, 0, 0, 0) := rfl
set_option maxRecDepth 20000 in
theorem fX4_readsEdge_185 : fetch tX4_readsEdge 185 = some (.goto 5, 3, 190, 0, 0, 0) := rfl
set_option maxRecDepth 20000 in
theorem fX4_readsEdge_188 : fetch tX4_readsEdge 188 = some (.iload 7, 2, 7, 0, 0, 0) := rfl
set_option maxRecDepth 20000 in
theorem fX4_readsEdge_190 : fetch tX4_readsEdge 190 = some (.iload_n 1, 1, 1, 0, 0, 0) := rfl
set_option maxRecDepth 20000 in
theorem fX4_readsEdge_191 : fetch tX4_readsEdge 191 = some (.iload_n 3, 1, 3, 0, 0, 0) := rfl
set_option maxRecDepth 20000 in
theorem fX4_readsEdge_192 : fetch tX4_readsEdge 192 = some (.iload 5, 2, 5, 0, 0, 0) := rfl
set_option maxRecDepth 20000 in
theorem fX4_readsEdge_194 : fetch tX4_readsEdge 194 = some (.iload 6, 2, 6, 0, 0, 0) := rfl
set_option maxRecDepth 20000 in
theorem fX4_readsEdge_196 : fetch tX4_readsEdge 196 = some (.invokevirtual 60, 3, 5, 4, 0, 0) := rfl
set_option maxRecDepth 20000 in
theorem fX4_readsEdge_199 : fetch tX4_readsEdge 199 = some (.aload_n 0, 1, 0, 0, 0, 0) := rfl
set_option maxRecDepth 20000 in
theorem fX4_readsEdge_200 : fetch tX4_readsEdge 200 = some (.getfield 7, 3, 4, 0, 0, 0) := rfl
set_option maxRecDepth 20000 in
theorem fX4_readsEdge_203 : fetch tX4_readsEdge 203 = some (.iconst 0, 1, 0, 0, 0, 0) := rfl
set_option maxRecDepth 20000 in
theorem fX4_readsEdge_204 : fetch tX4_readsEdge 204 = some (.dup2, 1, 0, 0, 0, 0) := rfl
set_option maxRecDepth 20000 in
theorem fX4_readsEdge_205 : fetch tX4_readsEdge 205 = some (.iaload, 1, 0, 0, 0, 0) := rfl
set_option maxRecDepth 20000 in
theorem fX4_readsEdge_206 : fetch tX4_readsEdge 206 = some (.iload 7, 2, 7, 0, 0, 0) := rfl
set_option maxRecDepth 20000 in
theorem fX4_readsEdge_208 : fetch tX4_readsEdge 208 = some (.iconst (-1), 1, 0, 0, (-1), 0) := rfl
set_option maxRecDepth 20000 in
theorem fX4_readsEdge_209 : fetch tX4_readsEdge 209 = some (.if_icmp .ne 7, 3, 216, 0, 0, 0) := rfl
set_option maxRecDepth 20000 in
theorem fX4_readsEdge_212 : fetch tX4_readsEdge 212 = some (.iconst 1, 1, 0, 0, 1, 0) := rfl
set_option maxRecDepth 20000 in
theorem fX4_readsEdge_213 : fetch tX4_readsEdge 213 = some (.goto 4, 3, 217, 0, 0, 0) := rfl
set_option maxRecDepth 20000 in
theorem fX4_readsEdge_216 : fetch tX4_readsEdge 216 = some (.iconst 0, 1, 0, 0, 0, 0) := rfl
set_option maxRecDepth 20000 in
theorem fX4_readsEdge_217 : fetch tX4_readsEdge 217 = some (.iadd, 1, 0, 0, 0, 0) := rfl
set_option maxRecDepth 20000 in
theorem fX4_readsEdge_218 : fetch tX4_readsEdge 218 = some (.iastore, 1, 0, 0, 0, 0) := rfl
set_option maxRecDepth 20000 in
theorem fX4_readsEdge_219 : fetch tX4_readsEdge 219 = some (.iconst 1, 1, 0, 0, 1, 0) := rfl
set_option maxRecDepth 20000 in
theorem fX4_readsEdge_220 : fetch tX4_readsEdge 220 = some (.ireturn, 1, 0, 0, 0, 0) := rfl
def tX4_readsItem : List (Nat × TE) := [(0, .aload_n 0, 1, 0, 0, 0, 0), (1, .invokevirtual 111, 3, 0, 4, 0, 0), (4, .bipush 48, 2, 0, 0, 48, 0), (6, .isub, 1, 0, 0, 0, 0), (7, .istore_n 2, 1, 2, 0, 0, 0), (8, .iload_n 2, 1, 2, 0, 0, 0), (9, .invokestatic 50, 3, 1, 4, 0, 0), (12, .ifCond .ne 5, 3, 17, 0, 0, 0), (15, .iconst 0, 1, 0, 0, 0, 0), (16, .ireturn, 1, 0, 0, 0, 0), (17, .aload_n 0, 1, 0, 0, 0, 0), (18, .dup, 1, 0, 0, 0, 0), (19, .getfield 108, 3, 4, 8, 0, 0), (22, .iconst 1, 1, 0, 0, 1, 0), (23, .iadd, 1, 0, 0, 0, 0), (24, .putfield 108, 3, 4, 8, 0, 0), (27, .aload_n 0, 1, 0, 0, 0, 0), (28, .bipush 62, 2, 0, 0, 62, 0), (30, .invokevirtual 118, 3, 2, 4, 0, 0), (33, .ifCond .eq 10, 3, 43, 0, 0, 0), (36, .aload_n 0, 1, 0, 0, 0, 0), (37, .iload_n 2, 1, 2, 0, 0, 0), (38, .iload_n 1, 1, 1, 0, 0, 0), (39, .invokevirtual 124, 3, 3, 4, 0, 0), (42, .ireturn, 1, 0, 0, 0, 0), (43, .aload_n 0, 1, 0, 0, 0, 0), (44, .bipush 61, 2, 0, 0, 61, 0), (46, .invokevirtual 118, 3, 2, 4, 0, 0), (49, .ifCond .ne 5, 3, 54, 0, 0, 0), (52, .iconst 0, 1, 0, 0, 0, 0), (53, .ireturn, 1, 0, 0, 0, 0), (54, .aload_n 0, 1, 0, 0, 0, 0), (55, .bipush 45, 2, 0, 0, 45, 0), (57, .invokevirtual 118, 3, 2, 4, 0, 0), (60, .istore_n 3, 1, 3, 0, 0, 0), (61, .iload_n 3, 1, 3, 0, 0, 0), (62, .ifCond .eq 7, 3, 69, 0, 0, 0), (65, .iconst (-1), 1, 0, 0, (-1), 0), (66, .goto 10, 3, 76, 0, 0, 0), (69, .aload_n 0, 1, 0, 0, 0, 0), (70, .iconst 0, 1, 0, 0, 0, 0), (71, .bipush 30, 2, 0, 0, 30, 0), (73, .invokevirtual 121, 3, 4, 4, 0, 0), (76, .istore 4, 2, 4, 0, 0, 0), (78, .iload_n 3, 1, 3, 0, 0, 0), (79, .ifCond .ne 11, 3, 90, 0, 0, 0), (82, .iload 4, 2, 4, 0, 0, 0), (84, .iconst (-1), 1, 0, 0, (-1), 0), (85, .if_icmp .ne 5, 3, 90, 0, 0, 0), (88, .iconst 0, 1, 0, 0, 0, 0), (89, .ireturn, 1, 0, 0, 0, 0), (90, .aload_n 0, 1, 0, 0, 0, 0), (91, .getfield 7, 3, 4, 0, 0, 0), (94, .bipush 51, 2, 0, 0, 51, 0), (96, .iload_n 2, 1, 2, 0, 0, 0), (97, .iadd, 1, 0, 0, 0, 0), (98, .iload_n 1, 1, 1, 0, 0, 0), (99, .ifCond .eq 8, 3, 107, 0, 0, 0), (102, .iload 4, 2, 4, 0, 0, 0), (104, .goto 12, 3, 116, 0, 0, 0), (107, .aload_n 0, 1, 0, 0, 0, 0), (108, .getfield 7, 3, 4, 0, 0, 0), (111, .bipush 51, 2, 0, 0, 51, 0), (113, .iload_n 2, 1, 2, 0, 0, 0), (114, .iadd, 1, 0, 0, 0, 0), (115, .iaload, 1, 0, 0, 0, 0), (116, .iastore, 1, 0, 0, 0, 0), (117, .iconst 1, 1, 0, 0, 1, 0), (118, .ireturn, 1, 0, 0, 0, 0)]
theorem tkX4_readsItem : tOk cX4_readsItem "RumourSourceModel" 5 tX4_readsItem = true := by decide +kernel
theorem fX4_readsItem_0 : fetch tX4_readsItem 0 = some (.aload_n 0, 1, 0, 0, 0, 0) := rfl
theorem fX4_readsItem_1 : fetch tX4_readsItem 1 = some (.invokevirtual 111, 3, 0, 4, 0, 0) := rfl
theorem fX4_readsItem_4 : fetch tX4_readsItem 4 = some (.bipush 48, 2, 0, 0, 48, 0) := rfl
theorem fX4_readsItem_6 : fetch tX4_readsItem 6 = some (.isub, 1, 0, 0, 0, 0) := rfl
theorem fX4_readsItem_7 : fetch tX4_readsItem 7 = some (.istore_n 2, 1, 2, 0, 0, 0) := rfl
theorem fX4_readsItem_8 : fetch tX4_readsItem 8 = some (.iload_n 2, 1, 2, 0, 0, 0) := rfl
theorem fX4_readsItem_9 : fetch tX4_readsItem 9 = some (.invokestatic 50, 3, 1, 4, 0, 0) := rfl
theorem fX4_readsItem_12 : fetch tX4_readsItem 12 = some (.ifCond .ne 5, 3, 17, 0, 0, 0) := rfl
theorem fX4_readsItem_15 : fetch tX4_readsItem 15 = some (.iconst 0, 1, 0, 0, 0, 0) := rfl
theorem fX4_readsItem_16 : fetch tX4_readsItem 16 = some (.ireturn, 1, 0, 0, 0, 0) := rfl
theorem fX4_readsItem_17 : fetch tX4_readsItem 17 = some (.aload_n 0, 1, 0, 0, 0, 0) := rfl
theorem fX4_readsItem_18 : fetch tX4_readsItem 18 = some (.dup, 1, 0, 0, 0, 0) := rfl
theorem fX4_readsItem_19 : fetch tX4_readsItem 19 = some (.getfield 108, 3, 4, 8, 0, 0) := rfl
theorem fX4_readsItem_22 : fetch tX4_readsItem 22 = some (.iconst 1, 1, 0, 0, 1, 0) := rfl
theorem fX4_readsItem_23 : fetch tX4_readsItem 23 = some (.iadd, 1, 0, 0, 0, 0) := rfl
theorem fX4_readsItem_24 : fetch tX4_readsItem 24 = some (.putfield 108, 3, 4, 8, 0, 0) := rfl
theorem fX4_readsItem_27 : fetch tX4_readsItem 27 = some (.aload_n 0, 1, 0, 0, 0, 0) := rfl
theorem fX4_readsItem_28 : fetch tX4_readsItem 28 = some (.bipush 62, 2, 0, 0, 62, 0) := rfl
theorem fX4_readsItem_30 : fetch tX4_readsItem 30 = some (.invokevirtual 118, 3, 2, 4, 0, 0) := rfl
theorem fX4_readsItem_33 : fetch tX4_readsItem 33 = some (.ifCond .eq 10, 3, 43, 0, 0, 0) := rfl
theorem fX4_readsItem_36 : fetch tX4_readsItem 36 = some (.aload_n 0, 1, 0, 0, 0, 0) := rfl
theorem fX4_readsItem_37 : fetch tX4_readsItem 37 = some (.iload_n 2, 1, 2, 0, 0, 0) := rfl
theorem fX4_readsItem_38 : fetch tX4_readsItem 38 = some (.iload_n 1, 1, 1, 0, 0, 0) := rfl
theorem fX4_readsItem_39 : fetch tX4_readsItem 39 = some (.invokevirtual 124, 3, 3, 4, 0, 0) := rfl
theorem fX4_readsItem_42 : fetch tX4_readsItem 42 = some (.ireturn, 1, 0, 0, 0, 0) := rfl
theorem fX4_readsItem_43 : fetch tX4_readsItem 43 = some (.aload_n 0, 1, 0, 0, 0, 0) := rfl
theorem fX4_readsItem_44 : fetch tX4_readsItem 44 = some (.bipush 61, 2, 0, 0, 61, 0) := rfl
theorem fX4_readsItem_46 : fetch tX4_readsItem 46 = some (.invokevirtual 118, 3, 2, 4, 0, 0) := rfl
theorem fX4_readsItem_49 : fetch tX4_readsItem 49 = some (.ifCond .ne 5, 3, 54, 0, 0, 0) := rfl
theorem fX4_readsItem_52 : fetch tX4_readsItem 52 = some (.iconst 0, 1, 0, 0, 0, 0) := rfl
theorem fX4_readsItem_53 : fetch tX4_readsItem 53 = some (.ireturn, 1, 0, 0, 0, 0) := rfl
theorem fX4_readsItem_54 : fetch tX4_readsItem 54 = some (.aload_n 0, 1, 0, 0, 0, 0) := rfl
theorem fX4_readsItem_55 : fetch tX4_readsItem 55 = some (.bipush 45, 2, 0, 0, 45, 0) := rfl
theorem fX4_readsItem_57 : fetch tX4_readsItem 57 = some (.invokevirtual 118, 3, 2, 4, 0, 0) := rfl
theorem fX4_readsItem_60 : fetch tX4_readsItem 60 = some (.istore_n 3, 1, 3, 0, 0, 0) := rfl
theorem fX4_readsItem_61 : fetch tX4_readsItem 61 = some (.iload_n 3, 1, 3, 0, 0, 0) := rfl
theorem fX4_readsItem_62 : fetch tX4_readsItem 62 = some (.ifCond .eq 7, 3, 69, 0, 0, 0) := rfl
theorem fX4_readsItem_65 : fetch tX4_readsItem 65 = some (.iconst (-1), 1, 0, 0, (-1), 0) := rfl
theorem fX4_readsItem_66 : fetch tX4_readsItem 66 = some (.goto 10, 3, 76, 0, 0, 0) := rfl
theorem fX4_readsItem_69 : fetch tX4_readsItem 69 = some (.aload_n 0, 1, 0, 0, 0, 0) := rfl
theorem fX4_readsItem_70 : fetch tX4_readsItem 70 = some (.iconst 0, 1, 0, 0, 0, 0) := rfl
theorem fX4_readsItem_71 : fetch tX4_readsItem 71 = some (.bipush 30, 2, 0, 0, 30, 0) := rfl
theorem fX4_readsItem_73 : fetch tX4_readsItem 73 = some (.invokevirtual 121, 3, 4, 4, 0, 0) := rfl
theorem fX4_readsItem_76 : fetch tX4_readsItem 76 = some (.istore 4, 2, 4, 0, 0, 0) := rfl
theorem fX4_readsItem_78 : fetch tX4_readsItem 78 = some (.iload_n 3, 1, 3, 0, 0, 0) := rfl
theorem fX4_readsItem_79 : fetch tX4_readsItem 79 = some (.ifCond .ne 11, 3, 90, 0, 0, 0) := rfl
theorem fX4_readsItem_82 : fetch tX4_readsItem 82 = some (.iload 4, 2, 4, 0, 0, 0) := rfl
theorem fX4_readsItem_84 : fetch tX4_readsItem 84 = some (.iconst (-1), 1, 0, 0, (-1), 0) := rfl
theorem fX4_readsItem_85 : fetch tX4_readsItem 85 = some (.if_icmp .ne 5, 3, 90, 0, 0, 0) := rfl
theorem fX4_readsItem_88 : fetch tX4_readsItem 88 = some (.iconst 0, 1, 0, 0, 0, 0) := rfl
theorem fX4_readsItem_89 : fetch tX4_readsItem 89 = some (.ireturn, 1, 0, 0, 0, 0) := rfl
theorem fX4_readsItem_90 : fetch tX4_readsItem 90 = some (.aload_n 0, 1, 0, 0, 0, 0) := rfl
theorem fX4_readsItem_91 : fetch tX4_readsItem 91 = some (.getfield 7, 3, 4, 0, 0, 0) := rfl
theorem fX4_readsItem_94 : fetch tX4_readsItem 94 = some (.bipush 51, 2, 0, 0, 51, 0) := rfl
theorem fX4_readsItem_96 : fetch tX4_readsItem 96 = some (.iload_n 2, 1, 2, 0, 0, 0) := rfl
theorem fX4_readsItem_97 : fetch tX4_readsItem 97 = some (.iadd, 1, 0, 0, 0, 0) := rfl
theorem fX4_readsItem_98 : fetch tX4_readsItem 98 = some (.iload_n 1, 1, 1, 0, 0, 0) := rfl
theorem fX4_readsItem_99 : fetch tX4_readsItem 99 = some (.ifCond .eq 8, 3, 107, 0, 0, 0) := rfl
theorem fX4_readsItem_102 : fetch tX4_readsItem 102 = some (.iload 4, 2, 4, 0, 0, 0) := rfl
theorem fX4_readsItem_104 : fetch tX4_readsItem 104 = some (.goto 12, 3, 116, 0, 0, 0) := rfl
theorem fX4_readsItem_107 : fetch tX4_readsItem 107 = some (.aload_n 0, 1, 0, 0, 0, 0) := rfl
theorem fX4_readsItem_108 : fetch tX4_readsItem 108 = some (.getfield 7, 3, 4, 0, 0, 0) := rfl
theorem fX4_readsItem_111 : fetch tX4_readsItem 111 = some (.bipush 51, 2, 0, 0, 51, 0) := rfl
theorem fX4_readsItem_113 : fetch tX4_readsItem 113 = some (.iload_n 2, 1, 2, 0, 0, 0) := rfl
theorem fX4_readsItem_114 : fetch tX4_readsItem 114 = some (.iadd, 1, 0, 0, 0, 0) := rfl
theorem fX4_readsItem_115 : fetch tX4_readsItem 115 = some (.iaload, 1, 0, 0, 0, 0) := rfl
theorem fX4_readsItem_116 : fetch tX4_readsItem 116 = some (.iastore, 1, 0, 0, 0, 0) := rfl
theorem fX4_readsItem_117 : fetch tX4_readsItem 117 = some (.iconst 1, 1, 0, 0, 1, 0) := rfl
theorem fX4_readsItem_118 : fetch tX4_readsItem 118 = some (.ireturn, 1, 0, 0, 0, 0) := rfl
def tX4_readsAll : List (Nat × TE) := [(0, .aload_n 0, 1, 0, 0, 0, 0), (1, .iconst 0, 1, 0, 0, 0, 0), (2, .putfield 108, 3, 4, 8, 0, 0), (5, .aload_n 0, 1, 0, 0, 0, 0), (6, .aload_n 0, 1, 0, 0, 0, 0), (7, .getfield 7, 3, 4, 0, 0, 0), (10, .iconst 0, 1, 0, 0, 0, 0), (11, .iaload, 1, 0, 0, 0, 0), (12, .putfield 115, 3, 4, 10, 0, 0), (15, .iconst 0, 1, 0, 0, 0, 0), (16, .istore_n 2, 1, 2, 0, 0, 0), (17, .iload_n 2, 1, 2, 0, 0, 0), (18, .bipush 64, 2, 0, 0, 64, 0), (20, .if_icmp .ge 36, 3, 56, 0, 0, 0), (23, .aload_n 0, 1, 0, 0, 0, 0), (24, .getfield 27, 3, 4, 9, 0, 0), (27, .iload_n 2, 1, 2, 0, 0, 0), (28, .aload_n 0, 1, 0, 0, 0, 0), (29, .iload_n 2, 1, 2, 0, 0, 0), (30, .bipush 8, 2, 0, 0, 8, 0), (32, .idiv, 1, 0, 0, 0, 0), (33, .iload_n 2, 1, 2, 0, 0, 0), (34, .bipush 8, 2, 0, 0, 8, 0), (36, .irem, 1, 0, 0, 0, 0), (37, .invokevirtual 54, 3, 0, 4, 0, 0), (40, .iconst (-1), 1, 0, 0, (-1), 0), (41, .if_icmp .eq 7, 3, 48, 0, 0, 0), (44, .iconst 1, 1, 0, 0, 1, 0), (45, .goto 4, 3, 49, 0, 0, 0), (48, .iconst 0, 1, 0, 0, 0, 0), (49, .bastore, 1, 0, 0, 0, 0), (50, .iinc 2 1, 3, 2, 0, 1, 0), (53, .goto (-36), 3, 17, 0, 0, 0), (56, .aload_n 0, 1, 0, 0, 0, 0), (57, .iload_n 1, 1, 1, 0, 0, 0), (58, .invokevirtual 128, 3, 1, 4, 0, 0), (61, .istore_n 2, 1, 2, 0, 0, 0), (62, .aload_n 0, 1, 0, 0, 0, 0), (63, .invokevirtual 111, 3, 2, 4, 0, 0), (66, .istore_n 3, 1, 3, 0, 0, 0), (67, .iload_n 2, 1, 2, 0, 0, 0), (68, .ifCond .eq 39, 3, 107, 0, 0, 0), (71, .iload_n 3, 1, 3, 0, 0, 0), (72, .iconst (-1), 1, 0, 0, (-1), 0), (73, .if_icmp .eq 34, 3, 107, 0, 0, 0), (76, .aload_n 0, 1, 0, 0, 0, 0), (77, .bipush 59, 2, 0, 0, 59, 0), (79, .invokevirtual 118, 3, 3, 4, 0, 0), (82, .ifCond .eq 15, 3, 97, 0, 0, 0), (85, .aload_n 0, 1, 0, 0, 0, 0), (86, .iload_n 1, 1, 1, 0, 0, 0), (87, .invokevirtual 128, 3, 1, 4, 0, 0), (90, .ifCond .eq 7, 3, 97, 0, 0, 0), (93, .iconst 1, 1, 0, 0, 1, 0), (94, .goto 4, 3, 98, 0, 0, 0), (97, .iconst 0, 1, 0, 0, 0, 0), (98, .istore_n 2, 1, 2, 0, 0, 0), (99, .aload_n 0, 1, 0, 0, 0, 0), (100, .invokevirtual 111, 3, 2, 4, 0, 0), (103, .istore_n 3, 1, 3, 0, 0, 0), (104, .goto (-37), 3, 67, 0, 0, 0), (107, .iload_n 2, 1, 2, 0, 0, 0), (108, .ireturn, 1, 0, 0, 0, 0)]
theorem tkX4_readsAll : tOk cX4_readsAll "RumourSourceModel" 4 tX4_readsAll = true := by decide +kernel
theorem fX4_readsAll_0 : fetch tX4_readsAll 0 = some (.aload_n 0, 1, 0, 0, 0, 0) := rfl
theorem fX4_readsAll_1 : fetch tX4_readsAll 1 = some (.iconst 0, 1, 0, 0, 0, 0) := rfl
theorem fX4_readsAll_2 : fetch tX4_readsAll 2 = some (.putfield 108, 3, 4, 8, 0, 0) := rfl
theorem fX4_readsAll_5 : fetch tX4_readsAll 5 = some (.aload_n 0, 1, 0, 0, 0, 0) := rfl
theorem fX4_readsAll_6 : fetch tX4_readsAll 6 = some (.aload_n 0, 1, 0, 0, 0, 0) := rfl
theorem fX4_readsAll_7 : fetch tX4_readsAll 7 = some (.getfield 7, 3, 4, 0, 0, 0) := rfl
theorem fX4_readsAll_10 : fetch tX4_readsAll 10 = some (.iconst 0, 1, 0, 0, 0, 0) := rfl
theorem fX4_readsAll_11 : fetch tX4_readsAll 11 = some (.iaload, 1, 0, 0, 0, 0) := rfl
theorem fX4_readsAll_12 : fetch tX4_readsAll 12 = some (.putfield 115, 3, 4, 10, 0, 0) := rfl
theorem fX4_readsAll_15 : fetch tX4_readsAll 15 = some (.iconst 0, 1, 0, 0, 0, 0) := rfl
theorem fX4_readsAll_16 : fetch tX4_readsAll 16 = some (.istore_n 2, 1, 2, 0, 0, 0) := rfl
theorem fX4_readsAll_17 : fetch tX4_readsAll 17 = some (.iload_n 2, 1, 2, 0, 0, 0) := rfl
theorem fX4_readsAll_18 : fetch tX4_readsAll 18 = some (.bipush 64, 2, 0, 0, 64, 0) := rfl
theorem fX4_readsAll_20 : fetch tX4_readsAll 20 = some (.if_icmp .ge 36, 3, 56, 0, 0, 0) := rfl
theorem fX4_readsAll_23 : fetch tX4_readsAll 23 = some (.aload_n 0, 1, 0, 0, 0, 0) := rfl
theorem fX4_readsAll_24 : fetch tX4_readsAll 24 = some (.getfield 27, 3, 4, 9, 0, 0) := rfl
theorem fX4_readsAll_27 : fetch tX4_readsAll 27 = some (.iload_n 2, 1, 2, 0, 0, 0) := rfl
theorem fX4_readsAll_28 : fetch tX4_readsAll 28 = some (.aload_n 0, 1, 0, 0, 0, 0) := rfl
theorem fX4_readsAll_29 : fetch tX4_readsAll 29 = some (.iload_n 2, 1, 2, 0, 0, 0) := rfl
theorem fX4_readsAll_30 : fetch tX4_readsAll 30 = some (.bipush 8, 2, 0, 0, 8, 0) := rfl
theorem fX4_readsAll_32 : fetch tX4_readsAll 32 = some (.idiv, 1, 0, 0, 0, 0) := rfl
theorem fX4_readsAll_33 : fetch tX4_readsAll 33 = some (.iload_n 2, 1, 2, 0, 0, 0) := rfl
theorem fX4_readsAll_34 : fetch tX4_readsAll 34 = some (.bipush 8, 2, 0, 0, 8, 0) := rfl
theorem fX4_readsAll_36 : fetch tX4_readsAll 36 = some (.irem, 1, 0, 0, 0, 0) := rfl
theorem fX4_readsAll_37 : fetch tX4_readsAll 37 = some (.invokevirtual 54, 3, 0, 4, 0, 0) := rfl
theorem fX4_readsAll_40 : fetch tX4_readsAll 40 = some (.iconst (-1), 1, 0, 0, (-1), 0) := rfl
theorem fX4_readsAll_41 : fetch tX4_readsAll 41 = some (.if_icmp .eq 7, 3, 48, 0, 0, 0) := rfl
theorem fX4_readsAll_44 : fetch tX4_readsAll 44 = some (.iconst 1, 1, 0, 0, 1, 0) := rfl
theorem fX4_readsAll_45 : fetch tX4_readsAll 45 = some (.goto 4, 3, 49, 0, 0, 0) := rfl
theorem fX4_readsAll_48 : fetch tX4_readsAll 48 = some (.iconst 0, 1, 0, 0, 0, 0) := rfl
theorem fX4_readsAll_49 : fetch tX4_readsAll 49 = some (.bastore, 1, 0, 0, 0, 0) := rfl
theorem fX4_readsAll_50 : fetch tX4_readsAll 50 = some (.iinc 2 1, 3, 2, 0, 1, 0) := rfl
theorem fX4_readsAll_53 : fetch tX4_readsAll 53 = some (.goto (-36), 3, 17, 0, 0, 0) := rfl
theorem fX4_readsAll_56 : fetch tX4_readsAll 56 = some (.aload_n 0, 1, 0, 0, 0, 0) := rfl
theorem fX4_readsAll_57 : fetch tX4_readsAll 57 = some (.iload_n 1, 1, 1, 0, 0, 0) := rfl
theorem fX4_readsAll_58 : fetch tX4_readsAll 58 = some (.invokevirtual 128, 3, 1, 4, 0, 0) := rfl
theorem fX4_readsAll_61 : fetch tX4_readsAll 61 = some (.istore_n 2, 1, 2, 0, 0, 0) := rfl
theorem fX4_readsAll_62 : fetch tX4_readsAll 62 = some (.aload_n 0, 1, 0, 0, 0, 0) := rfl
theorem fX4_readsAll_63 : fetch tX4_readsAll 63 = some (.invokevirtual 111, 3, 2, 4, 0, 0) := rfl
theorem fX4_readsAll_66 : fetch tX4_readsAll 66 = some (.istore_n 3, 1, 3, 0, 0, 0) := rfl
theorem fX4_readsAll_67 : fetch tX4_readsAll 67 = some (.iload_n 2, 1, 2, 0, 0, 0) := rfl
theorem fX4_readsAll_68 : fetch tX4_readsAll 68 = some (.ifCond .eq 39, 3, 107, 0, 0, 0) := rfl
theorem fX4_readsAll_71 : fetch tX4_readsAll 71 = some (.iload_n 3, 1, 3, 0, 0, 0) := rfl
theorem fX4_readsAll_72 : fetch tX4_readsAll 72 = some (.iconst (-1), 1, 0, 0, (-1), 0) := rfl
theorem fX4_readsAll_73 : fetch tX4_readsAll 73 = some (.if_icmp .eq 34, 3, 107, 0, 0, 0) := rfl
theorem fX4_readsAll_76 : fetch tX4_readsAll 76 = some (.aload_n 0, 1, 0, 0, 0, 0) := rfl
theorem fX4_readsAll_77 : fetch tX4_readsAll 77 = some (.bipush 59, 2, 0, 0, 59, 0) := rfl
theorem fX4_readsAll_79 : fetch tX4_readsAll 79 = some (.invokevirtual 118, 3, 3, 4, 0, 0) := rfl
theorem fX4_readsAll_82 : fetch tX4_readsAll 82 = some (.ifCond .eq 15, 3, 97, 0, 0, 0) := rfl
theorem fX4_readsAll_85 : fetch tX4_readsAll 85 = some (.aload_n 0, 1, 0, 0, 0, 0) := rfl
theorem fX4_readsAll_86 : fetch tX4_readsAll 86 = some (.iload_n 1, 1, 1, 0, 0, 0) := rfl
theorem fX4_readsAll_87 : fetch tX4_readsAll 87 = some (.invokevirtual 128, 3, 1, 4, 0, 0) := rfl
theorem fX4_readsAll_90 : fetch tX4_readsAll 90 = some (.ifCond .eq 7, 3, 97, 0, 0, 0) := rfl
theorem fX4_readsAll_93 : fetch tX4_readsAll 93 = some (.iconst 1, 1, 0, 0, 1, 0) := rfl
theorem fX4_readsAll_94 : fetch tX4_readsAll 94 = some (.goto 4, 3, 98, 0, 0, 0) := rfl
theorem fX4_readsAll_97 : fetch tX4_readsAll 97 = some (.iconst 0, 1, 0, 0, 0, 0) := rfl
theorem fX4_readsAll_98 : fetch tX4_readsAll 98 = some (.istore_n 2, 1, 2, 0, 0, 0) := rfl
theorem fX4_readsAll_99 : fetch tX4_readsAll 99 = some (.aload_n 0, 1, 0, 0, 0, 0) := rfl
theorem fX4_readsAll_100 : fetch tX4_readsAll 100 = some (.invokevirtual 111, 3, 2, 4, 0, 0) := rfl
theorem fX4_readsAll_103 : fetch tX4_readsAll 103 = some (.istore_n 3, 1, 3, 0, 0, 0) := rfl
theorem fX4_readsAll_104 : fetch tX4_readsAll 104 = some (.goto (-37), 3, 67, 0, 0, 0) := rfl
theorem fX4_readsAll_107 : fetch tX4_readsAll 107 = some (.iload_n 2, 1, 2, 0, 0, 0) := rfl
theorem fX4_readsAll_108 : fetch tX4_readsAll 108 = some (.ireturn, 1, 0, 0, 0, 0) := rfl
def tX4_textFault : List (Nat × TE) := [(0, .aload_n 0, 1, 0, 0, 0, 0), (1, .iconst 0, 1, 0, 0, 0, 0), (2, .invokevirtual 132, 3, 0, 4, 0, 0), (5, .ifCond .eq 7, 3, 12, 0, 0, 0), (8, .iconst (-1), 1, 0, 0, (-1), 0), (9, .goto 7, 3, 16, 0, 0, 0), (12, .aload_n 0, 1, 0, 0, 0, 0), (13, .getfield 108, 3, 4, 8, 0, 0), (16, .ireturn, 1, 0, 0, 0, 0)]
theorem tkX4_textFault : tOk cX4_textFault "RumourSourceModel" 1 tX4_textFault = true := by decide +kernel
theorem fX4_textFault_0 : fetch tX4_textFault 0 = some (.aload_n 0, 1, 0, 0, 0, 0) := rfl
theorem fX4_textFault_1 : fetch tX4_textFault 1 = some (.iconst 0, 1, 0, 0, 0, 0) := rfl
theorem fX4_textFault_2 : fetch tX4_textFault 2 = some (.invokevirtual 132, 3, 0, 4, 0, 0) := rfl
theorem fX4_textFault_5 : fetch tX4_textFault 5 = some (.ifCond .eq 7, 3, 12, 0, 0, 0) := rfl
theorem fX4_textFault_8 : fetch tX4_textFault 8 = some (.iconst (-1), 1, 0, 0, (-1), 0) := rfl
theorem fX4_textFault_9 : fetch tX4_textFault 9 = some (.goto 7, 3, 16, 0, 0, 0) := rfl
theorem fX4_textFault_12 : fetch tX4_textFault 12 = some (.aload_n 0, 1, 0, 0, 0, 0) := rfl
theorem fX4_textFault_13 : fetch tX4_textFault 13 = some (.getfield 108, 3, 4, 8, 0, 0) := rfl
theorem fX4_textFault_16 : fetch tX4_textFault 16 = some (.ireturn, 1, 0, 0, 0, 0) := rfl
def tX4_load : List (Nat × TE) := [(0, .aload_n 0, 1, 0, 0, 0, 0), (1, .iconst 0, 1, 0, 0, 0, 0), (2, .invokevirtual 132, 3, 0, 4, 0, 0), (5, .ifCond .ne 6, 3, 11, 0, 0, 0), (8, .bipush (-4), 2, 0, 0, (-4), 0), (10, .ireturn, 1, 0, 0, 0, 0), (11, .aload_n 0, 1, 0, 0, 0, 0), (12, .invokevirtual 57, 3, 1, 4, 0, 0), (15, .aload_n 0, 1, 0, 0, 0, 0), (16, .iconst 1, 1, 0, 0, 1, 0), (17, .invokevirtual 132, 3, 0, 4, 0, 0), (20, .istore_n 1, 1, 1, 0, 0, 0), (21, .aload_n 0, 1, 0, 0, 0, 0), (22, .getfield 7, 3, 4, 0, 0, 0), (25, .iconst 0, 1, 0, 0, 0, 0), (26, .iaload, 1, 0, 0, 0, 0), (27, .ireturn, 1, 0, 0, 0, 0)]
theorem tkX4_load : tOk cX4_load "RumourSourceModel" 2 tX4_load = true := by decide +kernel
theorem fX4_load_0 : fetch tX4_load 0 = some (.aload_n 0, 1, 0, 0, 0, 0) := rfl
theorem fX4_load_1 : fetch tX4_load 1 = some (.iconst 0, 1, 0, 0, 0, 0) := rfl
theorem fX4_load_2 : fetch tX4_load 2 = some (.invokevirtual 132, 3, 0, 4, 0, 0) := rfl
theorem fX4_load_5 : fetch tX4_load 5 = some (.ifCond .ne 6, 3, 11, 0, 0, 0) := rfl
theorem fX4_load_8 : fetch tX4_load 8 = some (.bipush (-4), 2, 0, 0, (-4), 0) := rfl
theorem fX4_load_10 : fetch tX4_load 10 = some (.ireturn, 1, 0, 0, 0, 0) := rfl
theorem fX4_load_11 : fetch tX4_load 11 = some (.aload_n 0, 1, 0, 0, 0, 0) := rfl
theorem fX4_load_12 : fetch tX4_load 12 = some (.invokevirtual 57, 3, 1, 4, 0, 0) := rfl
theorem fX4_load_15 : fetch tX4_load 15 = some (.aload_n 0, 1, 0, 0, 0, 0) := rfl
theorem fX4_load_16 : fetch tX4_load 16 = some (.iconst 1, 1, 0, 0, 1, 0) := rfl
theorem fX4_load_17 : fetch tX4_load 17 = some (.invokevirtual 132, 3, 0, 4, 0, 0) := rfl
theorem fX4_load_20 : fetch tX4_load 20 = some (.istore_n 1, 1, 1, 0, 0, 0) := rfl
theorem fX4_load_21 : fetch tX4_load 21 = some (.aload_n 0, 1, 0, 0, 0, 0) := rfl
theorem fX4_load_22 : fetch tX4_load 22 = some (.getfield 7, 3, 4, 0, 0, 0) := rfl
theorem fX4_load_25 : fetch tX4_load 25 = some (.iconst 0, 1, 0, 0, 0, 0) := rfl
theorem fX4_load_26 : fetch tX4_load 26 = some (.iaload, 1, 0, 0, 0, 0) := rfl
theorem fX4_load_27 : fetch tX4_load 27 = some (.ireturn, 1, 0, 0, 0, 0) := rfl
def tX4_note : List (Nat × TE) := [(0, .aload_n 0, 1, 0, 0, 0, 0), (1, .ldc2_w 135, 3, 0, 0, 0, 31), (4, .aload_n 0, 1, 0, 0, 0, 0), (5, .getfield 137, 3, 4, 11, 0, 0), (8, .lmul, 1, 0, 0, 0, 0), (9, .iload_n 1, 1, 1, 0, 0, 0), (10, .i2l, 1, 0, 0, 0, 0), (11, .ladd, 1, 0, 0, 0, 0), (12, .putfield 137, 3, 4, 11, 0, 0), (15, .return_, 1, 0, 0, 0, 0)]
theorem tkX4_note : tOk cX4_note "RumourSourceModel" 2 tX4_note = true := by decide +kernel
theorem fX4_note_0 : fetch tX4_note 0 = some (.aload_n 0, 1, 0, 0, 0, 0) := rfl
theorem fX4_note_1 : fetch tX4_note 1 = some (.ldc2_w 135, 3, 0, 0, 0, 31) := rfl
theorem fX4_note_4 : fetch tX4_note 4 = some (.aload_n 0, 1, 0, 0, 0, 0) := rfl
theorem fX4_note_5 : fetch tX4_note 5 = some (.getfield 137, 3, 4, 11, 0, 0) := rfl
theorem fX4_note_8 : fetch tX4_note 8 = some (.lmul, 1, 0, 0, 0, 0) := rfl
theorem fX4_note_9 : fetch tX4_note 9 = some (.iload_n 1, 1, 1, 0, 0, 0) := rfl
theorem fX4_note_10 : fetch tX4_note 10 = some (.i2l, 1, 0, 0, 0, 0) := rfl
theorem fX4_note_11 : fetch tX4_note 11 = some (.ladd, 1, 0, 0, 0, 0) := rfl
theorem fX4_note_12 : fetch tX4_note 12 = some (.putfield 137, 3, 4, 11, 0, 0) := rfl
theorem fX4_note_15 : fetch tX4_note 15 = some (.return_, 1, 0, 0, 0, 0) := rfl
def tX4_digest : List (Nat × TE) := [(0, .aload_n 0, 1, 0, 0, 0, 0), (1, .ldc2_w 141, 3, 0, 0, 0, 17), (4, .putfield 137, 3, 4, 11, 0, 0), (7, .aload_n 0, 1, 0, 0, 0, 0), (8, .aload_n 0, 1, 0, 0, 0, 0), (9, .getfield 7, 3, 4, 0, 0, 0), (12, .iconst 0, 1, 0, 0, 0, 0), (13, .iaload, 1, 0, 0, 0, 0), (14, .invokevirtual 143, 3, 0, 4, 0, 0), (17, .iconst 0, 1, 0, 0, 0, 0), (18, .istore_n 1, 1, 1, 0, 0, 0), (19, .iload_n 1, 1, 1, 0, 0, 0), (20, .iconst 4, 1, 0, 0, 4, 0), (21, .aload_n 0, 1, 0, 0, 0, 0), (22, .getfield 7, 3, 4, 0, 0, 0), (25, .iconst 0, 1, 0, 0, 0, 0), (26, .iaload, 1, 0, 0, 0, 0), (27, .imul, 1, 0, 0, 0, 0), (28, .if_icmp .ge 21, 3, 49, 0, 0, 0), (31, .aload_n 0, 1, 0, 0, 0, 0), (32, .aload_n 0, 1, 0, 0, 0, 0), (33, .getfield 7, 3, 4, 0, 0, 0), (36, .iconst 3, 1, 0, 0, 3, 0), (37, .iload_n 1, 1, 1, 0, 0, 0), (38, .iadd, 1, 0, 0, 0, 0), (39, .iaload, 1, 0, 0, 0, 0), (40, .invokevirtual 143, 3, 0, 4, 0, 0), (43, .iinc 1 1, 3, 1, 0, 1, 0), (46, .goto (-27), 3, 19, 0, 0, 0), (49, .aload_n 0, 1, 0, 0, 0, 0), (50, .aload_n 0, 1, 0, 0, 0, 0), (51, .getfield 7, 3, 4, 0, 0, 0), (54, .iconst 1, 1, 0, 0, 1, 0), (55, .iaload, 1, 0, 0, 0, 0), (56, .invokevirtual 143, 3, 0, 4, 0, 0), (59, .iconst 0, 1, 0, 0, 0, 0), (60, .istore_n 1, 1, 1, 0, 0, 0), (61, .iload_n 1, 1, 1, 0, 0, 0), (62, .bipush 8, 2, 0, 0, 8, 0), (64, .if_icmp .ge 22, 3, 86, 0, 0, 0), (67, .aload_n 0, 1, 0, 0, 0, 0), (68, .aload_n 0, 1, 0, 0, 0, 0), (69, .getfield 7, 3, 4, 0, 0, 0), (72, .bipush 51, 2, 0, 0, 51, 0), (74, .iload_n 1, 1, 1, 0, 0, 0), (75, .iadd, 1, 0, 0, 0, 0), (76, .iaload, 1, 0, 0, 0, 0), (77, .invokevirtual 143, 3, 0, 4, 0, 0), (80, .iinc 1 1, 3, 1, 0, 1, 0), (83, .goto (-22), 3, 61, 0, 0, 0), (86, .aload_n 0, 1, 0, 0, 0, 0), (87, .aload_n 0, 1, 0, 0, 0, 0), (88, .getfield 7, 3, 4, 0, 0, 0), (91, .iconst 2, 1, 0, 0, 2, 0), (92, .iaload, 1, 0, 0, 0, 0), (93, .invokevirtual 143, 3, 0, 4, 0, 0), (96, .aload_n 0, 1, 0, 0, 0, 0), (97, .getfield 137, 3, 4, 11, 0, 0), (100, .lreturn, 1, 0, 0, 0, 0)]
theorem tkX4_digest : tOk cX4_digest "RumourSourceModel" 2 tX4_digest = true := by decide +kernel
theorem fX4_digest_0 : fetch tX4_digest 0 = some (.aload_n 0, 1, 0, 0, 0, 0) := rfl
theorem fX4_digest_1 : fetch tX4_digest 1 = some (.ldc2_w 141, 3, 0, 0, 0, 17) := rfl
theorem fX4_digest_4 : fetch tX4_digest 4 = some (.putfield 137, 3, 4, 11, 0, 0) := rfl
theorem fX4_digest_7 : fetch tX4_digest 7 = some (.aload_n 0, 1, 0, 0, 0, 0) := rfl
theorem fX4_digest_8 : fetch tX4_digest 8 = some (.aload_n 0, 1, 0, 0, 0, 0) := rfl
theorem fX4_digest_9 : fetch tX4_digest 9 = some (.getfield 7, 3, 4, 0, 0, 0) := rfl
theorem fX4_digest_12 : fetch tX4_digest 12 = some (.iconst 0, 1, 0, 0, 0, 0) := rfl
theorem fX4_digest_13 : fetch tX4_digest 13 = some (.iaload, 1, 0, 0, 0, 0) := rfl
theorem fX4_digest_14 : fetch tX4_digest 14 = some (.invokevirtual 143, 3, 0, 4, 0, 0) := rfl
theorem fX4_digest_17 : fetch tX4_digest 17 = some (.iconst 0, 1, 0, 0, 0, 0) := rfl
theorem fX4_digest_18 : fetch tX4_digest 18 = some (.istore_n 1, 1, 1, 0, 0, 0) := rfl
theorem fX4_digest_19 : fetch tX4_digest 19 = some (.iload_n 1, 1, 1, 0, 0, 0) := rfl
theorem fX4_digest_20 : fetch tX4_digest 20 = some (.iconst 4, 1, 0, 0, 4, 0) := rfl
theorem fX4_digest_21 : fetch tX4_digest 21 = some (.aload_n 0, 1, 0, 0, 0, 0) := rfl
theorem fX4_digest_22 : fetch tX4_digest 22 = some (.getfield 7, 3, 4, 0, 0, 0) := rfl
theorem fX4_digest_25 : fetch tX4_digest 25 = some (.iconst 0, 1, 0, 0, 0, 0) := rfl
theorem fX4_digest_26 : fetch tX4_digest 26 = some (.iaload, 1, 0, 0, 0, 0) := rfl
theorem fX4_digest_27 : fetch tX4_digest 27 = some (.imul, 1, 0, 0, 0, 0) := rfl
theorem fX4_digest_28 : fetch tX4_digest 28 = some (.if_icmp .ge 21, 3, 49, 0, 0, 0) := rfl
theorem fX4_digest_31 : fetch tX4_digest 31 = some (.aload_n 0, 1, 0, 0, 0, 0) := rfl
theorem fX4_digest_32 : fetch tX4_digest 32 = some (.aload_n 0, 1, 0, 0, 0, 0) := rfl
theorem fX4_digest_33 : fetch tX4_digest 33 = some (.getfield 7, 3, 4, 0, 0, 0) := rfl
theorem fX4_digest_36 : fetch tX4_digest 36 = some (.iconst 3, 1, 0, 0, 3, 0) := rfl
theorem fX4_digest_37 : fetch tX4_digest 37 = some (.iload_n 1, 1, 1, 0, 0, 0) := rfl
theorem fX4_digest_38 : fetch tX4_digest 38 = some (.iadd, 1, 0, 0, 0, 0) := rfl
theorem fX4_digest_39 : fetch tX4_digest 39 = some (.iaload, 1, 0, 0, 0, 0) := rfl
theorem fX4_digest_40 : fetch tX4_digest 40 = some (.invokevirtual 143, 3, 0, 4, 0, 0) := rfl
theorem fX4_digest_43 : fetch tX4_digest 43 = some (.iinc 1 1, 3, 1, 0, 1, 0) := rfl
theorem fX4_digest_46 : fetch tX4_digest 46 = some (.goto (-27), 3, 19, 0, 0, 0) := rfl
theorem fX4_digest_49 : fetch tX4_digest 49 = some (.aload_n 0, 1, 0, 0, 0, 0) := rfl
theorem fX4_digest_50 : fetch tX4_digest 50 = some (.aload_n 0, 1, 0, 0, 0, 0) := rfl
theorem fX4_digest_51 : fetch tX4_digest 51 = some (.getfield 7, 3, 4, 0, 0, 0) := rfl
theorem fX4_digest_54 : fetch tX4_digest 54 = some (.iconst 1, 1, 0, 0, 1, 0) := rfl
theorem fX4_digest_55 : fetch tX4_digest 55 = some (.iaload, 1, 0, 0, 0, 0) := rfl
theorem fX4_digest_56 : fetch tX4_digest 56 = some (.invokevirtual 143, 3, 0, 4, 0, 0) := rfl
theorem fX4_digest_59 : fetch tX4_digest 59 = some (.iconst 0, 1, 0, 0, 0, 0) := rfl
theorem fX4_digest_60 : fetch tX4_digest 60 = some (.istore_n 1, 1, 1, 0, 0, 0) := rfl
theorem fX4_digest_61 : fetch tX4_digest 61 = some (.iload_n 1, 1, 1, 0, 0, 0) := rfl
theorem fX4_digest_62 : fetch tX4_digest 62 = some (.bipush 8, 2, 0, 0, 8, 0) := rfl
theorem fX4_digest_64 : fetch tX4_digest 64 = some (.if_icmp .ge 22, 3, 86, 0, 0, 0) := rfl
theorem fX4_digest_67 : fetch tX4_digest 67 = some (.aload_n 0, 1, 0, 0, 0, 0) := rfl
theorem fX4_digest_68 : fetch tX4_digest 68 = some (.aload_n 0, 1, 0, 0, 0, 0) := rfl
theorem fX4_digest_69 : fetch tX4_digest 69 = some (.getfield 7, 3, 4, 0, 0, 0) := rfl
theorem fX4_digest_72 : fetch tX4_digest 72 = some (.bipush 51, 2, 0, 0, 51, 0) := rfl
theorem fX4_digest_74 : fetch tX4_digest 74 = some (.iload_n 1, 1, 1, 0, 0, 0) := rfl
theorem fX4_digest_75 : fetch tX4_digest 75 = some (.iadd, 1, 0, 0, 0, 0) := rfl
theorem fX4_digest_76 : fetch tX4_digest 76 = some (.iaload, 1, 0, 0, 0, 0) := rfl
theorem fX4_digest_77 : fetch tX4_digest 77 = some (.invokevirtual 143, 3, 0, 4, 0, 0) := rfl
theorem fX4_digest_80 : fetch tX4_digest 80 = some (.iinc 1 1, 3, 1, 0, 1, 0) := rfl
theorem fX4_digest_83 : fetch tX4_digest 83 = some (.goto (-22), 3, 61, 0, 0, 0) := rfl
theorem fX4_digest_86 : fetch tX4_digest 86 = some (.aload_n 0, 1, 0, 0, 0, 0) := rfl
theorem fX4_digest_87 : fetch tX4_digest 87 = some (.aload_n 0, 1, 0, 0, 0, 0) := rfl
theorem fX4_digest_88 : fetch tX4_digest 88 = some (.getfield 7, 3, 4, 0, 0, 0) := rfl
theorem fX4_digest_91 : fetch tX4_digest 91 = some (.iconst 2, 1, 0, 0, 2, 0) := rfl
theorem fX4_digest_92 : fetch tX4_digest 92 = some (.iaload, 1, 0, 0, 0, 0) := rfl
theorem fX4_digest_93 : fetch tX4_digest 93 = some (.invokevirtual 143, 3, 0, 4, 0, 0) := rfl
theorem fX4_digest_96 : fetch tX4_digest 96 = some (.aload_n 0, 1, 0, 0, 0, 0) := rfl
theorem fX4_digest_97 : fetch tX4_digest 97 = some (.getfield 137, 3, 4, 11, 0, 0) := rfl
theorem fX4_digest_100 : fetch tX4_digest 100 = some (.lreturn, 1, 0, 0, 0, 0) := rfl
end TABM
end
section
/-! Words for the state, and small rows. -/
section BASEW
/-- the room of a method whose calls stand k deep -/
abbrev rmF (k : Nat) : Room := { frames := k, cells := 0, slots := 0, locals := 64 * k }
/-- the number of a Scene -/
def isSc (b : Nat) : Prop := b ∈ [1, 14, 21, 27, 33, 39, 45]
theorem isSc_shp {b : Nat} (h : isSc b) : shp b = (0, 0) ∧ shp (b + 1) = (5, 12) ∧ shp (b + 2) = (5, 12) ∧ shp (b + 3) = (5, 12) ∧ shp (b + 4) = (5, 12) ∧ shp (b + 5) = (5, 8) ∧ b + 5 < NC := by
  unfold isSc at h
  simp only [List.mem_cons, List.not_mem_nil, or_false] at h
  rcases h with rfl | rfl | rfl | rfl | rfl | rfl | rfl <;> decide
theorem isSc_lt {b : Nat} (h : isSc b) : b < NC ∧ b + 1 < NC ∧ b + 2 < NC ∧ b + 3 < NC ∧ b + 4 < NC ∧ b + 5 < NC := by
  have := (isSc_shp h).2.2.2.2.2.2
  have e : NC = 58 := rfl
  omega
theorem isSc_ne {b o : Nat} (h : isSc b) (h2 : isSc o) (hn : b ≠ o) : b + 5 < o ∨ o + 5 < b := by
  unfold isSc at h h2
  simp only [List.mem_cons, List.not_mem_nil, or_false] at h h2
  omega
theorem isSc_hi {b : Nat} (h : isSc b) : 1 ≤ b ∧ b + 5 < 51 := by
  unfold isSc at h
  simp only [List.mem_cons, List.not_mem_nil, or_false] at h
  omega
theorem clampN {n : Nat} (h : n < 2147483648) : (nI n).toNatClampNeg = n := nI_clamp h
theorem vp_inN {n N : Nat} (hN : N < 2147483648) (h : n < N) : vp_in (nI n) N := vp_in_nI h hN
theorem leN {a b : Nat} (ha : a < 2147483648) (hb : b < 2147483648) : nI a ≤ nI b ↔ a ≤ b := nI_leI ha hb
theorem ltN {a b : Nat} (ha : a < 2147483648) (hb : b < 2147483648) : nI a < nI b ↔ a < b := nI_ltI ha hb
theorem eqN {a b : Nat} (ha : a < 2147483648) (hb : b < 2147483648) : nI a = nI b ↔ a = b := nI_eq ha hb
theorem clamp0 : (0 : Int32).toNatClampNeg = 0 := rfl
theorem eq31N {a : Nat} (h : a < 2147483648) : (nI a = 31) = (a = 31) := propext (eqN (b := 31) h (by decide))
theorem add1N (a : Nat) : nI a + 1 = nI (a + 1) := nI_1 a
theorem litN (n : Nat) : (OfNat.ofNat n : Int32) = nI n := rfl
theorem sI_1 (X : XT) (k j : Nat) (v : Int32) (q : Nat) : (sI X k j v).1 q = if q = k then upd (X.1 k) j v else X.1 q := rfl
theorem sI_2 (X : XT) (k j : Nat) (v : Int32) : (sI X k j v).2 = X.2 := rfl
theorem sL_1 (X : XT) (k j : Nat) (v : Int64) : (sL X k j v).1 = X.1 := rfl
theorem sL_2 (X : XT) (k j : Nat) (v : Int64) (q : Nat) : (sL X k j v).2.1 q = if q = k then vp_updL (X.2.1 k) j v else X.2.1 q := rfl
theorem sL_22 (X : XT) (k j : Nat) (v : Int64) : (sL X k j v).2.2 = X.2.2 := rfl
theorem upd_a (f : Nat → Int32) (k : Nat) (x : Int32) (j : Nat) : upd f k x j = if j = k then x else f j := rfl
theorem updL_a (f : Nat → Int64) (k : Nat) (x : Int64) (j : Nat) : vp_updL f k x j = if j = k then x else f j := rfl
/-- what stays: all cells but those that P names -/
def Fr (P : Nat → Prop) (X X' : XT) : Prop := (∀ k, ¬ P k → X'.1 k = X.1 k) ∧ (∀ k, ¬ P k → X'.2.1 k = X.2.1 k) ∧ X'.2.2 = X.2.2
theorem Fr.rf (P : Nat → Prop) (X : XT) : Fr P X X := ⟨fun _ _ => rfl, fun _ _ => rfl, rfl⟩
theorem Fr.tr {P : Nat → Prop} {X Y Z : XT} (h : Fr P X Y) (g : Fr P Y Z) : Fr P X Z := ⟨fun k hk => (g.1 k hk).trans (h.1 k hk), fun k hk => (g.2.1 k hk).trans (h.2.1 k hk), g.2.2.trans h.2.2⟩
theorem Fr.mono {P P' : Nat → Prop} {X Y : XT} (h : Fr P X Y) (hp : ∀ k, P k → P' k) : Fr P' X Y := ⟨fun k hk => h.1 k (fun z => hk (hp k z)), fun k hk => h.2.1 k (fun z => hk (hp k z)), h.2.2⟩
theorem Fr.pI {P : Nat → Prop} {X Y : XT} (h : Fr P X Y) {k : Nat} (hk : P k) (j : Nat) (v : Int32) : Fr P X (sI Y k j v) :=
  ⟨fun q hq => by rw [sI_1, if_neg (show ¬ q = k from fun z => hq (by rw [z]; exact hk))]; exact h.1 q hq, h.2.1, h.2.2⟩
theorem Fr.pL {P : Nat → Prop} {X Y : XT} (h : Fr P X Y) {k : Nat} (hk : P k) (j : Nat) (v : Int64) : Fr P X (sL Y k j v) :=
  ⟨h.1, fun q hq => by rw [sL_2, if_neg (show ¬ q = k from fun z => hq (by rw [z]; exact hk))]; exact h.2.1 q hq, h.2.2⟩
/-- 1 for what holds, else 0 -/
noncomputable def b2i (P : Prop) : Int32 := @ite Int32 P (Classical.propDecidable P) 1 0
theorem b2i_t {P : Prop} (h : P) : b2i P = 1 := by unfold b2i; exact if_pos h
theorem b2i_f {P : Prop} (h : ¬ P) : b2i P = 0 := by unfold b2i; exact if_neg h
theorem b2i_0 (P : Prop) : (b2i P = 0) = ¬ P := by
  by_cases h : P
  · rw [b2i_t h]; simp [h]
  · rw [b2i_f h]; simp [h]
theorem b2i_1 (P : Prop) : (b2i P = 1) = P := by
  by_cases h : P
  · rw [b2i_t h]; simp [h]
  · rw [b2i_f h]; simp [h]
theorem bl_b2i (P : Prop) : bl (b2i P) := by
  by_cases h : P
  · exact Or.inr (b2i_t h)
  · exact Or.inl (b2i_f h)
theorem bl_0 : bl 0 := Or.inl rfl
theorem bl_1 : bl 1 := Or.inr rfl
theorem b2i_c {P Q : Prop} (h : P ↔ Q) : b2i P = b2i Q := by rw [propext h]
/-- between two numbers -/
def inR (a : Int32) (lo hi : Int) : Prop := lo ≤ a.toInt ∧ a.toInt ≤ hi
theorem leI (a b : Int32) : a ≤ b ↔ a.toInt ≤ b.toInt := Int32.le_iff_toInt_le
theorem eqI (a b : Int32) : a = b ↔ a.toInt = b.toInt := Int32.toInt_inj.symm
theorem ltI (a b : Int32) : a < b ↔ a.toInt < b.toInt := Int32.lt_iff_toInt_lt
theorem inR_N {a : Int32} {lo hi : Nat} (hhi : hi < 2147483648) (h : inR a lo hi) : ∃ n : Nat, lo ≤ n ∧ n ≤ hi ∧ a = nI n := by
  obtain ⟨h1, h2⟩ := h
  refine ⟨a.toInt.toNat, by omega, by omega, ?_⟩
  apply Int32.toInt_inj.mp
  rw [nI_toInt (by omega)]
  omega
/-- a Scene's value: how many edges; from, to, trust, delay of each; the horizon; how each node is observed; the sensors -/
abbrev SV : Type := Nat × (Nat → Nat) × (Nat → Nat) × (Nat → Nat) × (Nat → Nat) × Nat × (Nat → Int32) × Nat
abbrev SV.n (s : SV) : Nat := s.1
abbrev SV.F (s : SV) : Nat → Nat := s.2.1
abbrev SV.T (s : SV) : Nat → Nat := s.2.2.1
abbrev SV.W (s : SV) : Nat → Nat := s.2.2.2.1
abbrev SV.D (s : SV) : Nat → Nat := s.2.2.2.2.1
abbrev SV.H (s : SV) : Nat := s.2.2.2.2.2.1
abbrev SV.S (s : SV) : Nat → Int32 := s.2.2.2.2.2.2.1
abbrev SV.Q (s : SV) : Nat := s.2.2.2.2.2.2.2
/-- a possible one -/
def okS (v : Int32) : Prop := v = -1 ∨ v = 100 ∨ ∃ n : Nat, n ≤ 30 ∧ v = nI n
def WF (s : SV) : Prop := s.n ≤ 12 ∧ (∀ e, e < s.n → s.F e < 8 ∧ s.T e < 8 ∧ s.F e ≠ s.T e ∧ s.W e ≤ 10 ∧ 1 ≤ s.D e ∧ s.D e ≤ 5) ∧ (∀ i j, i < s.n → j < s.n → s.F i = s.F j → s.T i = s.T j → i = j) ∧ s.H ≤ 30 ∧ (∀ v, v < 8 → okS (s.S v)) ∧ s.Q ≤ 255
/-- the Scene at cell b holds s -/
def RS (X : XT) (b : Nat) (s : SV) : Prop := X.1 b 4 = nI s.n ∧ (∀ e, e < s.n → X.1 (b + 1) e = nI (s.F e) ∧ X.1 (b + 2) e = nI (s.T e) ∧ X.1 (b + 3) e = nI (s.W e) ∧ X.1 (b + 4) e = nI (s.D e)) ∧ X.1 b 5 = nI s.H ∧ (∀ v, v < 8 → X.1 (b + 5) v = s.S v) ∧ X.1 b 7 = nI s.Q
def scn (b : Nat) : Nat → Prop := fun k => b ≤ k ∧ k ≤ b + 5
theorem RS.fr1 {X X' : XT} {b : Nat} {s : SV} (h : RS X b s) (hF : ∀ k, scn b k → X'.1 k = X.1 k) : RS X' b s := by
  obtain ⟨h1, h2, h3, h4, h5⟩ := h
  have e : ∀ i, i ≤ 5 → X'.1 (b + i) = X.1 (b + i) := fun i hi => hF _ ⟨by omega, by omega⟩
  have e0 := e 0 (by omega)
  rw [Nat.add_zero] at e0
  refine ⟨by rw [e0]; exact h1, fun q hq => ?_, by rw [e0]; exact h3, fun v hv => by rw [e 5 (by omega)]; exact h4 v hv, by rw [e0]; exact h5⟩
  rw [e 1 (by omega), e 2 (by omega), e 3 (by omega), e 4 (by omega)]
  exact h2 q hq
theorem RS.fr {P : Nat → Prop} {X X' : XT} {b : Nat} {s : SV} (h : RS X b s) (hF : Fr P X X') (hP : ∀ k, scn b k → ¬ P k) : RS X' b s := by
  exact h.fr1 (fun k hk => hF.1 k (hP k hk))
theorem tI_m5 : (-5 : Int32).toInt = -5 := rfl
theorem tI_m4 : (-4 : Int32).toInt = -4 := rfl
theorem tI_m3 : (-3 : Int32).toInt = -3 := rfl
theorem tI_m2 : (-2 : Int32).toInt = -2 := rfl
theorem tI_m1 : (-1 : Int32).toInt = -1 := rfl
theorem tI_0 : (0 : Int32).toInt = 0 := rfl
theorem tI_1 : (1 : Int32).toInt = 1 := rfl
theorem tI_2 : (2 : Int32).toInt = 2 := rfl
theorem tI_3 : (3 : Int32).toInt = 3 := rfl
theorem tI_4 : (4 : Int32).toInt = 4 := rfl
theorem tI_5 : (5 : Int32).toInt = 5 := rfl
theorem tI_7 : (7 : Int32).toInt = 7 := rfl
theorem tI_8 : (8 : Int32).toInt = 8 := rfl
theorem tI_10 : (10 : Int32).toInt = 10 := rfl
theorem tI_12 : (12 : Int32).toInt = 12 := rfl
theorem tI_30 : (30 : Int32).toInt = 30 := rfl
theorem tI_31 : (31 : Int32).toInt = 31 := rfl
theorem tI_32 : (32 : Int32).toInt = 32 := rfl
theorem tI_47 : (47 : Int32).toInt = 47 := rfl
theorem tI_48 : (48 : Int32).toInt = 48 := rfl
theorem tI_57 : (57 : Int32).toInt = 57 := rfl
theorem tI_59 : (59 : Int32).toInt = 59 := rfl
theorem tI_42 : (42 : Int32).toInt = 42 := rfl
theorem tI_43 : (43 : Int32).toInt = 43 := rfl
theorem tI_45 : (45 : Int32).toInt = 45 := rfl
theorem tI_61 : (61 : Int32).toInt = 61 := rfl
theorem tI_62 : (62 : Int32).toInt = 62 := rfl
theorem tI_100 : (100 : Int32).toInt = 100 := rfl
theorem tI_120 : (120 : Int32).toInt = 120 := rfl
theorem tI_255 : (255 : Int32).toInt = 255 := rfl
theorem tI_1000 : (1000 : Int32).toInt = 1000 := rfl
end BASEW
end
section
/-! The checks of numbers. -/
section CHECKS
noncomputable def C_X3_isNode : CT := fun As X K => match As with
  | [.int a] => K (some (.int (b2i (inR a 0 7)))) X
  | _ => False
set_option maxRecDepth 20000 in
set_option maxHeartbeats 4000000 in
theorem d_X3_isNode (l : Launch) : Does l yX3_isNode (wY yX3_isNode cX3_isNode 1 (retT 1)) (rmF 0) C_X3_isNode := does_of (rt := 1) (by decide +kernel) tkX3_isNode (calls := []) (fun _ h => absurd h List.not_mem_nil) (by
  intro As X post hC
  unfold C_X3_isNode at hC
  split at hC
  next a =>
    refine ⟨Nat.le_of_ble_eq_true rfl, fun R hR => ?_⟩
    have p0 : ¬ ((0 : Int) ≤ a.toInt ∧ a.toInt ≤ 7) → post (some (.int 0)) X := fun h => by rw [b2i_f (show ¬ inR a 0 7 from h)] at hC; exact hC
    have p1 : (0 : Int) ≤ a.toInt ∧ a.toInt ≤ 7 → post (some (.int 1)) X := fun h => by rw [b2i_t (show inR a 0 7 from h)] at hC; exact hC
    refine go hR [] 40 ?_
    simp only [lv_args, ↓reduceIte, Nat.reduceEqDiff, Nat.reduceAdd, Nat.reduceLeDiff, reduceCtorEq, and_true, true_and, false_and, and_false, true_or, or_true, or_false, false_or, true_implies, false_implies, implies_true, not_true_eq_false, not_false_eq_true, eq_self, fx_s, ↓run_s, run_0, ↓rs_n, ↓rs_c, as_s, ls_n, ls_c, lc_s, lget_c, fX3_isNode_0, ↓ex_iload_n, ↓xI_i, ↓xIg_c, fX3_isNode_1, ↓ex_ifCond_lt, ↓s1I_c, fX3_isNode_4, fX3_isNode_5, ↓ex_bipush, fX3_isNode_7, ↓ex_if_icmp_ge, ↓s2I_c, fX3_isNode_10, ↓ex_iconst, fX3_isNode_11, ↓ex_goto, fX3_isNode_14, fX3_isNode_15, ↓ex_ireturn, ↓rt_i, leI, ltI, tI_m5, tI_m4, tI_m3, tI_m2, tI_m1, tI_0, tI_1, tI_2, tI_3, tI_4, tI_5, tI_7, tI_8, tI_10, tI_12, tI_30, tI_31, tI_32, tI_47, tI_48, tI_57, tI_59, tI_42, tI_43, tI_45, tI_61, tI_62, tI_100, tI_120, tI_255, tI_1000]
    repeat' (first | apply And.intro | intro _)
    all_goals first | exact bl_0 | exact bl_1 | exact p0 (by omega) | exact p1 (by omega)
  next => exact hC.elim)
noncomputable def C_X3_isTrust : CT := fun As X K => match As with
  | [.int a] => K (some (.int (b2i (inR a 0 10)))) X
  | _ => False
set_option maxRecDepth 20000 in
set_option maxHeartbeats 4000000 in
theorem d_X3_isTrust (l : Launch) : Does l yX3_isTrust (wY yX3_isTrust cX3_isTrust 1 (retT 1)) (rmF 0) C_X3_isTrust := does_of (rt := 1) (by decide +kernel) tkX3_isTrust (calls := []) (fun _ h => absurd h List.not_mem_nil) (by
  intro As X post hC
  unfold C_X3_isTrust at hC
  split at hC
  next a =>
    refine ⟨Nat.le_of_ble_eq_true rfl, fun R hR => ?_⟩
    have p0 : ¬ ((0 : Int) ≤ a.toInt ∧ a.toInt ≤ 10) → post (some (.int 0)) X := fun h => by rw [b2i_f (show ¬ inR a 0 10 from h)] at hC; exact hC
    have p1 : (0 : Int) ≤ a.toInt ∧ a.toInt ≤ 10 → post (some (.int 1)) X := fun h => by rw [b2i_t (show inR a 0 10 from h)] at hC; exact hC
    refine go hR [] 40 ?_
    simp only [lv_args, ↓reduceIte, Nat.reduceEqDiff, Nat.reduceAdd, Nat.reduceLeDiff, reduceCtorEq, and_true, true_and, false_and, and_false, true_or, or_true, or_false, false_or, true_implies, false_implies, implies_true, not_true_eq_false, not_false_eq_true, eq_self, fx_s, ↓run_s, run_0, ↓rs_n, ↓rs_c, as_s, ls_n, ls_c, lc_s, lget_c, fX3_isTrust_0, ↓ex_iload_n, ↓xI_i, ↓xIg_c, fX3_isTrust_1, ↓ex_ifCond_lt, ↓s1I_c, fX3_isTrust_4, fX3_isTrust_5, ↓ex_bipush, fX3_isTrust_7, ↓ex_if_icmp_gt, ↓s2I_c, fX3_isTrust_10, ↓ex_iconst, fX3_isTrust_11, ↓ex_goto, fX3_isTrust_14, fX3_isTrust_15, ↓ex_ireturn, ↓rt_i, leI, ltI, tI_m5, tI_m4, tI_m3, tI_m2, tI_m1, tI_0, tI_1, tI_2, tI_3, tI_4, tI_5, tI_7, tI_8, tI_10, tI_12, tI_30, tI_31, tI_32, tI_47, tI_48, tI_57, tI_59, tI_42, tI_43, tI_45, tI_61, tI_62, tI_100, tI_120, tI_255, tI_1000]
    repeat' (first | apply And.intro | intro _)
    all_goals first | exact bl_0 | exact bl_1 | exact p0 (by omega) | exact p1 (by omega)
  next => exact hC.elim)
noncomputable def C_X3_isDelay : CT := fun As X K => match As with
  | [.int a] => K (some (.int (b2i (inR a 1 5)))) X
  | _ => False
set_option maxRecDepth 20000 in
set_option maxHeartbeats 4000000 in
theorem d_X3_isDelay (l : Launch) : Does l yX3_isDelay (wY yX3_isDelay cX3_isDelay 1 (retT 1)) (rmF 0) C_X3_isDelay := does_of (rt := 1) (by decide +kernel) tkX3_isDelay (calls := []) (fun _ h => absurd h List.not_mem_nil) (by
  intro As X post hC
  unfold C_X3_isDelay at hC
  split at hC
  next a =>
    refine ⟨Nat.le_of_ble_eq_true rfl, fun R hR => ?_⟩
    have p0 : ¬ ((1 : Int) ≤ a.toInt ∧ a.toInt ≤ 5) → post (some (.int 0)) X := fun h => by rw [b2i_f (show ¬ inR a 1 5 from h)] at hC; exact hC
    have p1 : (1 : Int) ≤ a.toInt ∧ a.toInt ≤ 5 → post (some (.int 1)) X := fun h => by rw [b2i_t (show inR a 1 5 from h)] at hC; exact hC
    refine go hR [] 40 ?_
    simp only [lv_args, ↓reduceIte, Nat.reduceEqDiff, Nat.reduceAdd, Nat.reduceLeDiff, reduceCtorEq, and_true, true_and, false_and, and_false, true_or, or_true, or_false, false_or, true_implies, false_implies, implies_true, not_true_eq_false, not_false_eq_true, eq_self, fx_s, ↓run_s, run_0, ↓rs_n, ↓rs_c, as_s, ls_n, ls_c, lc_s, lget_c, fX3_isDelay_0, ↓ex_iload_n, ↓xI_i, ↓xIg_c, fX3_isDelay_1, ↓ex_iconst, fX3_isDelay_2, ↓ex_if_icmp_lt, ↓s2I_c, fX3_isDelay_5, fX3_isDelay_6, fX3_isDelay_7, ↓ex_if_icmp_gt, fX3_isDelay_10, fX3_isDelay_11, ↓ex_goto, fX3_isDelay_14, fX3_isDelay_15, ↓ex_ireturn, ↓rt_i, leI, ltI, tI_m5, tI_m4, tI_m3, tI_m2, tI_m1, tI_0, tI_1, tI_2, tI_3, tI_4, tI_5, tI_7, tI_8, tI_10, tI_12, tI_30, tI_31, tI_32, tI_47, tI_48, tI_57, tI_59, tI_42, tI_43, tI_45, tI_61, tI_62, tI_100, tI_120, tI_255, tI_1000]
    repeat' (first | apply And.intro | intro _)
    all_goals first | exact bl_0 | exact bl_1 | exact p0 (by omega) | exact p1 (by omega)
  next => exact hC.elim)
noncomputable def C_X3_isTime : CT := fun As X K => match As with
  | [.int a] => K (some (.int (b2i (inR a 0 30)))) X
  | _ => False
set_option maxRecDepth 20000 in
set_option maxHeartbeats 4000000 in
theorem d_X3_isTime (l : Launch) : Does l yX3_isTime (wY yX3_isTime cX3_isTime 1 (retT 1)) (rmF 0) C_X3_isTime := does_of (rt := 1) (by decide +kernel) tkX3_isTime (calls := []) (fun _ h => absurd h List.not_mem_nil) (by
  intro As X post hC
  unfold C_X3_isTime at hC
  split at hC
  next a =>
    refine ⟨Nat.le_of_ble_eq_true rfl, fun R hR => ?_⟩
    have p0 : ¬ ((0 : Int) ≤ a.toInt ∧ a.toInt ≤ 30) → post (some (.int 0)) X := fun h => by rw [b2i_f (show ¬ inR a 0 30 from h)] at hC; exact hC
    have p1 : (0 : Int) ≤ a.toInt ∧ a.toInt ≤ 30 → post (some (.int 1)) X := fun h => by rw [b2i_t (show inR a 0 30 from h)] at hC; exact hC
    refine go hR [] 40 ?_
    simp only [lv_args, ↓reduceIte, Nat.reduceEqDiff, Nat.reduceAdd, Nat.reduceLeDiff, reduceCtorEq, and_true, true_and, false_and, and_false, true_or, or_true, or_false, false_or, true_implies, false_implies, implies_true, not_true_eq_false, not_false_eq_true, eq_self, fx_s, ↓run_s, run_0, ↓rs_n, ↓rs_c, as_s, ls_n, ls_c, lc_s, lget_c, fX3_isTime_0, ↓ex_iload_n, ↓xI_i, ↓xIg_c, fX3_isTime_1, ↓ex_ifCond_lt, ↓s1I_c, fX3_isTime_4, fX3_isTime_5, ↓ex_bipush, fX3_isTime_7, ↓ex_if_icmp_gt, ↓s2I_c, fX3_isTime_10, ↓ex_iconst, fX3_isTime_11, ↓ex_goto, fX3_isTime_14, fX3_isTime_15, ↓ex_ireturn, ↓rt_i, leI, ltI, tI_m5, tI_m4, tI_m3, tI_m2, tI_m1, tI_0, tI_1, tI_2, tI_3, tI_4, tI_5, tI_7, tI_8, tI_10, tI_12, tI_30, tI_31, tI_32, tI_47, tI_48, tI_57, tI_59, tI_42, tI_43, tI_45, tI_61, tI_62, tI_100, tI_120, tI_255, tI_1000]
    repeat' (first | apply And.intro | intro _)
    all_goals first | exact bl_0 | exact bl_1 | exact p0 (by omega) | exact p1 (by omega)
  next => exact hC.elim)
noncomputable def C_X3_isStart : CT := fun As X K => match As with
  | [.int a] => K (some (.int (b2i (inR a 1 255)))) X
  | _ => False
set_option maxRecDepth 20000 in
set_option maxHeartbeats 4000000 in
theorem d_X3_isStart (l : Launch) : Does l yX3_isStart (wY yX3_isStart cX3_isStart 1 (retT 1)) (rmF 0) C_X3_isStart := does_of (rt := 1) (by decide +kernel) tkX3_isStart (calls := []) (fun _ h => absurd h List.not_mem_nil) (by
  intro As X post hC
  unfold C_X3_isStart at hC
  split at hC
  next a =>
    refine ⟨Nat.le_of_ble_eq_true rfl, fun R hR => ?_⟩
    have p0 : ¬ ((1 : Int) ≤ a.toInt ∧ a.toInt ≤ 255) → post (some (.int 0)) X := fun h => by rw [b2i_f (show ¬ inR a 1 255 from h)] at hC; exact hC
    have p1 : (1 : Int) ≤ a.toInt ∧ a.toInt ≤ 255 → post (some (.int 1)) X := fun h => by rw [b2i_t (show inR a 1 255 from h)] at hC; exact hC
    refine go hR [] 40 ?_
    simp only [lv_args, ↓reduceIte, Nat.reduceEqDiff, Nat.reduceAdd, Nat.reduceLeDiff, reduceCtorEq, and_true, true_and, false_and, and_false, true_or, or_true, or_false, false_or, true_implies, false_implies, implies_true, not_true_eq_false, not_false_eq_true, eq_self, fx_s, ↓run_s, run_0, ↓rs_n, ↓rs_c, as_s, ls_n, ls_c, lc_s, lget_c, fX3_isStart_0, ↓ex_iload_n, ↓xI_i, ↓xIg_c, fX3_isStart_1, ↓ex_iconst, fX3_isStart_2, ↓ex_if_icmp_lt, ↓s2I_c, fX3_isStart_5, fX3_isStart_6, ↓ex_sipush, fX3_isStart_9, ↓ex_if_icmp_gt, fX3_isStart_12, fX3_isStart_13, ↓ex_goto, fX3_isStart_16, fX3_isStart_17, ↓ex_ireturn, ↓rt_i, leI, ltI, tI_m5, tI_m4, tI_m3, tI_m2, tI_m1, tI_0, tI_1, tI_2, tI_3, tI_4, tI_5, tI_7, tI_8, tI_10, tI_12, tI_30, tI_31, tI_32, tI_47, tI_48, tI_57, tI_59, tI_42, tI_43, tI_45, tI_61, tI_62, tI_100, tI_120, tI_255, tI_1000]
    repeat' (first | apply And.intro | intro _)
    all_goals first | exact bl_0 | exact bl_1 | exact p0 (by omega) | exact p1 (by omega)
  next => exact hC.elim)
noncomputable def C_X3_isTimeOrNone : CT := fun As X K => match As with
  | [.int a] => K (some (.int (b2i (inR a (-1) 30)))) X
  | _ => False
set_option maxRecDepth 20000 in
set_option maxHeartbeats 4000000 in
theorem d_X3_isTimeOrNone (l : Launch) : Does l yX3_isTimeOrNone (wY yX3_isTimeOrNone cX3_isTimeOrNone 1 (retT 1)) (rmF 1) C_X3_isTimeOrNone := does_of (rt := 1) (by decide +kernel) tkX3_isTimeOrNone (calls := [(90, true, 1, 3, C_X3_isTime)]) (List.forall_mem_cons.mpr ⟨cr_S (d_X3_isTime l) (by decide +kernel) (by decide +kernel) ⟨rfl, rfl⟩ ⟨Nat.le_of_ble_eq_true rfl, Nat.le_of_ble_eq_true rfl⟩, fun _ h => absurd h List.not_mem_nil⟩) (by
  intro As X post hC
  unfold C_X3_isTimeOrNone at hC
  split at hC
  next a =>
    refine ⟨Nat.le_of_ble_eq_true rfl, fun R hR => ?_⟩
    have p0 : ¬ ((-1 : Int) ≤ a.toInt ∧ a.toInt ≤ 30) → post (some (.int 0)) X := fun h => by rw [b2i_f (show ¬ inR a (-1) 30 from h)] at hC; exact hC
    have p1 : (-1 : Int) ≤ a.toInt ∧ a.toInt ≤ 30 → post (some (.int 1)) X := fun h => by rw [b2i_t (show inR a (-1) 30 from h)] at hC; exact hC
    refine go hR [] 40 ?_
    simp only [lv_args, ↓reduceIte, Nat.reduceEqDiff, Nat.reduceAdd, Nat.reduceLeDiff, reduceCtorEq, and_true, true_and, false_and, and_false, true_or, or_true, or_false, false_or, true_implies, false_implies, implies_true, not_true_eq_false, not_false_eq_true, eq_self, fx_s, ↓run_s, run_0, ↓rs_n, ↓rs_c, as_s, ls_n, ls_c, lc_s, lget_c, fX3_isTimeOrNone_0, ↓ex_iload_n, ↓xI_i, ↓xIg_c, fX3_isTimeOrNone_1, ↓ex_iconst, fX3_isTimeOrNone_2, ↓ex_if_icmp_eq, ↓s2I_c, fX3_isTimeOrNone_5, fX3_isTimeOrNone_6, ↓ex_invokestatic, ↓xc_0, ↓xc_s, ↓xc_1, ↓pk_s, ↓k_s, ↓k_n, catS_n, catS_c, rOk_c, ct_i, ct_l, ct_r, ↓pk_t, fX3_isTimeOrNone_9, ↓ex_ifCond_eq, ↓s1I_c, fX3_isTimeOrNone_12, fX3_isTimeOrNone_13, ↓ex_goto, fX3_isTimeOrNone_16, fX3_isTimeOrNone_17, ↓ex_ireturn, ↓rt_i, ↓C_X3_isTime, b2i_0, inR]
    simp only [leI, ltI, eqI, tI_m5, tI_m4, tI_m3, tI_m2, tI_m1, tI_0, tI_1, tI_2, tI_3, tI_4, tI_5, tI_7, tI_8, tI_10, tI_12, tI_30, tI_31, tI_32, tI_47, tI_48, tI_57, tI_59, tI_42, tI_43, tI_45, tI_61, tI_62, tI_100, tI_120, tI_255, tI_1000]
    repeat' (first | apply And.intro | intro _)
    all_goals first | exact bl_0 | exact bl_1 | exact Nat.le_of_ble_eq_true rfl | exact p0 (by omega) | exact p1 (by omega)
  next => exact hC.elim)
end CHECKS
end
section
section SCENE
/-- the first edge from a to c, out of k from i on -/
def findF (F T : Nat → Nat) (a c : Int32) : Nat → Nat → Int32
  | 0, _ => -1
  | k + 1, i => if nI (F i) = a ∧ nI (T i) = c then nI i else findF F T a c k (i + 1)
def findS (s : SV) (a c : Int32) : Int32 := findF s.F s.T a c s.n 0
def C_X0_find : CT := fun As X K => match As with
  | [.ref b, .int a, .int c] => ∃ s : SV, (isSc b ∧ RS X b s ∧ s.n ≤ 12) ∧ K (some (.int (findS s a c))) X
  | _ => False
set_option maxRecDepth 20000 in
set_option maxHeartbeats 4000000 in
theorem d_X0_find (l : Launch) : Does l yX0_find (wY yX0_find cX0_find 4 (retT 0)) (rmF 0) C_X0_find := does_of (rt := 0) (by decide +kernel) tkX0_find (calls := []) (fun _ h => absurd h List.not_mem_nil) (by
  intro As X post hC
  unfold C_X0_find at hC
  split at hC
  next b a c =>
    obtain ⟨s, ⟨hb, ⟨h1, h2, -⟩, hn⟩, hpost⟩ := hC
    refine ⟨Nat.le_of_ble_eq_true rfl, fun R hR => ?_⟩
    obtain ⟨s0, s1, s2, -⟩ := isSc_shp hb
    obtain ⟨l0, l1, l2, -⟩ := isSc_lt hb
    have key : ∀ k i, i + k = s.n → post (some (.int (findF s.F s.T a c k i))) X → R 2 [(0, .ref b), (1, .int a), (2, .int c), (3, .int (nI i))] [] X := by
      intro k
      induction k with
      | zero =>
        intro i hi hp
        refine go hR [(2, [0, 1, 2, 3])] 40 ?_
        simp only [↓reduceIte, Nat.reduceEqDiff, Nat.reduceAdd, Nat.reduceLeDiff, reduceCtorEq, and_true, true_and, false_and, and_false, true_or, or_true, or_false, false_or, true_implies, false_implies, implies_true, not_true_eq_false, not_false_eq_true, eq_self, fx_s, ↓run_s, run_0, ↓rs_n, ↓rs_c, as_s, ls_n, ls_c, lc_s, lget_c, fX0_find_0, ↓ex_iconst, fX0_find_1, ↓ex_istore_n, ↓s1I_c, ↓lsto_e, ↓lrmK_n, ↓lrmK_f, ct_i, ct_l, ct_r, fX0_find_2, ↓ex_iload_n, ↓xI_i, ↓xIg_c, fX0_find_3, ↓ex_aload_n, ↓xR_r, ↓xRg_c, fX0_find_4, ↓ex_getfield, ↓s1R_c, ↓fv_0_4, fX0_find_7, ↓ex_if_icmp_ge, ↓s2I_c, fX0_find_10, fX0_find_11, ↓fv_0_0, fX0_find_14, fX0_find_15, ↓ex_iaload, ↓sRI_c, ↓scrR_n, fX0_find_16, fX0_find_17, ↓ex_if_icmp_ne, fX0_find_20, fX0_find_21, ↓fv_0_1, fX0_find_24, fX0_find_25, fX0_find_26, fX0_find_27, fX0_find_30, fX0_find_31, ↓ex_ireturn, ↓rt_i, fX0_find_32, ↓ex_iinc, fX0_find_35, ↓ex_goto, fX0_find_38, fX0_find_39, s0, s1, s2, l0, l1, l2, h1, leN (a := s.n) (b := i) (by omega) (by omega)]
        exact ⟨fun _ => hp, fun h => absurd (by omega) h⟩
      | succ k ih =>
        intro i hi hp
        refine go hR [(2, [0, 1, 2, 3])] 40 ?_
        obtain ⟨e1, e2, -⟩ := h2 i (by omega)
        simp only [↓reduceIte, Nat.reduceEqDiff, Nat.reduceAdd, Nat.reduceLeDiff, reduceCtorEq, and_true, true_and, false_and, and_false, true_or, or_true, or_false, false_or, true_implies, false_implies, implies_true, not_true_eq_false, not_false_eq_true, eq_self, fx_s, ↓run_s, run_0, ↓rs_n, ↓rs_c, as_s, ls_n, ls_c, lc_s, lget_c, fX0_find_0, ↓ex_iconst, fX0_find_1, ↓ex_istore_n, ↓s1I_c, ↓lsto_e, ↓lrmK_n, ↓lrmK_f, ct_i, ct_l, ct_r, fX0_find_2, ↓ex_iload_n, ↓xI_i, ↓xIg_c, fX0_find_3, ↓ex_aload_n, ↓xR_r, ↓xRg_c, fX0_find_4, ↓ex_getfield, ↓s1R_c, ↓fv_0_4, fX0_find_7, ↓ex_if_icmp_ge, ↓s2I_c, fX0_find_10, fX0_find_11, ↓fv_0_0, fX0_find_14, fX0_find_15, ↓ex_iaload, ↓sRI_c, ↓scrR_n, fX0_find_16, fX0_find_17, ↓ex_if_icmp_ne, fX0_find_20, fX0_find_21, ↓fv_0_1, fX0_find_24, fX0_find_25, fX0_find_26, fX0_find_27, fX0_find_30, fX0_find_31, ↓ex_ireturn, ↓rt_i, fX0_find_32, ↓ex_iinc, fX0_find_35, ↓ex_goto, fX0_find_38, fX0_find_39, s0, s1, s2, l0, l1, l2, h1, leN (a := s.n) (b := i) (by omega) (by omega), clampN (n := i) (by omega), e1, e2, add1N]
        refine ⟨fun h => absurd h (by omega), fun _ => ⟨vp_inN (by omega) (by omega), fun g1 => ih (i + 1) (by omega) ?_, fun g1 => ⟨vp_inN (by omega) (by omega), fun g2 => ih (i + 1) (by omega) ?_, fun g2 => ?_⟩⟩⟩
        · unfold findF at hp; rw [if_neg (fun z => g1 z.1)] at hp; exact hp
        · unfold findF at hp; rw [if_neg (fun z => g2 z.2)] at hp; exact hp
        · unfold findF at hp; rw [if_pos ⟨g1, g2⟩] at hp; exact hp
    refine go hR [(2, [0, 1, 2, 3])] 40 ?_
    simp only [lv_args, ↓reduceIte, Nat.reduceEqDiff, Nat.reduceAdd, Nat.reduceLeDiff, reduceCtorEq, and_true, true_and, false_and, and_false, true_or, or_true, or_false, false_or, true_implies, false_implies, implies_true, not_true_eq_false, not_false_eq_true, eq_self, fx_s, ↓run_s, run_0, ↓rs_n, ↓rs_c, as_s, ls_n, ls_c, lc_s, lget_c, fX0_find_0, ↓ex_iconst, fX0_find_1, ↓ex_istore_n, ↓s1I_c, ↓lsto_e, ↓lrmK_n, ↓lrmK_f, ct_i, ct_l, ct_r, fX0_find_2, ↓ex_iload_n, ↓xI_i, ↓xIg_c, fX0_find_3, ↓ex_aload_n, ↓xR_r, ↓xRg_c, fX0_find_4, ↓ex_getfield, ↓s1R_c, ↓fv_0_4, fX0_find_7, ↓ex_if_icmp_ge, ↓s2I_c, fX0_find_10, fX0_find_11, ↓fv_0_0, fX0_find_14, fX0_find_15, ↓ex_iaload, ↓sRI_c, ↓scrR_n, fX0_find_16, fX0_find_17, ↓ex_if_icmp_ne, fX0_find_20, fX0_find_21, ↓fv_0_1, fX0_find_24, fX0_find_25, fX0_find_26, fX0_find_27, fX0_find_30, fX0_find_31, ↓ex_ireturn, ↓rt_i, fX0_find_32, ↓ex_iinc, fX0_find_35, ↓ex_goto, fX0_find_38, fX0_find_39]
    exact key s.n 0 (by omega) hpost
  next => exact hC.elim)
noncomputable def C_X0_hasEdge : CT := fun As X K => match As with
  | [.ref b, .int a] => ∃ s : SV, (isSc b ∧ RS X b s ∧ s.n ≤ 12) ∧ K (some (.int (b2i (0 ≤ a.toInt ∧ a.toInt < s.n)))) X
  | _ => False
set_option maxRecDepth 20000 in
set_option maxHeartbeats 4000000 in
theorem d_X0_hasEdge (l : Launch) : Does l yX0_hasEdge (wY yX0_hasEdge cX0_hasEdge 2 (retT 1)) (rmF 0) C_X0_hasEdge := does_of (rt := 1) (by decide +kernel) tkX0_hasEdge (calls := []) (fun _ h => absurd h List.not_mem_nil) (by
  intro As X post hC
  unfold C_X0_hasEdge at hC
  split at hC
  next b a =>
    obtain ⟨s, ⟨hb, ⟨h1, -⟩, hn⟩, hC⟩ := hC
    refine ⟨Nat.le_of_ble_eq_true rfl, fun R hR => ?_⟩
    obtain ⟨s0, -⟩ := isSc_shp hb
    obtain ⟨l0, -⟩ := isSc_lt hb
    have p0 : ¬ (0 ≤ a.toInt ∧ a.toInt < s.n) → post (some (.int 0)) X := fun h => by rw [b2i_f h] at hC; exact hC
    have p1 : (0 ≤ a.toInt ∧ a.toInt < s.n) → post (some (.int 1)) X := fun h => by rw [b2i_t h] at hC; exact hC
    have e1 : (nI s.n).toInt = s.n := nI_toInt (by omega)
    refine go hR [] 40 ?_
    simp only [lv_args, ↓reduceIte, Nat.reduceEqDiff, Nat.reduceAdd, Nat.reduceLeDiff, reduceCtorEq, and_true, true_and, false_and, and_false, true_or, or_true, or_false, false_or, true_implies, false_implies, implies_true, not_true_eq_false, not_false_eq_true, eq_self, fx_s, ↓run_s, run_0, ↓rs_n, ↓rs_c, as_s, ls_n, ls_c, lc_s, lget_c, fX0_hasEdge_0, ↓ex_iload_n, ↓xI_i, ↓xIg_c, fX0_hasEdge_1, ↓ex_ifCond_lt, ↓s1I_c, fX0_hasEdge_4, fX0_hasEdge_5, ↓ex_aload_n, ↓xR_r, ↓xRg_c, fX0_hasEdge_6, ↓ex_getfield, ↓s1R_c, ↓fv_0_4, fX0_hasEdge_9, ↓ex_if_icmp_ge, ↓s2I_c, fX0_hasEdge_12, ↓ex_iconst, fX0_hasEdge_13, ↓ex_goto, fX0_hasEdge_16, fX0_hasEdge_17, ↓ex_ireturn, ↓rt_i, s0, l0, h1, leI, ltI, tI_m5, tI_m4, tI_m3, tI_m2, tI_m1, tI_0, tI_1, tI_2, tI_3, tI_4, tI_5, tI_7, tI_8, tI_10, tI_12, tI_30, tI_31, tI_32, tI_47, tI_48, tI_57, tI_59, tI_42, tI_43, tI_45, tI_61, tI_62, tI_100, tI_120, tI_255, tI_1000, e1]
    repeat' (first | apply And.intro | intro _)
    all_goals first | exact bl_0 | exact bl_1 | exact p0 (by omega) | exact p1 (by omega)
  next => exact hC.elim)
noncomputable def C_X0_isFull : CT := fun As X K => match As with
  | [.ref b] => ∃ s : SV, (isSc b ∧ RS X b s ∧ s.n ≤ 12) ∧ K (some (.int (b2i (s.n = 12)))) X
  | _ => False
set_option maxRecDepth 20000 in
set_option maxHeartbeats 4000000 in
theorem d_X0_isFull (l : Launch) : Does l yX0_isFull (wY yX0_isFull cX0_isFull 1 (retT 1)) (rmF 0) C_X0_isFull := does_of (rt := 1) (by decide +kernel) tkX0_isFull (calls := []) (fun _ h => absurd h List.not_mem_nil) (by
  intro As X post hC
  unfold C_X0_isFull at hC
  split at hC
  next b =>
    obtain ⟨s, ⟨hb, ⟨h1, -⟩, hn⟩, hC⟩ := hC
    refine ⟨Nat.le_of_ble_eq_true rfl, fun R hR => ?_⟩
    obtain ⟨s0, -⟩ := isSc_shp hb
    obtain ⟨l0, -⟩ := isSc_lt hb
    have p0 : ¬ (s.n = 12) → post (some (.int 0)) X := fun h => by rw [b2i_f h] at hC; exact hC
    have p1 : (s.n = 12) → post (some (.int 1)) X := fun h => by rw [b2i_t h] at hC; exact hC
    have e1 : (nI s.n).toInt = s.n := nI_toInt (by omega)
    refine go hR [] 40 ?_
    simp only [lv_args, ↓reduceIte, Nat.reduceEqDiff, Nat.reduceAdd, Nat.reduceLeDiff, reduceCtorEq, and_true, true_and, false_and, and_false, true_or, or_true, or_false, false_or, true_implies, false_implies, implies_true, not_true_eq_false, not_false_eq_true, eq_self, fx_s, ↓run_s, run_0, ↓rs_n, ↓rs_c, as_s, ls_n, ls_c, lc_s, lget_c, fX0_isFull_0, ↓ex_aload_n, ↓xR_r, ↓xRg_c, fX0_isFull_1, ↓ex_getfield, ↓s1R_c, ↓fv_0_4, fX0_isFull_4, ↓ex_bipush, fX0_isFull_6, ↓ex_if_icmp_lt, ↓s2I_c, fX0_isFull_9, ↓ex_iconst, fX0_isFull_10, ↓ex_goto, fX0_isFull_13, fX0_isFull_14, ↓ex_ireturn, ↓rt_i, s0, l0, h1, leI, ltI, tI_m5, tI_m4, tI_m3, tI_m2, tI_m1, tI_0, tI_1, tI_2, tI_3, tI_4, tI_5, tI_7, tI_8, tI_10, tI_12, tI_30, tI_31, tI_32, tI_47, tI_48, tI_57, tI_59, tI_42, tI_43, tI_45, tI_61, tI_62, tI_100, tI_120, tI_255, tI_1000, e1]
    repeat' (first | apply And.intro | intro _)
    all_goals first | exact bl_0 | exact bl_1 | exact p0 (by omega) | exact p1 (by omega)
  next => exact hC.elim)
/-- copyFrom: b becomes what o is -/
def C_X0_copyFrom : CT := fun As X K => match As with
  | [.ref b, .ref o] => ∃ s : SV, (isSc b ∧ isSc o ∧ b ≠ o ∧ RS X o s ∧ s.n ≤ 12) ∧ ∀ X', Fr (scn b) X X' → RS X' b s → K none X'
  | _ => False
set_option maxRecDepth 20000 in
set_option maxHeartbeats 4000000 in
theorem d_X0_copyFrom (l : Launch) : Does l yX0_copyFrom (wY yX0_copyFrom cX0_copyFrom 3 (retT 3)) (rmF 0) C_X0_copyFrom := does_of (rt := 3) (by decide +kernel) tkX0_copyFrom (calls := []) (fun _ h => absurd h List.not_mem_nil) (by
  intro As X post hC
  unfold C_X0_copyFrom at hC
  split at hC
  next b o =>
    obtain ⟨b, rfl⟩ : ∃ q : Nat, q = b := ⟨b, rfl⟩; obtain ⟨o, rfl⟩ : ∃ q : Nat, q = o := ⟨o, rfl⟩
    obtain ⟨s, ⟨hb, ho, hbo, ⟨h1, h2, h3, h4, h5⟩, hn⟩, hpost⟩ := hC
    refine ⟨Nat.le_of_ble_eq_true rfl, fun R hR => ?_⟩
    obtain ⟨s0, s1, s2, s3, s4, s5, -⟩ := isSc_shp hb
    obtain ⟨l0, l1, l2, l3, l4, l5⟩ := isSc_lt hb
    obtain ⟨t0, t1, t2, t3, t4, t5, -⟩ := isSc_shp ho
    obtain ⟨m0, m1, m2, m3, m4, m5⟩ := isSc_lt ho
    have hd := isSc_ne hb ho hbo
    have key2 : ∀ k i Y, i + k = 8 → Fr (scn b) X Y → (∀ e, e < 12 → Y.1 (b + 1) e = X.1 (o + 1) e ∧ Y.1 (b + 2) e = X.1 (o + 2) e ∧ Y.1 (b + 3) e = X.1 (o + 3) e ∧ Y.1 (b + 4) e = X.1 (o + 4) e) → (∀ v, v < i → Y.1 (b + 5) v = X.1 (o + 5) v) → R 64 [(0, .ref b), (1, .ref o), (2, .int (nI i))] [] Y := by
      intro k
      induction k with
      | zero =>
        intro i Y hi hF hE hV
        refine go hR [(64, [0, 1, 2])] 60 ?_
        have q0 : Y.1 o = X.1 o := hF.1 o (fun z => by unfold scn at z; omega)
        simp only [↓reduceIte, Nat.reduceEqDiff, Nat.reduceAdd, Nat.reduceLeDiff, reduceCtorEq, and_true, true_and, false_and, and_false, true_or, or_true, or_false, false_or, true_implies, false_implies, implies_true, not_true_eq_false, not_false_eq_true, eq_self, fx_s, ↓run_s, run_0, ↓rs_n, ↓rs_c, as_s, ls_n, ls_c, lc_s, lget_c, fX0_copyFrom_0, ↓ex_iconst, fX0_copyFrom_1, ↓ex_istore_n, ↓s1I_c, ↓lsto_e, ↓lrmK_n, ↓lrmK_f, ct_i, ct_l, ct_r, fX0_copyFrom_2, ↓ex_iload_n, ↓xI_i, ↓xIg_c, fX0_copyFrom_3, ↓ex_bipush, fX0_copyFrom_5, ↓ex_if_icmp_ge, ↓s2I_c, fX0_copyFrom_8, ↓ex_aload_n, ↓xR_r, ↓xRg_c, fX0_copyFrom_9, ↓ex_getfield, ↓s1R_c, ↓fv_0_0, fX0_copyFrom_12, fX0_copyFrom_13, fX0_copyFrom_14, fX0_copyFrom_17, fX0_copyFrom_18, ↓ex_iaload, ↓sRI_c, ↓scrR_n, fX0_copyFrom_19, ↓ex_iastore, ↓sRII_c, fX0_copyFrom_20, fX0_copyFrom_21, ↓fv_0_1, fX0_copyFrom_24, fX0_copyFrom_25, fX0_copyFrom_26, fX0_copyFrom_29, fX0_copyFrom_30, fX0_copyFrom_31, fX0_copyFrom_32, fX0_copyFrom_33, ↓fv_0_2, fX0_copyFrom_36, fX0_copyFrom_37, fX0_copyFrom_38, fX0_copyFrom_41, fX0_copyFrom_42, fX0_copyFrom_43, fX0_copyFrom_44, fX0_copyFrom_45, ↓fv_0_3, fX0_copyFrom_48, fX0_copyFrom_49, fX0_copyFrom_50, fX0_copyFrom_53, fX0_copyFrom_54, fX0_copyFrom_55, fX0_copyFrom_56, ↓ex_iinc, fX0_copyFrom_59, ↓ex_goto, fX0_copyFrom_62, fX0_copyFrom_63, fX0_copyFrom_64, fX0_copyFrom_65, fX0_copyFrom_67, fX0_copyFrom_70, fX0_copyFrom_71, ↓fv_0_6, fX0_copyFrom_74, fX0_copyFrom_75, fX0_copyFrom_76, fX0_copyFrom_79, fX0_copyFrom_80, fX0_copyFrom_81, fX0_copyFrom_82, fX0_copyFrom_85, fX0_copyFrom_88, fX0_copyFrom_89, fX0_copyFrom_90, ↓fv_0_4, fX0_copyFrom_93, ↓ex_putfield, ↓pf_0_4, fX0_copyFrom_96, fX0_copyFrom_97, fX0_copyFrom_98, ↓fv_0_5, fX0_copyFrom_101, ↓pf_0_5, fX0_copyFrom_104, fX0_copyFrom_105, fX0_copyFrom_106, ↓fv_0_7, fX0_copyFrom_109, ↓pf_0_7, fX0_copyFrom_112, ↓ex_return_, ↓rt_v, s0, s5, l0, l5, t0, t5, m0, m5, leI, ltI, tI_m5, tI_m4, tI_m3, tI_m2, tI_m1, tI_0, tI_1, tI_2, tI_3, tI_4, tI_5, tI_7, tI_8, tI_10, tI_12, tI_30, tI_31, tI_32, tI_47, tI_48, tI_57, tI_59, tI_42, tI_43, tI_45, tI_61, tI_62, tI_100, tI_120, tI_255, tI_1000, nI_toInt (n := i) (by omega), sI_1, q0, show ¬ o = b from fun z => hbo z.symm]
        refine ⟨fun _ => hpost _ ?_ ?_, fun h => absurd (by omega) h⟩
        · exact ((hF.pI (show scn b b from ⟨by omega, by omega⟩) 4 _).pI (show scn b b from ⟨by omega, by omega⟩) 5 _).pI (show scn b b from ⟨by omega, by omega⟩) 7 _
        · refine ⟨?_, fun e he => ?_, ?_, fun v hv => ?_, ?_⟩
          · simp [sI_1, upd_a, h1]
          · obtain ⟨a1, a2, a3, a4⟩ := hE e (by omega)
            obtain ⟨b1, b2, b3, b4⟩ := h2 e he
            simp [sI_1, a1, a2, a3, a4, b1, b2, b3, b4]
          · simp [sI_1, upd_a, h3]
          · simp [sI_1, hV v (by omega), h4 v hv]
          · simp [sI_1, upd_a, h5]
      | succ k ih =>
        intro i Y hi hF hE hV
        refine go hR [(64, [0, 1, 2])] 60 ?_
        have q0 : Y.1 (o + 5) = X.1 (o + 5) := hF.1 _ (fun z => by unfold scn at z; omega)
        simp only [↓reduceIte, Nat.reduceEqDiff, Nat.reduceAdd, Nat.reduceLeDiff, reduceCtorEq, and_true, true_and, false_and, and_false, true_or, or_true, or_false, false_or, true_implies, false_implies, implies_true, not_true_eq_false, not_false_eq_true, eq_self, fx_s, ↓run_s, run_0, ↓rs_n, ↓rs_c, as_s, ls_n, ls_c, lc_s, lget_c, fX0_copyFrom_0, ↓ex_iconst, fX0_copyFrom_1, ↓ex_istore_n, ↓s1I_c, ↓lsto_e, ↓lrmK_n, ↓lrmK_f, ct_i, ct_l, ct_r, fX0_copyFrom_2, ↓ex_iload_n, ↓xI_i, ↓xIg_c, fX0_copyFrom_3, ↓ex_bipush, fX0_copyFrom_5, ↓ex_if_icmp_ge, ↓s2I_c, fX0_copyFrom_8, ↓ex_aload_n, ↓xR_r, ↓xRg_c, fX0_copyFrom_9, ↓ex_getfield, ↓s1R_c, ↓fv_0_0, fX0_copyFrom_12, fX0_copyFrom_13, fX0_copyFrom_14, fX0_copyFrom_17, fX0_copyFrom_18, ↓ex_iaload, ↓sRI_c, ↓scrR_n, fX0_copyFrom_19, ↓ex_iastore, ↓sRII_c, fX0_copyFrom_20, fX0_copyFrom_21, ↓fv_0_1, fX0_copyFrom_24, fX0_copyFrom_25, fX0_copyFrom_26, fX0_copyFrom_29, fX0_copyFrom_30, fX0_copyFrom_31, fX0_copyFrom_32, fX0_copyFrom_33, ↓fv_0_2, fX0_copyFrom_36, fX0_copyFrom_37, fX0_copyFrom_38, fX0_copyFrom_41, fX0_copyFrom_42, fX0_copyFrom_43, fX0_copyFrom_44, fX0_copyFrom_45, ↓fv_0_3, fX0_copyFrom_48, fX0_copyFrom_49, fX0_copyFrom_50, fX0_copyFrom_53, fX0_copyFrom_54, fX0_copyFrom_55, fX0_copyFrom_56, ↓ex_iinc, fX0_copyFrom_59, ↓ex_goto, fX0_copyFrom_62, fX0_copyFrom_63, fX0_copyFrom_64, fX0_copyFrom_65, fX0_copyFrom_67, fX0_copyFrom_70, fX0_copyFrom_71, ↓fv_0_6, fX0_copyFrom_74, fX0_copyFrom_75, fX0_copyFrom_76, fX0_copyFrom_79, fX0_copyFrom_80, fX0_copyFrom_81, fX0_copyFrom_82, fX0_copyFrom_85, fX0_copyFrom_88, fX0_copyFrom_89, fX0_copyFrom_90, ↓fv_0_4, fX0_copyFrom_93, ↓ex_putfield, ↓pf_0_4, fX0_copyFrom_96, fX0_copyFrom_97, fX0_copyFrom_98, ↓fv_0_5, fX0_copyFrom_101, ↓pf_0_5, fX0_copyFrom_104, fX0_copyFrom_105, fX0_copyFrom_106, ↓fv_0_7, fX0_copyFrom_109, ↓pf_0_7, fX0_copyFrom_112, ↓ex_return_, ↓rt_v, s0, s5, l0, l5, t0, t5, m0, m5, leI, ltI, tI_m5, tI_m4, tI_m3, tI_m2, tI_m1, tI_0, tI_1, tI_2, tI_3, tI_4, tI_5, tI_7, tI_8, tI_10, tI_12, tI_30, tI_31, tI_32, tI_47, tI_48, tI_57, tI_59, tI_42, tI_43, tI_45, tI_61, tI_62, tI_100, tI_120, tI_255, tI_1000, nI_toInt (n := i) (by omega), clampN (n := i) (by omega), add1N, q0]
        refine ⟨fun h => absurd h (by omega), fun _ => ⟨vp_inN (by omega) (by omega), vp_inN (by omega) (by omega), ih (i + 1) _ (by omega) (hF.pI ⟨by omega, by omega⟩ _ _) (fun e he => ?_) (fun v hv => ?_)⟩⟩
        · obtain ⟨a1, a2, a3, a4⟩ := hE e he
          simp [sI_1, a1, a2, a3, a4]
        · by_cases e : v = i
          · subst e; simp [sI_1, upd_a]
          · simp [sI_1, upd_a, e, hV v (by omega)]
    have key1 : ∀ k i Y, i + k = 12 → Fr (scn b) X Y → (∀ e, e < i → Y.1 (b + 1) e = X.1 (o + 1) e ∧ Y.1 (b + 2) e = X.1 (o + 2) e ∧ Y.1 (b + 3) e = X.1 (o + 3) e ∧ Y.1 (b + 4) e = X.1 (o + 4) e) → R 2 [(0, .ref b), (1, .ref o), (2, .int (nI i))] [] Y := by
      intro k
      induction k with
      | zero =>
        intro i Y hi hF hE
        refine go hR [(2, [0, 1, 2]), (64, [0, 1, 2])] 60 ?_
        simp only [↓reduceIte, Nat.reduceEqDiff, Nat.reduceAdd, Nat.reduceLeDiff, reduceCtorEq, and_true, true_and, false_and, and_false, true_or, or_true, or_false, false_or, true_implies, false_implies, implies_true, not_true_eq_false, not_false_eq_true, eq_self, fx_s, ↓run_s, run_0, ↓rs_n, ↓rs_c, as_s, ls_n, ls_c, lc_s, lget_c, fX0_copyFrom_0, ↓ex_iconst, fX0_copyFrom_1, ↓ex_istore_n, ↓s1I_c, ↓lsto_e, ↓lrmK_n, ↓lrmK_f, ct_i, ct_l, ct_r, fX0_copyFrom_2, ↓ex_iload_n, ↓xI_i, ↓xIg_c, fX0_copyFrom_3, ↓ex_bipush, fX0_copyFrom_5, ↓ex_if_icmp_ge, ↓s2I_c, fX0_copyFrom_8, ↓ex_aload_n, ↓xR_r, ↓xRg_c, fX0_copyFrom_9, ↓ex_getfield, ↓s1R_c, ↓fv_0_0, fX0_copyFrom_12, fX0_copyFrom_13, fX0_copyFrom_14, fX0_copyFrom_17, fX0_copyFrom_18, ↓ex_iaload, ↓sRI_c, ↓scrR_n, fX0_copyFrom_19, ↓ex_iastore, ↓sRII_c, fX0_copyFrom_20, fX0_copyFrom_21, ↓fv_0_1, fX0_copyFrom_24, fX0_copyFrom_25, fX0_copyFrom_26, fX0_copyFrom_29, fX0_copyFrom_30, fX0_copyFrom_31, fX0_copyFrom_32, fX0_copyFrom_33, ↓fv_0_2, fX0_copyFrom_36, fX0_copyFrom_37, fX0_copyFrom_38, fX0_copyFrom_41, fX0_copyFrom_42, fX0_copyFrom_43, fX0_copyFrom_44, fX0_copyFrom_45, ↓fv_0_3, fX0_copyFrom_48, fX0_copyFrom_49, fX0_copyFrom_50, fX0_copyFrom_53, fX0_copyFrom_54, fX0_copyFrom_55, fX0_copyFrom_56, ↓ex_iinc, fX0_copyFrom_59, ↓ex_goto, fX0_copyFrom_62, fX0_copyFrom_63, fX0_copyFrom_64, fX0_copyFrom_65, fX0_copyFrom_67, fX0_copyFrom_70, fX0_copyFrom_71, ↓fv_0_6, fX0_copyFrom_74, fX0_copyFrom_75, fX0_copyFrom_76, fX0_copyFrom_79, fX0_copyFrom_80, fX0_copyFrom_81, fX0_copyFrom_82, fX0_copyFrom_85, fX0_copyFrom_88, fX0_copyFrom_89, fX0_copyFrom_90, ↓fv_0_4, fX0_copyFrom_93, ↓ex_putfield, ↓pf_0_4, fX0_copyFrom_96, fX0_copyFrom_97, fX0_copyFrom_98, ↓fv_0_5, fX0_copyFrom_101, ↓pf_0_5, fX0_copyFrom_104, fX0_copyFrom_105, fX0_copyFrom_106, ↓fv_0_7, fX0_copyFrom_109, ↓pf_0_7, fX0_copyFrom_112, ↓ex_return_, ↓rt_v, leI, ltI, tI_m5, tI_m4, tI_m3, tI_m2, tI_m1, tI_0, tI_1, tI_2, tI_3, tI_4, tI_5, tI_7, tI_8, tI_10, tI_12, tI_30, tI_31, tI_32, tI_47, tI_48, tI_57, tI_59, tI_42, tI_43, tI_45, tI_61, tI_62, tI_100, tI_120, tI_255, tI_1000, nI_toInt (n := i) (by omega)]
        refine ⟨fun _ => key2 8 0 Y (by omega) hF (fun e he => hE e (by omega)) (fun v hv => absurd hv (by omega)), fun h => absurd (by omega) h⟩
      | succ k ih =>
        intro i Y hi hF hE
        refine go hR [(2, [0, 1, 2]), (64, [0, 1, 2])] 60 ?_
        have q : ∀ j, j ≤ 5 → Y.1 (o + j) = X.1 (o + j) := fun j hj => hF.1 _ (fun z => by unfold scn at z; omega)
        simp only [↓reduceIte, Nat.reduceEqDiff, Nat.reduceAdd, Nat.reduceLeDiff, reduceCtorEq, and_true, true_and, false_and, and_false, true_or, or_true, or_false, false_or, true_implies, false_implies, implies_true, not_true_eq_false, not_false_eq_true, eq_self, fx_s, ↓run_s, run_0, ↓rs_n, ↓rs_c, as_s, ls_n, ls_c, lc_s, lget_c, fX0_copyFrom_0, ↓ex_iconst, fX0_copyFrom_1, ↓ex_istore_n, ↓s1I_c, ↓lsto_e, ↓lrmK_n, ↓lrmK_f, ct_i, ct_l, ct_r, fX0_copyFrom_2, ↓ex_iload_n, ↓xI_i, ↓xIg_c, fX0_copyFrom_3, ↓ex_bipush, fX0_copyFrom_5, ↓ex_if_icmp_ge, ↓s2I_c, fX0_copyFrom_8, ↓ex_aload_n, ↓xR_r, ↓xRg_c, fX0_copyFrom_9, ↓ex_getfield, ↓s1R_c, ↓fv_0_0, fX0_copyFrom_12, fX0_copyFrom_13, fX0_copyFrom_14, fX0_copyFrom_17, fX0_copyFrom_18, ↓ex_iaload, ↓sRI_c, ↓scrR_n, fX0_copyFrom_19, ↓ex_iastore, ↓sRII_c, fX0_copyFrom_20, fX0_copyFrom_21, ↓fv_0_1, fX0_copyFrom_24, fX0_copyFrom_25, fX0_copyFrom_26, fX0_copyFrom_29, fX0_copyFrom_30, fX0_copyFrom_31, fX0_copyFrom_32, fX0_copyFrom_33, ↓fv_0_2, fX0_copyFrom_36, fX0_copyFrom_37, fX0_copyFrom_38, fX0_copyFrom_41, fX0_copyFrom_42, fX0_copyFrom_43, fX0_copyFrom_44, fX0_copyFrom_45, ↓fv_0_3, fX0_copyFrom_48, fX0_copyFrom_49, fX0_copyFrom_50, fX0_copyFrom_53, fX0_copyFrom_54, fX0_copyFrom_55, fX0_copyFrom_56, ↓ex_iinc, fX0_copyFrom_59, ↓ex_goto, fX0_copyFrom_62, fX0_copyFrom_63, fX0_copyFrom_64, fX0_copyFrom_65, fX0_copyFrom_67, fX0_copyFrom_70, fX0_copyFrom_71, ↓fv_0_6, fX0_copyFrom_74, fX0_copyFrom_75, fX0_copyFrom_76, fX0_copyFrom_79, fX0_copyFrom_80, fX0_copyFrom_81, fX0_copyFrom_82, fX0_copyFrom_85, fX0_copyFrom_88, fX0_copyFrom_89, fX0_copyFrom_90, ↓fv_0_4, fX0_copyFrom_93, ↓ex_putfield, ↓pf_0_4, fX0_copyFrom_96, fX0_copyFrom_97, fX0_copyFrom_98, ↓fv_0_5, fX0_copyFrom_101, ↓pf_0_5, fX0_copyFrom_104, fX0_copyFrom_105, fX0_copyFrom_106, ↓fv_0_7, fX0_copyFrom_109, ↓pf_0_7, fX0_copyFrom_112, ↓ex_return_, ↓rt_v, s0, s1, s2, s3, s4, l0, l1, l2, l3, l4, t0, t1, t2, t3, t4, m0, m1, m2, m3, m4, leI, ltI, tI_m5, tI_m4, tI_m3, tI_m2, tI_m1, tI_0, tI_1, tI_2, tI_3, tI_4, tI_5, tI_7, tI_8, tI_10, tI_12, tI_30, tI_31, tI_32, tI_47, tI_48, tI_57, tI_59, tI_42, tI_43, tI_45, tI_61, tI_62, tI_100, tI_120, tI_255, tI_1000, nI_toInt (n := i) (by omega), clampN (n := i) (by omega), add1N, sI_1,
          q 1 (by omega), q 2 (by omega), q 3 (by omega), q 4 (by omega), show ¬ o + 1 = b by omega, show ¬ o + 2 = b by omega, show ¬ o + 3 = b by omega]
        have vi : vp_in (nI i) 12 := vp_inN (by omega) (by omega)
        refine ⟨fun h => absurd h (by omega), fun _ => ⟨vi, vi, vi, vi, vi, vi, vi, vi, ih (i + 1) _ (by omega) ((((hF.pI ⟨by omega, by omega⟩ _ _).pI ⟨by omega, by omega⟩ _ _).pI ⟨by omega, by omega⟩ _ _).pI ⟨by omega, by omega⟩ _ _) (fun e he => ?_)⟩⟩
        by_cases e' : e = i
        · subst e'; simp [sI_1, upd_a]
        · obtain ⟨a1, a2, a3, a4⟩ := hE e (by omega)
          simp [sI_1, upd_a, e', a1, a2, a3, a4]
    refine go hR [(2, [0, 1, 2])] 40 ?_
    simp only [lv_args, ↓reduceIte, Nat.reduceEqDiff, Nat.reduceAdd, Nat.reduceLeDiff, reduceCtorEq, and_true, true_and, false_and, and_false, true_or, or_true, or_false, false_or, true_implies, false_implies, implies_true, not_true_eq_false, not_false_eq_true, eq_self, fx_s, ↓run_s, run_0, ↓rs_n, ↓rs_c, as_s, ls_n, ls_c, lc_s, lget_c, fX0_copyFrom_0, ↓ex_iconst, fX0_copyFrom_1, ↓ex_istore_n, ↓s1I_c, ↓lsto_e, ↓lrmK_n, ↓lrmK_f, ct_i, ct_l, ct_r, fX0_copyFrom_2, ↓ex_iload_n, ↓xI_i, ↓xIg_c, fX0_copyFrom_3, ↓ex_bipush, fX0_copyFrom_5, ↓ex_if_icmp_ge, ↓s2I_c, fX0_copyFrom_8, ↓ex_aload_n, ↓xR_r, ↓xRg_c, fX0_copyFrom_9, ↓ex_getfield, ↓s1R_c, ↓fv_0_0, fX0_copyFrom_12, fX0_copyFrom_13, fX0_copyFrom_14, fX0_copyFrom_17, fX0_copyFrom_18, ↓ex_iaload, ↓sRI_c, ↓scrR_n, fX0_copyFrom_19, ↓ex_iastore, ↓sRII_c, fX0_copyFrom_20, fX0_copyFrom_21, ↓fv_0_1, fX0_copyFrom_24, fX0_copyFrom_25, fX0_copyFrom_26, fX0_copyFrom_29, fX0_copyFrom_30, fX0_copyFrom_31, fX0_copyFrom_32, fX0_copyFrom_33, ↓fv_0_2, fX0_copyFrom_36, fX0_copyFrom_37, fX0_copyFrom_38, fX0_copyFrom_41, fX0_copyFrom_42, fX0_copyFrom_43, fX0_copyFrom_44, fX0_copyFrom_45, ↓fv_0_3, fX0_copyFrom_48, fX0_copyFrom_49, fX0_copyFrom_50, fX0_copyFrom_53, fX0_copyFrom_54, fX0_copyFrom_55, fX0_copyFrom_56, ↓ex_iinc, fX0_copyFrom_59, ↓ex_goto, fX0_copyFrom_62, fX0_copyFrom_63, fX0_copyFrom_64, fX0_copyFrom_65, fX0_copyFrom_67, fX0_copyFrom_70, fX0_copyFrom_71, ↓fv_0_6, fX0_copyFrom_74, fX0_copyFrom_75, fX0_copyFrom_76, fX0_copyFrom_79, fX0_copyFrom_80, fX0_copyFrom_81, fX0_copyFrom_82, fX0_copyFrom_85, fX0_copyFrom_88, fX0_copyFrom_89, fX0_copyFrom_90, ↓fv_0_4, fX0_copyFrom_93, ↓ex_putfield, ↓pf_0_4, fX0_copyFrom_96, fX0_copyFrom_97, fX0_copyFrom_98, ↓fv_0_5, fX0_copyFrom_101, ↓pf_0_5, fX0_copyFrom_104, fX0_copyFrom_105, fX0_copyFrom_106, ↓fv_0_7, fX0_copyFrom_109, ↓pf_0_7, fX0_copyFrom_112, ↓ex_return_, ↓rt_v]
    exact key1 12 0 X (by omega) (Fr.rf _ _) (fun e he => absurd he (by omega))
  next => exact hC.elim)
end SCENE
end
section
section SCENE2
def updN (f : Nat → Nat) (k v : Nat) : Nat → Nat := fun j => if j = k then v else f j
theorem updN_a (f : Nat → Nat) (k v j : Nat) : updN f k v j = if j = k then v else f j := rfl
def fndN (F T : Nat → Nat) (a c : Nat) : Nat → Nat → Option Nat
  | 0, _ => none
  | k + 1, i => if F i = a ∧ T i = c then some i else fndN F T a c k (i + 1)
def fidx (s : SV) (a c : Nat) : Option Nat := fndN s.F s.T a c s.n 0
def oI (o : Option Nat) : Int32 := match o with
  | some j => nI j
  | none => -1
theorem findF_N {F T : Nat → Nat} {a c n : Nat} (hF : ∀ e, e < n → F e < 8 ∧ T e < 8) (ha : a < 8) (hc : c < 8) : ∀ k i, i + k = n → findF F T (nI a) (nI c) k i = oI (fndN F T a c k i) := by
  intro k
  induction k with
  | zero => intro i hi; rfl
  | succ k ih =>
    intro i hi
    obtain ⟨h1, h2⟩ := hF i (by omega)
    unfold findF fndN
    have e1 : (nI (F i) = nI a ∧ nI (T i) = nI c) ↔ (F i = a ∧ T i = c) := by rw [eqN (by omega) (by omega), eqN (by omega) (by omega)]
    by_cases h : F i = a ∧ T i = c
    · rw [if_pos h, if_pos (e1.mpr h)]; rfl
    · rw [if_neg h, if_neg (fun z => h (e1.mp z))]; exact ih (i + 1) (by omega)
theorem findS_N {s : SV} {a c : Nat} (hF : ∀ e, e < s.n → s.F e < 8 ∧ s.T e < 8) (ha : a < 8) (hc : c < 8) : findS s (nI a) (nI c) = oI (fidx s a c) := findF_N hF ha hc s.n 0 (by omega)
theorem fndN_some {F T : Nat → Nat} {a c n : Nat} : ∀ k i j, i + k = n → fndN F T a c k i = some j → i ≤ j ∧ j < n ∧ F j = a ∧ T j = c := by
  intro k
  induction k with
  | zero => intro i j hi h; cases h
  | succ k ih =>
    intro i j hi h
    unfold fndN at h
    split at h
    next g => cases h; exact ⟨by omega, by omega, g⟩
    next g =>
      obtain ⟨h1, h2⟩ := ih (i + 1) j (by omega) h
      exact ⟨by omega, h2⟩
theorem fndN_none {F T : Nat → Nat} {a c n : Nat} : ∀ k i, i + k = n → fndN F T a c k i = none → ∀ j, i ≤ j → j < n → ¬ (F j = a ∧ T j = c) := by
  intro k
  induction k with
  | zero => intro i hi h j h1 h2; omega
  | succ k ih =>
    intro i hi h j h1 h2
    unfold fndN at h
    split at h
    next g => cases h
    next g =>
      by_cases e : j = i
      · rw [e]; exact g
      · exact ih (i + 1) (by omega) h j (by omega) h2
theorem fidx_some {s : SV} {a c j : Nat} (h : fidx s a c = some j) : j < s.n ∧ s.F j = a ∧ s.T j = c := (fndN_some s.n 0 j (by omega) h).2
theorem fidx_none {s : SV} {a c : Nat} (h : fidx s a c = none) : ∀ j, j < s.n → ¬ (s.F j = a ∧ s.T j = c) := fun j hj => fndN_none s.n 0 (by omega) h j (by omega) hj
theorem oI_m1 {o : Option Nat} {n : Nat} (h : ∀ j, o = some j → j < n) (hn : n < 2147483648) : oI o = -1 ↔ o = none := by
  cases o with
  | none => exact ⟨fun _ => rfl, fun _ => rfl⟩
  | some j =>
    refine ⟨fun z => ?_, fun z => (by cases z)⟩
    have := h j rfl
    have h2 : (nI j).toInt = j := nI_toInt (by omega)
    have h3 : (nI j).toInt = (-1 : Int32).toInt := by rw [show nI j = -1 from z]
    rw [h2, tI_m1] at h3
    omega
/-- setting, adding, removing an edge -/
def s_set (s : SV) (j w d : Nat) : SV := (s.n, s.F, s.T, updN s.W j w, updN s.D j d, s.H, s.S, s.Q)
def s_add (s : SV) (a c w d : Nat) : SV := (s.n + 1, updN s.F s.n a, updN s.T s.n c, updN s.W s.n w, updN s.D s.n d, s.H, s.S, s.Q)
def s_put (s : SV) (a c w d : Nat) : SV := match fidx s a c with
  | some j => s_set s j w d
  | none => s_add s a c w d
def s_at (s : SV) (a c : Nat) : Nat := (fidx s a c).getD s.n
def dn (f : Nat → Nat) (k : Nat) : Nat → Nat := fun e => if e < k then f e else f (e + 1)
def s_drop (s : SV) (k : Nat) : SV := (s.n - 1, dn s.F k, dn s.T k, dn s.W k, dn s.D k, s.H, s.S, s.Q)
theorem RS_set {X : XT} {b : Nat} {s : SV} (h : RS X b s) (j w d : Nat) : RS (sI (sI X (b + 3) j (nI w)) (b + 4) j (nI d)) b (s_set s j w d) := by
  obtain ⟨h1, h2, h3, h4, h5⟩ := h
  refine ⟨?_, fun e he => ?_, ?_, fun v hv => ?_, ?_⟩
  · simp [sI_1, h1, s_set, SV.n, SV.F, SV.T, SV.W, SV.D, SV.H, SV.S, SV.Q]
  · obtain ⟨g1, g2, g3, g4⟩ := h2 e he
    by_cases e1 : e = j <;> simp [s_set, sI_1, upd_a, updN_a, g1, g2, e1, g3, g4, SV.n, SV.F, SV.T, SV.W, SV.D, SV.H, SV.S, SV.Q] <;> simp [← e1, g1, g2]
  · simp [sI_1, h3, s_set, SV.n, SV.F, SV.T, SV.W, SV.D, SV.H, SV.S, SV.Q]
  · simp [sI_1, h4 v hv, s_set, SV.n, SV.F, SV.T, SV.W, SV.D, SV.H, SV.S, SV.Q]
  · simp [sI_1, h5, s_set, SV.n, SV.F, SV.T, SV.W, SV.D, SV.H, SV.S, SV.Q]
theorem RS_add {X : XT} {b : Nat} {s : SV} (h : RS X b s) (a c w d : Nat) : RS (sI (sI (sI (sI (sI X (b + 1) s.n (nI a)) (b + 2) s.n (nI c)) b 4 (nI (s.n + 1))) (b + 3) s.n (nI w)) (b + 4) s.n (nI d)) b (s_add s a c w d) := by
  obtain ⟨h1, h2, h3, h4, h5⟩ := h
  refine ⟨?_, fun e he => ?_, ?_, fun v hv => ?_, ?_⟩
  · simp [sI_1, upd_a, s_add, SV.n, SV.F, SV.T, SV.W, SV.D, SV.H, SV.S, SV.Q]
  · have he' : e < s.n + 1 := he
    by_cases e1 : e = s.n
    · subst e1
      simp [s_add, sI_1, upd_a, updN_a, SV.n, SV.F, SV.T, SV.W, SV.D, SV.H, SV.S, SV.Q]
    · obtain ⟨g1, g2, g3, g4⟩ := h2 e (by omega)
      have e2 : ¬ e = s.1 := e1
      simp [s_add, sI_1, upd_a, updN_a, g1, g2, e2, g3, g4, SV.n, SV.F, SV.T, SV.W, SV.D, SV.H, SV.S, SV.Q]
  · simp [sI_1, upd_a, h3, s_add, SV.n, SV.F, SV.T, SV.W, SV.D, SV.H, SV.S, SV.Q]
  · simp [sI_1, h4 v hv, s_add, SV.n, SV.F, SV.T, SV.W, SV.D, SV.H, SV.S, SV.Q]
  · simp [sI_1, upd_a, h5, s_add, SV.n, SV.F, SV.T, SV.W, SV.D, SV.H, SV.S, SV.Q]
noncomputable def C_X0_put : CT := fun As X K => match As with
  | [.ref b, .int a, .int c, .int w, .int d] => ∃ (s : SV) (a' c' w' d' : Nat), (isSc b ∧ RS X b s ∧ s.n ≤ 12 ∧ (∀ e, e < s.n → s.F e < 8 ∧ s.T e < 8) ∧ a = nI a' ∧ c = nI c' ∧ w = nI w' ∧ d = nI d' ∧ a' < 8 ∧ c' < 8 ∧ (fidx s a' c' = none → s.n < 12)) ∧ ∀ X', Fr (scn b) X X' → RS X' b (s_put s a' c' w' d') → K (some (.int (nI (s_at s a' c')))) X'
  | _ => False
set_option maxRecDepth 20000 in
set_option maxHeartbeats 4000000 in
theorem d_X0_put (l : Launch) : Does l yX0_put (wY yX0_put cX0_put 6 (retT 0)) (rmF 1) C_X0_put := does_of (rt := 0) (by decide +kernel) tkX0_put (calls := [(37, false, 3, 0, C_X0_find), (41, false, 1, 0, C_X0_isFull), (45, true, 1, 3, C_X3_isNode)]) (List.forall_mem_cons.mpr ⟨cr_V (d_X0_find l) rfl (by decide +kernel) (by decide +kernel) ⟨rfl, rfl⟩ ⟨Nat.le_of_ble_eq_true rfl, Nat.le_of_ble_eq_true rfl⟩, List.forall_mem_cons.mpr ⟨cr_V (d_X0_isFull l) rfl (by decide +kernel) (by decide +kernel) ⟨rfl, rfl⟩ ⟨Nat.le_of_ble_eq_true rfl, Nat.le_of_ble_eq_true rfl⟩, List.forall_mem_cons.mpr ⟨cr_NS (d_X3_isNode l) (by decide +kernel) (by decide +kernel) (by decide +kernel) ⟨rfl, rfl⟩ ⟨Nat.le_of_ble_eq_true rfl, Nat.le_of_ble_eq_true rfl⟩, fun _ h => absurd h List.not_mem_nil⟩⟩⟩) (by
  intro As X post hC
  unfold C_X0_put at hC
  split at hC
  next b a c w d =>
    obtain ⟨b, rfl⟩ : ∃ q : Nat, q = b := ⟨b, rfl⟩
    obtain ⟨s, a', c', w', d', ⟨hb, hRS, hn, hF, rfl, rfl, rfl, rfl, ha, hc, hfull⟩, hpost⟩ := hC
    refine ⟨Nat.le_of_ble_eq_true rfl, fun R hR => ?_⟩
    obtain ⟨s0, s1, s2, s3, s4, s5, -⟩ := isSc_shp hb
    obtain ⟨l0, l1, l2, l3, l4, l5⟩ := isSc_lt hb
    obtain ⟨h1, h2, h3, h4, h5⟩ := id hRS
    have hb0 : scn b b := ⟨by omega, by omega⟩
    have fin : ∀ (j : Nat) (Y : XT), j < 12 → Fr (scn b) X Y → RS (sI (sI Y (b + 3) j (nI w')) (b + 4) j (nI d')) b (s_put s a' c' w' d') → j = s_at s a' c' → R 69 [(0, .ref b), (1, .int (nI a')), (2, .int (nI c')), (3, .int (nI w')), (4, .int (nI d')), (5, .int (nI j))] [] Y := by
      intro j Y hj hY hr hjs
      refine go hR [] 40 ?_
      simp only [↓reduceIte, Nat.reduceEqDiff, Nat.reduceAdd, Nat.reduceLeDiff, reduceCtorEq, and_true, true_and, false_and, and_false, true_or, or_true, or_false, false_or, true_implies, false_implies, implies_true, not_true_eq_false, not_false_eq_true, eq_self, fx_s, ↓run_s, run_0, ↓rs_n, ↓rs_c, as_s, ls_n, ls_c, lc_s, lget_c, fX0_put_0, ↓ex_aload_n, ↓xR_r, ↓xRg_c, fX0_put_1, ↓ex_iload_n, ↓xI_i, ↓xIg_c, fX0_put_2, fX0_put_3, ↓ex_invokevirtual, ↓xc_0, ↓xc_s, ↓xc_1, ↓pk_s, ↓k_s, ↓k_n, catS_n, catS_c, rOk_c, ct_i, ct_l, ct_r, ↓pk_f, fX0_put_6, ↓ex_istore, ↓s1I_c, ↓lsto_e, ↓lrmK_n, ↓lrmK_f, fX0_put_8, ↓ex_iload, fX0_put_10, ↓ex_iconst, fX0_put_11, ↓ex_if_icmp_ne, ↓s2I_c, fX0_put_14, fX0_put_15, fX0_put_18, ↓ex_ifCond_ne, fX0_put_21, fX0_put_22, ↓ex_invokestatic, ↓pk_t, fX0_put_25, ↓ex_ifCond_eq, fX0_put_28, fX0_put_29, fX0_put_32, fX0_put_35, fX0_put_36, ↓ex_ireturn, ↓rt_i, fX0_put_37, fX0_put_38, ↓ex_getfield, ↓s1R_c, ↓fv_0_4, fX0_put_41, fX0_put_43, fX0_put_44, ↓fv_0_0, fX0_put_47, fX0_put_49, fX0_put_50, ↓ex_iastore, ↓sRII_c, fX0_put_51, fX0_put_52, ↓fv_0_1, fX0_put_55, fX0_put_57, fX0_put_58, fX0_put_59, fX0_put_60, ↓ex_dup, fX0_put_61, fX0_put_64, fX0_put_65, ↓ex_iadd, fX0_put_66, ↓ex_putfield, ↓pf_0_4, fX0_put_69, fX0_put_70, ↓fv_0_2, fX0_put_73, fX0_put_75, fX0_put_76, fX0_put_77, fX0_put_78, ↓fv_0_3, fX0_put_81, fX0_put_83, fX0_put_85, fX0_put_86, fX0_put_88, s0, s3, s4, l0, l3, l4, clampN (n := j) (by omega)]
      refine ⟨vp_inN (by omega) (by omega), vp_inN (by omega) (by omega), ?_⟩
      rw [hjs]; rw [hjs] at hr
      exact hpost _ ((hY.pI ⟨by omega, by omega⟩ _ _).pI ⟨by omega, by omega⟩ _ _) hr
    refine go hR [(69, [0, 1, 2, 3, 4, 5])] 60 ?_
    simp only [lv_args, ↓reduceIte, Nat.reduceEqDiff, Nat.reduceAdd, Nat.reduceLeDiff, reduceCtorEq, and_true, true_and, false_and, and_false, true_or, or_true, or_false, false_or, true_implies, false_implies, implies_true, not_true_eq_false, not_false_eq_true, eq_self, fx_s, ↓run_s, run_0, ↓rs_n, ↓rs_c, as_s, ls_n, ls_c, lc_s, lget_c, fX0_put_0, ↓ex_aload_n, ↓xR_r, ↓xRg_c, fX0_put_1, ↓ex_iload_n, ↓xI_i, ↓xIg_c, fX0_put_2, fX0_put_3, ↓ex_invokevirtual, ↓xc_0, ↓xc_s, ↓xc_1, ↓pk_s, ↓k_s, ↓k_n, catS_n, catS_c, rOk_c, ct_i, ct_l, ct_r, ↓pk_f, fX0_put_6, ↓ex_istore, ↓s1I_c, ↓lsto_e, ↓lrmK_n, ↓lrmK_f, fX0_put_8, ↓ex_iload, fX0_put_10, ↓ex_iconst, fX0_put_11, ↓ex_if_icmp_ne, ↓s2I_c, fX0_put_14, fX0_put_15, fX0_put_18, ↓ex_ifCond_ne, fX0_put_21, fX0_put_22, ↓ex_invokestatic, ↓pk_t, fX0_put_25, ↓ex_ifCond_eq, fX0_put_28, fX0_put_29, fX0_put_32, fX0_put_35, fX0_put_36, ↓ex_ireturn, ↓rt_i, fX0_put_37, fX0_put_38, ↓ex_getfield, ↓s1R_c, ↓fv_0_4, fX0_put_41, fX0_put_43, fX0_put_44, ↓fv_0_0, fX0_put_47, fX0_put_49, fX0_put_50, ↓ex_iastore, ↓sRII_c, fX0_put_51, fX0_put_52, ↓fv_0_1, fX0_put_55, fX0_put_57, fX0_put_58, fX0_put_59, fX0_put_60, ↓ex_dup, fX0_put_61, fX0_put_64, fX0_put_65, ↓ex_iadd, fX0_put_66, ↓ex_putfield, ↓pf_0_4, fX0_put_69, fX0_put_70, ↓fv_0_2, fX0_put_73, fX0_put_75, fX0_put_76, fX0_put_77, fX0_put_78, ↓fv_0_3, fX0_put_81, fX0_put_83, fX0_put_85, fX0_put_86, fX0_put_88, s0, s1, s2, l0, l1, l2, ↓C_X0_find, ↓C_X0_isFull, ↓C_X3_isNode, b2i_0]
    refine ⟨s, ⟨hb, hRS, hn⟩, ?_⟩
    rw [findS_N hF ha hc, oI_m1 (fun j h => (fidx_some h).1) (by omega)]
    refine ⟨fun hj => ?_, fun hj => ⟨s, ⟨hb, hRS, hn⟩, ?_⟩⟩
    · obtain ⟨j, hj⟩ := Option.ne_none_iff_exists'.mp hj
      have hjn := (fidx_some hj).1
      rw [hj]
      refine fin j X (by omega) (Fr.rf _ _) ?_ (by unfold s_at; rw [hj]; rfl)
      unfold s_put
      rw [hj]
      exact RS_set hRS j w' d'
    · have hn12 := hfull hj
      have hnode : ∀ q : Nat, q < 8 → inR (nI q) 0 7 := fun q hq => by unfold inR; rw [nI_toInt (by omega)]; omega
      simp only [hnode a' ha, hnode c' hc, clampN (n := s.n) (by omega), sI_1, show ¬ b = b + 1 by omega, show ¬ b = b + 2 by omega, h1, add1N, ↓reduceIte, not_true_eq_false, not_false_eq_true, false_implies, true_implies, implies_true, and_true, true_and, and_false, false_and, or_true, true_or, or_false, false_or, Classical.not_not, ite_true, ite_false]
      refine ⟨fun z => absurd z (by omega), fun _ => ⟨vp_inN (by omega) (by omega), vp_inN (by omega) (by omega), fin s.n _ hn12 (((Fr.rf _ X).pI ⟨by omega, by omega⟩ _ _).pI ⟨by omega, by omega⟩ _ _ |>.pI hb0 _ _) ?_ (by unfold s_at; rw [hj]; rfl)⟩⟩
      unfold s_put
      rw [hj]
      exact RS_add hRS a' c' w' d'
  next => exact hC.elim)
/-- what a drop does up to place i -/
def C_X0_drop : CT := fun As X K => match As with
  | [.ref b, .int a] => ∃ (s : SV) (k : Nat), (isSc b ∧ RS X b s ∧ s.n ≤ 12 ∧ a = nI k ∧ k < s.n) ∧ ∀ X', Fr (scn b) X X' → RS X' b (s_drop s k) → K none X'
  | _ => False
set_option maxRecDepth 20000 in
set_option maxHeartbeats 4000000 in
theorem d_X0_drop (l : Launch) : Does l yX0_drop (wY yX0_drop cX0_drop 3 (retT 3)) (rmF 1) C_X0_drop := does_of (rt := 3) (by decide +kernel) tkX0_drop (calls := [(49, false, 2, 0, C_X0_hasEdge)]) (List.forall_mem_cons.mpr ⟨cr_V (d_X0_hasEdge l) rfl (by decide +kernel) (by decide +kernel) ⟨rfl, rfl⟩ ⟨Nat.le_of_ble_eq_true rfl, Nat.le_of_ble_eq_true rfl⟩, fun _ h => absurd h List.not_mem_nil⟩) (by
  intro As X post hC
  unfold C_X0_drop at hC
  split at hC
  next b a =>
    obtain ⟨b, rfl⟩ : ∃ q : Nat, q = b := ⟨b, rfl⟩
    obtain ⟨s, k, ⟨hb, hRS, hn, rfl, hk⟩, hpost⟩ := hC
    refine ⟨Nat.le_of_ble_eq_true rfl, fun R hR => ?_⟩
    obtain ⟨s0, s1, s2, s3, s4, s5, -⟩ := isSc_shp hb
    obtain ⟨l0, l1, l2, l3, l4, l5⟩ := isSc_lt hb
    obtain ⟨h1, h2, h3, h4, h5⟩ := id hRS
    have hb0 : scn b b := ⟨by omega, by omega⟩
    have key : ∀ q i Y, i + q = s.n - 1 → k ≤ i → Fr (scn b) X Y → Y.1 b 4 = nI (s.n - 1) → Y.1 b 5 = nI s.H → Y.1 b 7 = nI s.Q → (∀ v, v < 8 → Y.1 (b + 5) v = s.S v) →
        (∀ e, e < i → Y.1 (b + 1) e = nI (dn s.F k e) ∧ Y.1 (b + 2) e = nI (dn s.T k e) ∧ Y.1 (b + 3) e = nI (dn s.W k e) ∧ Y.1 (b + 4) e = nI (dn s.D k e)) →
        (∀ e, i < e → e < s.n → Y.1 (b + 1) e = nI (s.F e) ∧ Y.1 (b + 2) e = nI (s.T e) ∧ Y.1 (b + 3) e = nI (s.W e) ∧ Y.1 (b + 4) e = nI (s.D e)) → R 21 [(0, .ref b), (2, .int (nI i))] [] Y := by
      intro q
      induction q with
      | zero =>
        intro i Y hi hki hF y4 y5 y7 hS hlo hhi
        refine go hR [(21, [0, 2])] 100 ?_
        simp only [↓reduceIte, Nat.reduceEqDiff, Nat.reduceAdd, Nat.reduceLeDiff, reduceCtorEq, and_true, true_and, false_and, and_false, true_or, or_true, or_false, false_or, true_implies, false_implies, implies_true, not_true_eq_false, not_false_eq_true, eq_self, fx_s, ↓run_s, run_0, ↓rs_n, ↓rs_c, as_s, ls_n, ls_c, lc_s, lget_c, fX0_drop_0, ↓ex_aload_n, ↓xR_r, ↓xRg_c, fX0_drop_1, ↓ex_iload_n, ↓xI_i, ↓xIg_c, fX0_drop_2, ↓ex_invokevirtual, ↓xc_0, ↓xc_s, ↓xc_1, ↓pk_s, ↓k_s, ↓k_n, catS_n, catS_c, rOk_c, ct_i, ct_l, ct_r, ↓pk_f, fX0_drop_5, ↓ex_ifCond_ne, ↓s1I_c, fX0_drop_8, ↓ex_return_, ↓rt_v, fX0_drop_9, fX0_drop_10, ↓ex_dup, fX0_drop_11, ↓ex_getfield, ↓s1R_c, ↓fv_0_4, fX0_drop_14, ↓ex_iconst, fX0_drop_15, ↓ex_isub, ↓s2I_c, fX0_drop_16, ↓ex_putfield, ↓pf_0_4, fX0_drop_19, fX0_drop_20, ↓ex_istore_n, ↓lsto_e, ↓lrmK_n, ↓lrmK_f, fX0_drop_21, fX0_drop_22, fX0_drop_23, fX0_drop_26, ↓ex_if_icmp_ge, fX0_drop_29, fX0_drop_30, ↓fv_0_0, fX0_drop_33, fX0_drop_34, fX0_drop_35, fX0_drop_38, fX0_drop_39, fX0_drop_40, ↓ex_iadd, fX0_drop_41, ↓ex_iaload, ↓sRI_c, ↓scrR_n, fX0_drop_42, ↓ex_iastore, ↓sRII_c, fX0_drop_43, fX0_drop_44, ↓fv_0_1, fX0_drop_47, fX0_drop_48, fX0_drop_49, fX0_drop_52, fX0_drop_53, fX0_drop_54, fX0_drop_55, fX0_drop_56, fX0_drop_57, fX0_drop_58, ↓fv_0_2, fX0_drop_61, fX0_drop_62, fX0_drop_63, fX0_drop_66, fX0_drop_67, fX0_drop_68, fX0_drop_69, fX0_drop_70, fX0_drop_71, fX0_drop_72, ↓fv_0_3, fX0_drop_75, fX0_drop_76, fX0_drop_77, fX0_drop_80, fX0_drop_81, fX0_drop_82, fX0_drop_83, fX0_drop_84, fX0_drop_85, ↓ex_iinc, fX0_drop_88, ↓ex_goto, fX0_drop_91, s0, l0, y4, leN (a := s.n - 1) (b := i) (by omega) (by omega)]
        refine ⟨fun _ => hpost Y hF ⟨y4, fun e he => hlo e ?_, y5, hS, y7⟩, fun z => absurd (by omega) z⟩
        have : e < s.n - 1 := he
        omega
      | succ q ih =>
        intro i Y hi hki hF y4 y5 y7 hS hlo hhi
        refine go hR [(21, [0, 2])] 100 ?_
        obtain ⟨g1, g2, g3, g4⟩ := hhi (i + 1) (by omega) (by omega)
        simp only [↓reduceIte, Nat.reduceEqDiff, Nat.reduceAdd, Nat.reduceLeDiff, reduceCtorEq, and_true, true_and, false_and, and_false, true_or, or_true, or_false, false_or, true_implies, false_implies, implies_true, not_true_eq_false, not_false_eq_true, eq_self, fx_s, ↓run_s, run_0, ↓rs_n, ↓rs_c, as_s, ls_n, ls_c, lc_s, lget_c, fX0_drop_0, ↓ex_aload_n, ↓xR_r, ↓xRg_c, fX0_drop_1, ↓ex_iload_n, ↓xI_i, ↓xIg_c, fX0_drop_2, ↓ex_invokevirtual, ↓xc_0, ↓xc_s, ↓xc_1, ↓pk_s, ↓k_s, ↓k_n, catS_n, catS_c, rOk_c, ct_i, ct_l, ct_r, ↓pk_f, fX0_drop_5, ↓ex_ifCond_ne, ↓s1I_c, fX0_drop_8, ↓ex_return_, ↓rt_v, fX0_drop_9, fX0_drop_10, ↓ex_dup, fX0_drop_11, ↓ex_getfield, ↓s1R_c, ↓fv_0_4, fX0_drop_14, ↓ex_iconst, fX0_drop_15, ↓ex_isub, ↓s2I_c, fX0_drop_16, ↓ex_putfield, ↓pf_0_4, fX0_drop_19, fX0_drop_20, ↓ex_istore_n, ↓lsto_e, ↓lrmK_n, ↓lrmK_f, fX0_drop_21, fX0_drop_22, fX0_drop_23, fX0_drop_26, ↓ex_if_icmp_ge, fX0_drop_29, fX0_drop_30, ↓fv_0_0, fX0_drop_33, fX0_drop_34, fX0_drop_35, fX0_drop_38, fX0_drop_39, fX0_drop_40, ↓ex_iadd, fX0_drop_41, ↓ex_iaload, ↓sRI_c, ↓scrR_n, fX0_drop_42, ↓ex_iastore, ↓sRII_c, fX0_drop_43, fX0_drop_44, ↓fv_0_1, fX0_drop_47, fX0_drop_48, fX0_drop_49, fX0_drop_52, fX0_drop_53, fX0_drop_54, fX0_drop_55, fX0_drop_56, fX0_drop_57, fX0_drop_58, ↓fv_0_2, fX0_drop_61, fX0_drop_62, fX0_drop_63, fX0_drop_66, fX0_drop_67, fX0_drop_68, fX0_drop_69, fX0_drop_70, fX0_drop_71, fX0_drop_72, ↓fv_0_3, fX0_drop_75, fX0_drop_76, fX0_drop_77, fX0_drop_80, fX0_drop_81, fX0_drop_82, fX0_drop_83, fX0_drop_84, fX0_drop_85, ↓ex_iinc, fX0_drop_88, ↓ex_goto, fX0_drop_91, s0, s1, s2, s3, s4, l0, l1, l2, l3, l4, y4, leN (a := s.n - 1) (b := i) (by omega) (by omega), add1N, clampN (n := i) (by omega), clampN (n := i + 1) (by omega), sI_1, g1, g2, g3, g4, ↓reduceIte, not_true_eq_false, not_false_eq_true, false_implies, true_implies, implies_true, and_true, true_and, and_false, false_and, or_true, true_or, or_false, false_or, Classical.not_not, ite_true, ite_false]
        have v1 : vp_in (nI i) 12 := vp_inN (by omega) (by omega)
        have v2 : vp_in (nI (i + 1)) 12 := vp_inN (by omega) (by omega)
        refine ⟨fun z => absurd z (by omega), fun _ => ⟨v2, v1, v2, v1, v2, v1, v2, v1, ih (i + 1) _ (by omega) (by omega) ((((hF.pI ⟨by omega, by omega⟩ _ _).pI ⟨by omega, by omega⟩ _ _).pI ⟨by omega, by omega⟩ _ _).pI ⟨by omega, by omega⟩ _ _) ?_ ?_ ?_ (fun v hv => ?_) (fun e he => ?_) (fun e he he2 => ?_)⟩⟩
        · simp [sI_1, y4]
        · simp [sI_1, y5]
        · simp [sI_1, y7]
        · simp [sI_1, hS v hv]
        · by_cases e1 : e = i
          · subst e1
            have d1 : ¬ e < k := by omega
            simp [sI_1, upd_a, dn, d1, g1, g2, g3, g4]
          · obtain ⟨a1, a2, a3, a4⟩ := hlo e (by omega)
            simp [sI_1, upd_a, e1, a1, a2, a3, a4]
        · have e1 : ¬ e = i := by omega
          obtain ⟨a1, a2, a3, a4⟩ := hhi e (by omega) he2
          simp [sI_1, upd_a, e1, a1, a2, a3, a4]
    refine go hR [(21, [0, 2])] 100 ?_
    have e1 : nI s.n - 1 = nI (s.n - 1) := pk_sub (a := s.n) (b := 1) (by omega)
    have e2 : (0 ≤ (nI k).toInt ∧ (nI k).toInt < (s.n : Int)) := by rw [nI_toInt (by omega)]; omega
    simp only [lv_args, ↓reduceIte, Nat.reduceEqDiff, Nat.reduceAdd, Nat.reduceLeDiff, reduceCtorEq, and_true, true_and, false_and, and_false, true_or, or_true, or_false, false_or, true_implies, false_implies, implies_true, not_true_eq_false, not_false_eq_true, eq_self, fx_s, ↓run_s, run_0, ↓rs_n, ↓rs_c, as_s, ls_n, ls_c, lc_s, lget_c, fX0_drop_0, ↓ex_aload_n, ↓xR_r, ↓xRg_c, fX0_drop_1, ↓ex_iload_n, ↓xI_i, ↓xIg_c, fX0_drop_2, ↓ex_invokevirtual, ↓xc_0, ↓xc_s, ↓xc_1, ↓pk_s, ↓k_s, ↓k_n, catS_n, catS_c, rOk_c, ct_i, ct_l, ct_r, ↓pk_f, fX0_drop_5, ↓ex_ifCond_ne, ↓s1I_c, fX0_drop_8, ↓ex_return_, ↓rt_v, fX0_drop_9, fX0_drop_10, ↓ex_dup, fX0_drop_11, ↓ex_getfield, ↓s1R_c, ↓fv_0_4, fX0_drop_14, ↓ex_iconst, fX0_drop_15, ↓ex_isub, ↓s2I_c, fX0_drop_16, ↓ex_putfield, ↓pf_0_4, fX0_drop_19, fX0_drop_20, ↓ex_istore_n, ↓lsto_e, ↓lrmK_n, ↓lrmK_f, fX0_drop_21, fX0_drop_22, fX0_drop_23, fX0_drop_26, ↓ex_if_icmp_ge, fX0_drop_29, fX0_drop_30, ↓fv_0_0, fX0_drop_33, fX0_drop_34, fX0_drop_35, fX0_drop_38, fX0_drop_39, fX0_drop_40, ↓ex_iadd, fX0_drop_41, ↓ex_iaload, ↓sRI_c, ↓scrR_n, fX0_drop_42, ↓ex_iastore, ↓sRII_c, fX0_drop_43, fX0_drop_44, ↓fv_0_1, fX0_drop_47, fX0_drop_48, fX0_drop_49, fX0_drop_52, fX0_drop_53, fX0_drop_54, fX0_drop_55, fX0_drop_56, fX0_drop_57, fX0_drop_58, ↓fv_0_2, fX0_drop_61, fX0_drop_62, fX0_drop_63, fX0_drop_66, fX0_drop_67, fX0_drop_68, fX0_drop_69, fX0_drop_70, fX0_drop_71, fX0_drop_72, ↓fv_0_3, fX0_drop_75, fX0_drop_76, fX0_drop_77, fX0_drop_80, fX0_drop_81, fX0_drop_82, fX0_drop_83, fX0_drop_84, fX0_drop_85, ↓ex_iinc, fX0_drop_88, ↓ex_goto, fX0_drop_91, s0, l0, ↓C_X0_hasEdge, b2i_0, h1, e1]
    refine ⟨s, ⟨hb, hRS, hn⟩, fun _ => ?_, fun z => absurd e2 z⟩
    refine key (s.n - 1 - k) k _ (by omega) (by omega) ((Fr.rf _ X).pI hb0 _ _) ?_ ?_ ?_ (fun v hv => ?_) (fun e he => ?_) (fun e he he2 => ?_)
    · simp [sI_1, upd_a]
    · simp [sI_1, upd_a, h3]
    · simp [sI_1, upd_a, h5]
    · simp [sI_1, h4 v hv]
    · obtain ⟨a1, a2, a3, a4⟩ := h2 e (by omega)
      simp [sI_1, dn, he, a1, a2, a3, a4]
    · obtain ⟨a1, a2, a3, a4⟩ := h2 e he2
      simp [sI_1, a1, a2, a3, a4]
  next => exact hC.elim)
end SCENE2
end
section
/-! The state of the whole class, and what its calls keep. -/
section REL
abbrev SG : Type := SV × Nat × (Nat → SV) × Nat × (Nat → Int32)
abbrev SG.now (g : SG) : SV := g.1
abbrev SG.kept (g : SG) : Nat := g.2.1
abbrev SG.hist (g : SG) : Nat → SV := g.2.2.1
abbrev SG.size (g : SG) : Nat := g.2.2.2.1
abbrev SG.bytes (g : SG) : Nat → Int32 := g.2.2.2.2
def pastR (r j : Nat) : Nat := 21 + 6 * ((j + r) % 5)
theorem pastR_sc (r j : Nat) : isSc (pastR r j) := by
  unfold isSc pastR
  have : (j + r) % 5 < 5 := Nat.mod_lt _ (by decide)
  simp only [List.mem_cons, List.not_mem_nil, or_false]
  omega
theorem pastR_hi (r j : Nat) : 21 ≤ pastR r j ∧ pastR r j + 5 < 51 := by
  unfold pastR
  have : (j + r) % 5 < 5 := Nat.mod_lt _ (by decide)
  omega
theorem pastR_inj {r i j : Nat} (hi : i < 5) (hj : j < 5) (h : pastR r i = pastR r j) : i = j := by
  unfold pastR at h
  omega
def bytesOK (g : SG) : Prop := g.size ≤ 120 ∧ ∀ i, i < g.size → 0 ≤ (g.bytes i).toInt ∧ (g.bytes i).toInt ≤ 255
def okG (g : SG) : Prop := WF g.now ∧ g.kept ≤ 5 ∧ (∀ j, j < g.kept → WF (g.hist j)) ∧ bytesOK g
def RelC (X : XT) (g : SG) : Prop := okG g ∧ RS X 1 g.now ∧ X.1 0 5 = nI g.kept ∧ (∃ r, (∀ j, j < 5 → X.2.2 j = pastR r j) ∧ ∀ j, j < g.kept → RS X (pastR r j) (g.hist j)) ∧ X.1 12 1 = nI g.size ∧ ∀ i, i < g.size → X.1 13 i = g.bytes i
/-- the model's cells stay -/
def FrM (X X' : XT) : Prop := ∀ k, 51 ≤ k → X'.1 k = X.1 k ∧ X'.2.1 k = X.2.1 k
theorem FrM.rf (X : XT) : FrM X X := fun _ _ => ⟨rfl, rfl⟩
theorem FrM.tr {X Y Z : XT} (h : FrM X Y) (g : FrM Y Z) : FrM X Z := fun k hk => ⟨(g k hk).1.trans (h k hk).1, (g k hk).2.trans (h k hk).2⟩
theorem FrM.of {P : Nat → Prop} {X Y : XT} (h : Fr P X Y) (hP : ∀ k, P k → k < 51) : FrM X Y := fun k hk => ⟨h.1 k (fun z => by have := hP k z; omega), h.2.1 k (fun z => by have := hP k z; omega)⟩
theorem scn_lt {b : Nat} (h : isSc b) : ∀ k, scn b k → k < 51 := fun k hk => by
  have := isSc_hi h
  unfold scn at hk
  omega
/-- another present state -/
theorem RelC.setNow {X X' : XT} {g : SG} {s : SV} (h : RelC X g) (hF : Fr (scn 1) X X') (hs : RS X' 1 s) (hw : WF s) : RelC X' (s, g.2) := by
  obtain ⟨⟨w1, w2, w3, w4⟩, h1, h2, ⟨r, h3, h4⟩, h5, h6⟩ := h
  refine ⟨⟨hw, w2, w3, w4⟩, hs, ?_, ⟨r, fun j hj => by rw [hF.2.2]; exact h3 j hj, fun j hj => (h4 j hj).fr hF (fun k hk z => ?_)⟩, ?_, fun i hi => ?_⟩
  · rw [hF.1 0 (fun z => by unfold scn at z; omega)]; exact h2
  · have := pastR_hi r j
    unfold scn at hk z
    omega
  · rw [hF.1 12 (fun z => by unfold scn at z; omega)]; exact h5
  · rw [hF.1 13 (fun z => by unfold scn at z; omega)]; exact h6 i hi
/-- cells that no call relies on: those of the spread, the likelihoods, the draft -/
def scr (k : Nat) : Prop := (8 ≤ k ∧ k ≤ 11) ∨ k = 20 ∨ (14 ≤ k ∧ k ≤ 19)
theorem RelC.scrap {X X' : XT} {g : SG} (h : RelC X g) (hF : Fr scr X X') : RelC X' g := by
  obtain ⟨w, h1, h2, ⟨r, h3, h4⟩, h5, h6⟩ := h
  refine ⟨w, h1.fr hF (fun k hk z => ?_), ?_, ⟨r, fun j hj => by rw [hF.2.2]; exact h3 j hj, fun j hj => (h4 j hj).fr hF (fun k hk z => ?_)⟩, ?_, fun i hi => ?_⟩
  · unfold scn at hk; unfold scr at z; omega
  · rw [hF.1 0 (fun z => by unfold scr at z; omega)]; exact h2
  · have := pastR_hi r j
    unfold scn at hk; unfold scr at z
    omega
  · rw [hF.1 12 (fun z => by unfold scr at z; omega)]; exact h5
  · rw [hF.1 13 (fun z => by unfold scr at z; omega)]; exact h6 i hi
end REL
end
section
section REMEMBER
def s_rem0 (g : SG) : SG := (g.now, g.kept + 1, fun j => if j = g.kept then g.now else g.hist j, g.size, g.bytes)
def s_shift (g : SG) : SG := (g.now, 4, fun j => g.hist (j + 1), g.size, g.bytes)
def s_rem (g : SG) : SG := if g.kept = 5 then s_rem0 (s_shift g) else s_rem0 g
def FrR (X X' : XT) : Prop := ∀ k, ¬ (k = 0 ∨ (21 ≤ k ∧ k ≤ 50)) → X'.1 k = X.1 k ∧ X'.2.1 k = X.2.1 k
theorem FrR.M {X X' : XT} (h : FrR X X') : FrM X X' := fun k hk => h k (by omega)
def C_X3_remember : CT := fun As X K => match As with
  | [.ref b] => ∃ g : SG, (b = 0 ∧ RelC X g) ∧ ∀ X', RelC X' (s_rem g) → FrR X X' → K none X'
  | _ => False
set_option maxRecDepth 20000 in
set_option maxHeartbeats 4000000 in
theorem d_X3_remember (l : Launch) : Does l yX3_remember (wY yX3_remember cX3_remember 3 (retT 3)) (rmF 1) C_X3_remember := does_of (rt := 3) (by decide +kernel) tkX3_remember (calls := [(188, false, 2, 0, C_X0_copyFrom)]) (List.forall_mem_cons.mpr ⟨cr_NV (d_X0_copyFrom l) rfl (by decide +kernel) (by decide +kernel) (by decide +kernel) ⟨rfl, rfl⟩ ⟨Nat.le_of_ble_eq_true rfl, Nat.le_of_ble_eq_true rfl⟩, fun _ h => absurd h List.not_mem_nil⟩) (by
  intro As X post hC
  unfold C_X3_remember at hC
  split at hC
  next b =>
    obtain ⟨g, ⟨rfl, hR0⟩, hpost⟩ := hC
    refine ⟨Nat.le_of_ble_eq_true rfl, fun R hR => ?_⟩
    have sh0 : shp 0 = (3, 0) := rfl
    have sh7 : shp 7 = (8, 5) := rfl
    have h0 : (0 : Nat) < NC := by decide
    have h7 : (7 : Nat) < NC := by decide
    have fin : ∀ (Y : XT) (g' : SG), RelC Y g' → g'.kept < 5 → FrR X Y → s_rem0 g' = s_rem g → R 74 [(0, .ref 0)] [] Y := by
      intro Y g' hY hk hF he
      obtain ⟨⟨w1, w2, w3, w4⟩, c1, c2, ⟨r, c3, c4⟩, c5, c6⟩ := id hY
      refine go hR [] 40 ?_
      simp only [↓reduceIte, Nat.reduceEqDiff, Nat.reduceAdd, Nat.reduceLeDiff, reduceCtorEq, and_true, true_and, false_and, and_false, true_or, or_true, or_false, false_or, true_implies, false_implies, implies_true, not_true_eq_false, not_false_eq_true, eq_self, fx_s, ↓run_s, run_0, ↓rs_n, ↓rs_c, as_s, ls_n, ls_c, lc_s, lget_c, fX3_remember_0, ↓ex_aload_n, ↓xR_r, ↓xRg_c, fX3_remember_1, ↓ex_getfield, ↓s1R_c, ↓fv_3_5, fX3_remember_4, fX3_remember_5, ↓fv_3_1, fX3_remember_8, ↓ex_arraylength, ↓scrN_n, fX3_remember_9, ↓ex_if_icmp_lt, ↓s2I_c, fX3_remember_12, fX3_remember_13, fX3_remember_16, ↓ex_iconst, fX3_remember_17, ↓ex_aaload, ↓sRI_c, fX3_remember_18, ↓ex_astore_n, ↓lsto_e, ↓lrmK_n, ↓lrmK_f, ct_i, ct_l, ct_r, fX3_remember_19, fX3_remember_20, ↓ex_istore_n, ↓s1I_c, fX3_remember_21, ↓ex_iload_n, ↓xI_i, ↓xIg_c, fX3_remember_22, fX3_remember_23, fX3_remember_26, fX3_remember_27, ↓ex_if_icmp_ge, fX3_remember_30, fX3_remember_31, fX3_remember_34, fX3_remember_35, fX3_remember_36, ↓ex_isub, fX3_remember_37, fX3_remember_38, fX3_remember_41, fX3_remember_42, fX3_remember_43, ↓ex_aastore, ↓sRIR_c, fX3_remember_44, ↓ex_iinc, fX3_remember_47, ↓ex_goto, fX3_remember_50, fX3_remember_51, fX3_remember_54, fX3_remember_55, fX3_remember_58, fX3_remember_59, fX3_remember_60, fX3_remember_61, fX3_remember_62, fX3_remember_63, fX3_remember_64, fX3_remember_65, fX3_remember_68, fX3_remember_69, fX3_remember_70, fX3_remember_71, ↓ex_putfield, ↓pf_3_5, fX3_remember_74, fX3_remember_75, fX3_remember_78, fX3_remember_79, fX3_remember_82, fX3_remember_83, fX3_remember_84, ↓fv_3_0, fX3_remember_87, ↓ex_invokevirtual, ↓xc_0, ↓xc_s, ↓xc_1, ↓pk_s, ↓k_s, ↓k_n, catS_n, catS_c, rOk_c, ↓pk_f, fX3_remember_90, fX3_remember_91, ↓ex_dup, fX3_remember_92, fX3_remember_95, fX3_remember_96, ↓ex_iadd, fX3_remember_97, fX3_remember_100, ↓ex_return_, ↓rt_v, sh0, sh7, h0, h7, ↓C_X0_copyFrom, c2, clampN (n := g'.kept) (by omega), c3 _ hk]
      refine ⟨vp_inN (by omega) hk, ⟨(isSc_lt (pastR_sc r _)).1, by rw [(isSc_shp (pastR_sc r _)).1]⟩, g'.now, ⟨pastR_sc r _, by unfold isSc; simp, (fun z => by have := pastR_hi r g'.kept; have z2 : pastR r g'.kept = 1 := z; omega), c1, w1.1⟩, fun Z hZ hs => ?_⟩
      have z0 : Z.1 0 = Y.1 0 := hZ.1 0 (fun z => by have := pastR_hi r g'.kept; unfold scn at z; omega)
      refine hpost _ ?_ ?_
      · rw [← he]
        refine ⟨⟨w1, (by show g'.kept + 1 ≤ 5; omega), fun j hj => ?_, w4⟩, ?_, ?_, ⟨r, fun j hj => ?_, fun j hj => ?_⟩, ?_, fun i hi => ?_⟩
        · show WF (if j = g'.kept then g'.now else g'.hist j)
          have hj' : j < g'.kept + 1 := hj
          split
          · exact w1
          · exact w3 j (by omega)
        · refine RS.fr (P := fun k => scn (pastR r g'.kept) k ∨ k = 0) c1 ⟨fun k hk => ?_, fun k hk => ?_, ?_⟩ (fun k hk z => ?_)
          · rw [sI_1, if_neg (fun z => hk (Or.inr z))]; exact hZ.1 k (fun z => hk (Or.inl z))
          · exact hZ.2.1 k (fun z => hk (Or.inl z))
          · exact hZ.2.2
          · have := pastR_hi r g'.kept
            unfold scn at hk z
            omega
        · simp [sI_1, upd_a, z0, c2, add1N, s_rem0]
        · show Z.2.2 j = _
          rw [hZ.2.2]; exact c3 j hj
        · have hj' : j < g'.kept + 1 := hj
          have hne : ∀ k, scn (pastR r j) k → k ≠ 0 := fun k hk => by have := pastR_hi r j; unfold scn at hk; omega
          show RS _ _ (if j = g'.kept then g'.now else g'.hist j)
          split
          next e =>
            subst e
            exact RS.fr (P := fun k => k = 0) hs (Fr.pI (P := fun k => k = 0) (Fr.rf _ Z) rfl _ _) hne
          next e =>
            have hdis : pastR r j ≠ pastR r g'.kept := fun z => e (pastR_inj (by omega) (by omega) z)
            refine RS.fr (P := fun k => k = 0) (RS.fr (c4 j (by omega)) hZ (fun k hk z => ?_)) (Fr.pI (P := fun k => k = 0) (Fr.rf _ Z) rfl _ _) hne
            have := isSc_ne (pastR_sc r j) (pastR_sc r g'.kept) hdis
            unfold scn at hk z
            omega
        · rw [sI_1, if_neg (by decide), hZ.1 12 (fun z => by have := pastR_hi r g'.kept; unfold scn at z; omega)]; exact c5
        · rw [sI_1, if_neg (by decide), hZ.1 13 (fun z => by have := pastR_hi r g'.kept; unfold scn at z; omega)]; exact c6 i hi
      · intro k hk
        have hn : ¬ scn (pastR r g'.kept) k := fun z => by have := pastR_hi r g'.kept; unfold scn at z; omega
        refine ⟨?_, ?_⟩
        · rw [sI_1, if_neg (fun z => hk (Or.inl z)), hZ.1 k hn]; exact (hF k hk).1
        · show Z.2.1 k = _
          rw [hZ.2.1 k hn]; exact (hF k hk).2
    obtain ⟨⟨w1, w2, w3, w4⟩, c1, c2, ⟨r, c3, c4⟩, c5, c6⟩ := id hR0
    by_cases hk5 : g.kept = 5
    · have key : ∀ k i f, i + k = 5 → 1 ≤ i → (∀ j, j + 1 < i → f j = pastR r (j + 1)) → (∀ j, i ≤ j + 1 → j < 5 → f j = pastR r j) → R 21 [(0, .ref 0), (1, .ref (pastR r 0)), (2, .int (nI i))] [] (X.1, X.2.1, f) := by
        intro k
        induction k with
        | zero =>
          intro i f hi h1 hlo hhi
          have hi5 : i = 5 := by omega
          subst hi5
          refine go hR [(21, [0, 1, 2]), (74, [0])] 60 ?_
          have e1 : nI 5 - 1 = nI 4 := rfl
          simp only [↓reduceIte, Nat.reduceEqDiff, Nat.reduceAdd, Nat.reduceLeDiff, reduceCtorEq, and_true, true_and, false_and, and_false, true_or, or_true, or_false, false_or, true_implies, false_implies, implies_true, not_true_eq_false, not_false_eq_true, eq_self, fx_s, ↓run_s, run_0, ↓rs_n, ↓rs_c, as_s, ls_n, ls_c, lc_s, lget_c, fX3_remember_0, ↓ex_aload_n, ↓xR_r, ↓xRg_c, fX3_remember_1, ↓ex_getfield, ↓s1R_c, ↓fv_3_5, fX3_remember_4, fX3_remember_5, ↓fv_3_1, fX3_remember_8, ↓ex_arraylength, ↓scrN_n, fX3_remember_9, ↓ex_if_icmp_lt, ↓s2I_c, fX3_remember_12, fX3_remember_13, fX3_remember_16, ↓ex_iconst, fX3_remember_17, ↓ex_aaload, ↓sRI_c, fX3_remember_18, ↓ex_astore_n, ↓lsto_e, ↓lrmK_n, ↓lrmK_f, ct_i, ct_l, ct_r, fX3_remember_19, fX3_remember_20, ↓ex_istore_n, ↓s1I_c, fX3_remember_21, ↓ex_iload_n, ↓xI_i, ↓xIg_c, fX3_remember_22, fX3_remember_23, fX3_remember_26, fX3_remember_27, ↓ex_if_icmp_ge, fX3_remember_30, fX3_remember_31, fX3_remember_34, fX3_remember_35, fX3_remember_36, ↓ex_isub, fX3_remember_37, fX3_remember_38, fX3_remember_41, fX3_remember_42, fX3_remember_43, ↓ex_aastore, ↓sRIR_c, fX3_remember_44, ↓ex_iinc, fX3_remember_47, ↓ex_goto, fX3_remember_50, fX3_remember_51, fX3_remember_54, fX3_remember_55, fX3_remember_58, fX3_remember_59, fX3_remember_60, fX3_remember_61, fX3_remember_62, fX3_remember_63, fX3_remember_64, fX3_remember_65, fX3_remember_68, fX3_remember_69, fX3_remember_70, fX3_remember_71, ↓ex_putfield, ↓pf_3_5, fX3_remember_74, fX3_remember_75, fX3_remember_78, fX3_remember_79, fX3_remember_82, fX3_remember_83, fX3_remember_84, ↓fv_3_0, fX3_remember_87, ↓ex_invokevirtual, ↓xc_0, ↓xc_s, ↓xc_1, ↓pk_s, ↓k_s, ↓k_n, catS_n, catS_c, rOk_c, ↓pk_f, fX3_remember_90, fX3_remember_91, ↓ex_dup, fX3_remember_92, fX3_remember_95, fX3_remember_96, ↓ex_iadd, fX3_remember_97, fX3_remember_100, ↓ex_return_, ↓rt_v, sh0, sh7, h0, h7, e1, clampN (n := 4) (by omega)]
          refine ⟨fun _ => ⟨⟨vp_inN (by omega) (by omega), (isSc_lt (pastR_sc r _)).1, by rw [(isSc_shp (pastR_sc r _)).1]⟩, ?_⟩, fun z => absurd (by rw [leN (by omega) (by omega)]; omega) z⟩
          refine fin _ (s_shift g) ⟨⟨w1, (by show 4 ≤ 5; omega), fun j hj => w3 (j + 1) (by have : j < 4 := hj; omega), w4⟩, ?_, ?_, ⟨(r + 1) % 5, fun j hj => ?_, fun j hj => ?_⟩, ?_, fun i hi => ?_⟩ (by show 4 < 5; omega) (fun q hq => ⟨?_, rfl⟩) (by unfold s_rem; rw [if_pos hk5])
          · exact RS.fr1 c1 (fun k hk => by rw [sI_1, if_neg (by unfold scn at hk; omega)]; rfl)
          · simp [sI_1, upd_a, s_shift]
          · have : ∀ f' : Nat → Nat, (sI (sR (X.1, X.2.1, f) 4 (pastR r 0)) 0 5 (nI 4)).2.2 j = va_up f 4 (pastR r 0) j := fun _ => rfl
            rw [this f]
            unfold va_up
            by_cases e : j = 4
            · rw [if_pos e, e]
              unfold pastR
              omega
            · rw [if_neg e, hlo j (by omega)]
              unfold pastR
              omega
          · have hj4 : j < 4 := hj
            have e : pastR ((r + 1) % 5) j = pastR r (j + 1) := by unfold pastR; omega
            rw [e]
            exact RS.fr1 (c4 (j + 1) (by omega)) (fun k hk => by rw [sI_1, if_neg (by have := pastR_hi r (j + 1); unfold scn at hk; omega)]; rfl)
          · rw [sI_1, if_neg (by decide)]; exact c5
          · rw [sI_1, if_neg (by decide)]; exact c6 i hi
          · rw [sI_1, if_neg (fun z => hq (Or.inl z))]; rfl
        | succ k ih =>
          intro i f hi h1 hlo hhi
          refine go hR [(21, [0, 1, 2]), (74, [0])] 60 ?_
          have e1 : nI i - 1 = nI (i - 1) := pk_sub (a := i) (b := 1) (by omega)
          simp only [↓reduceIte, Nat.reduceEqDiff, Nat.reduceAdd, Nat.reduceLeDiff, reduceCtorEq, and_true, true_and, false_and, and_false, true_or, or_true, or_false, false_or, true_implies, false_implies, implies_true, not_true_eq_false, not_false_eq_true, eq_self, fx_s, ↓run_s, run_0, ↓rs_n, ↓rs_c, as_s, ls_n, ls_c, lc_s, lget_c, fX3_remember_0, ↓ex_aload_n, ↓xR_r, ↓xRg_c, fX3_remember_1, ↓ex_getfield, ↓s1R_c, ↓fv_3_5, fX3_remember_4, fX3_remember_5, ↓fv_3_1, fX3_remember_8, ↓ex_arraylength, ↓scrN_n, fX3_remember_9, ↓ex_if_icmp_lt, ↓s2I_c, fX3_remember_12, fX3_remember_13, fX3_remember_16, ↓ex_iconst, fX3_remember_17, ↓ex_aaload, ↓sRI_c, fX3_remember_18, ↓ex_astore_n, ↓lsto_e, ↓lrmK_n, ↓lrmK_f, ct_i, ct_l, ct_r, fX3_remember_19, fX3_remember_20, ↓ex_istore_n, ↓s1I_c, fX3_remember_21, ↓ex_iload_n, ↓xI_i, ↓xIg_c, fX3_remember_22, fX3_remember_23, fX3_remember_26, fX3_remember_27, ↓ex_if_icmp_ge, fX3_remember_30, fX3_remember_31, fX3_remember_34, fX3_remember_35, fX3_remember_36, ↓ex_isub, fX3_remember_37, fX3_remember_38, fX3_remember_41, fX3_remember_42, fX3_remember_43, ↓ex_aastore, ↓sRIR_c, fX3_remember_44, ↓ex_iinc, fX3_remember_47, ↓ex_goto, fX3_remember_50, fX3_remember_51, fX3_remember_54, fX3_remember_55, fX3_remember_58, fX3_remember_59, fX3_remember_60, fX3_remember_61, fX3_remember_62, fX3_remember_63, fX3_remember_64, fX3_remember_65, fX3_remember_68, fX3_remember_69, fX3_remember_70, fX3_remember_71, ↓ex_putfield, ↓pf_3_5, fX3_remember_74, fX3_remember_75, fX3_remember_78, fX3_remember_79, fX3_remember_82, fX3_remember_83, fX3_remember_84, ↓fv_3_0, fX3_remember_87, ↓ex_invokevirtual, ↓xc_0, ↓xc_s, ↓xc_1, ↓pk_s, ↓k_s, ↓k_n, catS_n, catS_c, rOk_c, ↓pk_f, fX3_remember_90, fX3_remember_91, ↓ex_dup, fX3_remember_92, fX3_remember_95, fX3_remember_96, ↓ex_iadd, fX3_remember_97, fX3_remember_100, ↓ex_return_, ↓rt_v, sh0, sh7, h0, h7, e1, clampN (n := i) (by omega), clampN (n := i - 1) (by omega), add1N]
          refine ⟨fun z => absurd z (by rw [leN (by omega) (by omega)]; omega), fun _ => ⟨vp_inN (by omega) (by omega), ⟨vp_inN (by omega) (by omega), ?_, ?_⟩, ih (i + 1) (va_up f (i - 1) (f i)) (by omega) (by omega) (fun j hj => ?_) (fun j hj hj5 => ?_)⟩⟩
          · rw [hhi i (by omega) (by omega)]; exact (isSc_lt (pastR_sc r _)).1
          · rw [hhi i (by omega) (by omega), (isSc_shp (pastR_sc r _)).1]
          · unfold va_up
            by_cases e : j = i - 1
            · rw [if_pos e, hhi i (by omega) (by omega), e]
              congr 1
              omega
            · rw [if_neg e]; exact hlo j (by omega)
          · unfold va_up
            rw [if_neg (by omega)]; exact hhi j (by omega) hj5
      refine go hR [(21, [0, 1, 2]), (74, [0])] 60 ?_
      simp only [lv_args, ↓reduceIte, Nat.reduceEqDiff, Nat.reduceAdd, Nat.reduceLeDiff, reduceCtorEq, and_true, true_and, false_and, and_false, true_or, or_true, or_false, false_or, true_implies, false_implies, implies_true, not_true_eq_false, not_false_eq_true, eq_self, fx_s, ↓run_s, run_0, ↓rs_n, ↓rs_c, as_s, ls_n, ls_c, lc_s, lget_c, fX3_remember_0, ↓ex_aload_n, ↓xR_r, ↓xRg_c, fX3_remember_1, ↓ex_getfield, ↓s1R_c, ↓fv_3_5, fX3_remember_4, fX3_remember_5, ↓fv_3_1, fX3_remember_8, ↓ex_arraylength, ↓scrN_n, fX3_remember_9, ↓ex_if_icmp_lt, ↓s2I_c, fX3_remember_12, fX3_remember_13, fX3_remember_16, ↓ex_iconst, fX3_remember_17, ↓ex_aaload, ↓sRI_c, fX3_remember_18, ↓ex_astore_n, ↓lsto_e, ↓lrmK_n, ↓lrmK_f, ct_i, ct_l, ct_r, fX3_remember_19, fX3_remember_20, ↓ex_istore_n, ↓s1I_c, fX3_remember_21, ↓ex_iload_n, ↓xI_i, ↓xIg_c, fX3_remember_22, fX3_remember_23, fX3_remember_26, fX3_remember_27, ↓ex_if_icmp_ge, fX3_remember_30, fX3_remember_31, fX3_remember_34, fX3_remember_35, fX3_remember_36, ↓ex_isub, fX3_remember_37, fX3_remember_38, fX3_remember_41, fX3_remember_42, fX3_remember_43, ↓ex_aastore, ↓sRIR_c, fX3_remember_44, ↓ex_iinc, fX3_remember_47, ↓ex_goto, fX3_remember_50, fX3_remember_51, fX3_remember_54, fX3_remember_55, fX3_remember_58, fX3_remember_59, fX3_remember_60, fX3_remember_61, fX3_remember_62, fX3_remember_63, fX3_remember_64, fX3_remember_65, fX3_remember_68, fX3_remember_69, fX3_remember_70, fX3_remember_71, ↓ex_putfield, ↓pf_3_5, fX3_remember_74, fX3_remember_75, fX3_remember_78, fX3_remember_79, fX3_remember_82, fX3_remember_83, fX3_remember_84, ↓fv_3_0, fX3_remember_87, ↓ex_invokevirtual, ↓xc_0, ↓xc_s, ↓xc_1, ↓pk_s, ↓k_s, ↓k_n, catS_n, catS_c, rOk_c, ↓pk_f, fX3_remember_90, fX3_remember_91, ↓ex_dup, fX3_remember_92, fX3_remember_95, fX3_remember_96, ↓ex_iadd, fX3_remember_97, fX3_remember_100, ↓ex_return_, ↓rt_v, sh0, sh7, h0, h7, c2, hk5, clamp0, c3 0 (by omega)]
      refine ⟨fun z => absurd z (by rw [ltN (by omega) (by omega)]; omega), fun _ => ⟨vp_inN (n := 0) (by omega) (by omega), ?_⟩⟩
      exact key 4 1 X.2.2 (by omega) (by omega) (fun j hj => by omega) (fun j _ hj => c3 j hj)
    · refine go hR [(21, [0, 1, 2]), (74, [0])] 60 ?_
      simp only [lv_args, ↓reduceIte, Nat.reduceEqDiff, Nat.reduceAdd, Nat.reduceLeDiff, reduceCtorEq, and_true, true_and, false_and, and_false, true_or, or_true, or_false, false_or, true_implies, false_implies, implies_true, not_true_eq_false, not_false_eq_true, eq_self, fx_s, ↓run_s, run_0, ↓rs_n, ↓rs_c, as_s, ls_n, ls_c, lc_s, lget_c, fX3_remember_0, ↓ex_aload_n, ↓xR_r, ↓xRg_c, fX3_remember_1, ↓ex_getfield, ↓s1R_c, ↓fv_3_5, fX3_remember_4, fX3_remember_5, ↓fv_3_1, fX3_remember_8, ↓ex_arraylength, ↓scrN_n, fX3_remember_9, ↓ex_if_icmp_lt, ↓s2I_c, fX3_remember_12, fX3_remember_13, fX3_remember_16, ↓ex_iconst, fX3_remember_17, ↓ex_aaload, ↓sRI_c, fX3_remember_18, ↓ex_astore_n, ↓lsto_e, ↓lrmK_n, ↓lrmK_f, ct_i, ct_l, ct_r, fX3_remember_19, fX3_remember_20, ↓ex_istore_n, ↓s1I_c, fX3_remember_21, ↓ex_iload_n, ↓xI_i, ↓xIg_c, fX3_remember_22, fX3_remember_23, fX3_remember_26, fX3_remember_27, ↓ex_if_icmp_ge, fX3_remember_30, fX3_remember_31, fX3_remember_34, fX3_remember_35, fX3_remember_36, ↓ex_isub, fX3_remember_37, fX3_remember_38, fX3_remember_41, fX3_remember_42, fX3_remember_43, ↓ex_aastore, ↓sRIR_c, fX3_remember_44, ↓ex_iinc, fX3_remember_47, ↓ex_goto, fX3_remember_50, fX3_remember_51, fX3_remember_54, fX3_remember_55, fX3_remember_58, fX3_remember_59, fX3_remember_60, fX3_remember_61, fX3_remember_62, fX3_remember_63, fX3_remember_64, fX3_remember_65, fX3_remember_68, fX3_remember_69, fX3_remember_70, fX3_remember_71, ↓ex_putfield, ↓pf_3_5, fX3_remember_74, fX3_remember_75, fX3_remember_78, fX3_remember_79, fX3_remember_82, fX3_remember_83, fX3_remember_84, ↓fv_3_0, fX3_remember_87, ↓ex_invokevirtual, ↓xc_0, ↓xc_s, ↓xc_1, ↓pk_s, ↓k_s, ↓k_n, catS_n, catS_c, rOk_c, ↓pk_f, fX3_remember_90, fX3_remember_91, ↓ex_dup, fX3_remember_92, fX3_remember_95, fX3_remember_96, ↓ex_iadd, fX3_remember_97, fX3_remember_100, ↓ex_return_, ↓rt_v, sh0, sh7, h0, h7, c2]
      refine ⟨fun _ => fin X g hR0 (by omega) (fun k hk => ⟨rfl, rfl⟩) (by unfold s_rem; rw [if_neg hk5]), fun z => absurd (by rw [ltN (by omega) (by omega)]; omega) z⟩
  next => exact hC.elim)
end REMEMBER
end
section
section PUB1
noncomputable def cif {α : Type} (P : Prop) (a b : α) : α := @ite α P (Classical.propDecidable P) a b
theorem cif_t {α : Type} {P : Prop} {a b : α} (h : P) : cif P a b = a := by unfold cif; exact if_pos h
theorem cif_f {α : Type} {P : Prop} {a b : α} (h : ¬ P) : cif P a b = b := by unfold cif; exact if_neg h
/-- a public call that answers and changes the state as sp says -/
def PubI (sp : SG → Int32 × SG) (X : XT) (K : Option Value → XT → Prop) : Prop := ∃ g, RelC X g ∧ ∀ X', RelC X' (sp g).2 → FrM X X' → K (some (.int (sp g).1)) X'
def PubL (sp : SG → Int64 × SG) (X : XT) (K : Option Value → XT → Prop) : Prop := ∃ g, RelC X g ∧ ∀ X', RelC X' (sp g).2 → FrM X X' → K (some (.long (sp g).1)) X'
theorem pub_same {sp : SG → Int32 × SG} {X : XT} {K : Option Value → XT → Prop} {g : SG} (hR : RelC X g) (hp : ∀ X', RelC X' (sp g).2 → FrM X X' → K (some (.int (sp g).1)) X') {r : Int32} (h : sp g = (r, g)) : K (some (.int r)) X := by
  have h2 := hp X (by rw [h]; exact hR) (FrM.rf X)
  rw [h] at h2
  exact h2
abbrev cl (a : Int32) : Nat := a.toNatClampNeg
theorem inR_cl {a : Int32} {lo hi : Nat} (hhi : hi < 2147483648) (h : inR a lo hi) : lo ≤ cl a ∧ cl a ≤ hi ∧ a = nI (cl a) := by
  obtain ⟨n, h1, h2, rfl⟩ := inR_N hhi h
  rw [show cl (nI n) = n from clampN (by omega)]
  exact ⟨h1, h2, rfl⟩
def withS (s : SV) (g : SG) : SG := (s, g.2)
def s_see (s : SV) (v : Nat) (t : Int32) : SV := (s.n, s.F, s.T, s.W, s.D, s.H, upd s.S v t, s.Q)
def s_hor (s : SV) (h : Nat) : SV := (s.n, s.F, s.T, s.W, s.D, h, s.S, s.Q)
def s_sen (s : SV) (q : Nat) : SV := (s.n, s.F, s.T, s.W, s.D, s.H, s.S, q)
theorem rem_now (g : SG) : (s_rem g).now = g.now := by unfold s_rem; split <;> rfl
noncomputable def s_addEdge (a c w d : Int32) (g : SG) : Int32 × SG := cif (inR a 0 7 ∧ inR c 0 7) (cif ((inR w 0 10 ∧ inR d 1 5) ∧ ¬ a = c) (cif (fidx g.now (cl a) (cl c) = none) (cif (g.now.n = 12) (-5, g) (nI g.now.n, withS (s_add g.now (cl a) (cl c) (cl w) (cl d)) (s_rem g))) (-4, g)) (-3, g)) (-2, g)
noncomputable def s_setEdge (e w d : Int32) (g : SG) : Int32 × SG := cif (0 ≤ e.toInt ∧ e.toInt < g.now.n) (cif (inR w 0 10 ∧ inR d 1 5) (nI (g.now.W (cl e)), withS (s_set g.now (cl e) (cl w) (cl d)) (s_rem g)) (-3, g)) (-2, g)
noncomputable def s_removeEdge (e : Int32) (g : SG) : Int32 × SG := cif (0 ≤ e.toInt ∧ e.toInt < g.now.n) (nI (g.now.n - 1), withS (s_drop g.now (cl e)) (s_rem g)) (-2, g)
def s_edges (g : SG) : Int32 × SG := (nI g.now.n, g)
noncomputable def s_edge (e w : Int32) (g : SG) : Int32 × SG := (cif (0 ≤ e.toInt ∧ e.toInt < g.now.n) (cif (w = 0) (nI (g.now.F (cl e))) (cif (w = 1) (nI (g.now.T (cl e))) (cif (w = 2) (nI (g.now.W (cl e))) (cif (w = 3) (nI (g.now.D (cl e))) (-3))))) (-2), g)
noncomputable def s_edgeBetween (a c : Int32) (g : SG) : Int32 × SG := (cif (inR a 0 7 ∧ inR c 0 7) (oI (fidx g.now (cl a) (cl c))) (-2), g)
noncomputable def s_setHorizon (h : Int32) (g : SG) : Int32 × SG := cif (inR h 0 30) (nI g.now.H, withS (s_hor g.now (cl h)) (s_rem g)) (-3, g)
noncomputable def s_observe (v t : Int32) (g : SG) : Int32 × SG := cif (inR v 0 7) (cif (inR t (-1) 30) (g.now.S (cl v), withS (s_see g.now (cl v) t) (s_rem g)) (-3, g)) (-2, g)
noncomputable def s_forget (v : Int32) (g : SG) : Int32 × SG := cif (inR v 0 7) (g.now.S (cl v), withS (s_see g.now (cl v) 100) (s_rem g)) (-2, g)
noncomputable def s_observed (v : Int32) (g : SG) : Int32 × SG := (cif (inR v 0 7) (g.now.S (cl v)) (-2), g)
noncomputable def s_setSensors (q : Int32) (g : SG) : Int32 × SG := cif (inR q 0 255) (nI g.now.Q, withS (s_sen g.now (cl q)) (s_rem g)) (-3, g)
/-- well-formedness stays -/
theorem WF_add {s : SV} (h : WF s) {a c w d : Nat} (ha : a < 8) (hc : c < 8) (hac : a ≠ c) (hw : w ≤ 10) (hd : 1 ≤ d ∧ d ≤ 5) (hn : s.n < 12) (hf : fidx s a c = none) : WF (s_add s a c w d) := by
  obtain ⟨h1, h2, h3, h4, h5, h6⟩ := h
  have hfn := fidx_none hf
  refine ⟨(by show s.n + 1 ≤ 12; omega), fun e he => ?_, fun i j hi hj e1 e2 => ?_, h4, h5, h6⟩
  · have he' : e < s.n + 1 := he
    show updN s.F s.n a e < 8 ∧ updN s.T s.n c e < 8 ∧ updN s.F s.n a e ≠ updN s.T s.n c e ∧ updN s.W s.n w e ≤ 10 ∧ 1 ≤ updN s.D s.n d e ∧ updN s.D s.n d e ≤ 5
    simp only [updN_a]
    by_cases z : e = s.n
    · simp only [if_pos z]; exact ⟨ha, hc, hac, hw, hd⟩
    · simp only [if_neg z]; exact h2 e (by omega)
  · have hi' : i < s.n + 1 := hi
    have hj' : j < s.n + 1 := hj
    have e1' : updN s.F s.n a i = updN s.F s.n a j := e1
    have e2' : updN s.T s.n c i = updN s.T s.n c j := e2
    simp only [updN_a] at e1' e2'
    by_cases zi : i = s.n
    · by_cases zj : j = s.n
      · omega
      · rw [if_pos zi, if_neg zj] at e1' e2'
        exact absurd ⟨e1'.symm, e2'.symm⟩ (hfn j (by omega))
    · by_cases zj : j = s.n
      · rw [if_neg zi, if_pos zj] at e1' e2'
        exact absurd ⟨e1', e2'⟩ (hfn i (by omega))
      · rw [if_neg zi, if_neg zj] at e1' e2'
        exact h3 i j (by omega) (by omega) e1' e2'
theorem WF_set {s : SV} (h : WF s) {j w d : Nat} (hw : w ≤ 10) (hd : 1 ≤ d ∧ d ≤ 5) : WF (s_set s j w d) := by
  obtain ⟨h1, h2, h3, h4, h5, h6⟩ := h
  refine ⟨h1, fun e he => ?_, h3, h4, h5, h6⟩
  obtain ⟨g1, g2, g3, g4, g5, g6⟩ := h2 e he
  refine ⟨g1, g2, g3, ?_⟩
  show updN s.W j w e ≤ 10 ∧ 1 ≤ updN s.D j d e ∧ updN s.D j d e ≤ 5
  simp only [updN_a]
  by_cases z : e = j
  · simp only [if_pos z]; exact ⟨hw, hd⟩
  · simp only [if_neg z]; exact ⟨g4, g5, g6⟩
theorem WF_drop {s : SV} (h : WF s) {k : Nat} (hk : k < s.n) : WF (s_drop s k) := by
  obtain ⟨h1, h2, h3, h4, h5, h6⟩ := h
  refine ⟨(by show s.n - 1 ≤ 12; omega), fun e he => ?_, fun i j hi hj e1 e2 => ?_, h4, h5, h6⟩
  · have he' : e < s.n - 1 := he
    show dn s.F k e < 8 ∧ dn s.T k e < 8 ∧ dn s.F k e ≠ dn s.T k e ∧ dn s.W k e ≤ 10 ∧ 1 ≤ dn s.D k e ∧ dn s.D k e ≤ 5
    unfold dn
    by_cases z : e < k
    · simp only [if_pos z]; exact h2 e (by omega)
    · simp only [if_neg z]; exact h2 (e + 1) (by omega)
  · have hi' : i < s.n - 1 := hi
    have hj' : j < s.n - 1 := hj
    have e1' : dn s.F k i = dn s.F k j := e1
    have e2' : dn s.T k i = dn s.T k j := e2
    unfold dn at e1' e2'
    by_cases zi : i < k <;> by_cases zj : j < k <;> simp only [zi, zj, if_true, if_false] at e1' e2'
    · exact h3 i j (by omega) (by omega) e1' e2'
    · have := h3 i (j + 1) (by omega) (by omega) e1' e2'; omega
    · have := h3 (i + 1) j (by omega) (by omega) e1' e2'; omega
    · have := h3 (i + 1) (j + 1) (by omega) (by omega) e1' e2'; omega
theorem WF_see {s : SV} (h : WF s) {v : Nat} {t : Int32} (ht : okS t) : WF (s_see s v t) := by
  obtain ⟨h1, h2, h3, h4, h5, h6⟩ := h
  refine ⟨h1, h2, h3, h4, fun u hu => ?_, h6⟩
  show okS (upd s.S v t u)
  rw [upd_a]
  split
  · exact ht
  · exact h5 u hu
theorem RS_see {X : XT} {b : Nat} {s : SV} (h : RS X b s) (v : Nat) (t : Int32) : RS (sI X (b + 5) v t) b (s_see s v t) := by
  obtain ⟨h1, h2, h3, h4, h5⟩ := h
  refine ⟨?_, fun e he => ?_, ?_, fun u hu => ?_, ?_⟩
  · simp [sI_1, h1, s_see, SV.n, SV.F, SV.T, SV.W, SV.D, SV.H, SV.S, SV.Q]
  · obtain ⟨g1, g2, g3, g4⟩ := h2 e he
    simp [sI_1, s_see, g1, g2, g3, g4, SV.n, SV.F, SV.T, SV.W, SV.D, SV.H, SV.S, SV.Q]
  · simp [sI_1, h3, s_see, SV.n, SV.F, SV.T, SV.W, SV.D, SV.H, SV.S, SV.Q]
  · by_cases z : u = v
    · simp [sI_1, upd_a, z, s_see, SV.n, SV.F, SV.T, SV.W, SV.D, SV.H, SV.S, SV.Q]
    · simp [sI_1, upd_a, z, s_see, h4 u hu, SV.n, SV.F, SV.T, SV.W, SV.D, SV.H, SV.S, SV.Q]
  · simp [sI_1, h5, s_see, SV.n, SV.F, SV.T, SV.W, SV.D, SV.H, SV.S, SV.Q]
theorem RS_hor {X : XT} {b : Nat} {s : SV} (h : RS X b s) (t : Nat) : RS (sI X b 5 (nI t)) b (s_hor s t) := by
  obtain ⟨h1, h2, h3, h4, h5⟩ := h
  refine ⟨?_, fun e he => ?_, ?_, fun u hu => ?_, ?_⟩
  · simp [sI_1, upd_a, h1, s_hor, SV.n, SV.F, SV.T, SV.W, SV.D, SV.H, SV.S, SV.Q]
  · obtain ⟨g1, g2, g3, g4⟩ := h2 e he
    simp [sI_1, s_hor, g1, g2, g3, g4, SV.n, SV.F, SV.T, SV.W, SV.D, SV.H, SV.S, SV.Q]
  · simp [sI_1, upd_a, s_hor, SV.n, SV.F, SV.T, SV.W, SV.D, SV.H, SV.S, SV.Q]
  · simp [sI_1, s_hor, h4 u hu, SV.n, SV.F, SV.T, SV.W, SV.D, SV.H, SV.S, SV.Q]
  · simp [sI_1, upd_a, h5, s_hor, SV.n, SV.F, SV.T, SV.W, SV.D, SV.H, SV.S, SV.Q]
theorem RS_sen {X : XT} {b : Nat} {s : SV} (h : RS X b s) (t : Nat) : RS (sI X b 7 (nI t)) b (s_sen s t) := by
  obtain ⟨h1, h2, h3, h4, h5⟩ := h
  refine ⟨?_, fun e he => ?_, ?_, fun u hu => ?_, ?_⟩
  · simp [sI_1, upd_a, h1, s_sen, SV.n, SV.F, SV.T, SV.W, SV.D, SV.H, SV.S, SV.Q]
  · obtain ⟨g1, g2, g3, g4⟩ := h2 e he
    simp [sI_1, s_sen, g1, g2, g3, g4, SV.n, SV.F, SV.T, SV.W, SV.D, SV.H, SV.S, SV.Q]
  · simp [sI_1, upd_a, h3, s_sen, SV.n, SV.F, SV.T, SV.W, SV.D, SV.H, SV.S, SV.Q]
  · simp [sI_1, s_sen, h4 u hu, SV.n, SV.F, SV.T, SV.W, SV.D, SV.H, SV.S, SV.Q]
  · simp [sI_1, upd_a, s_sen, SV.n, SV.F, SV.T, SV.W, SV.D, SV.H, SV.S, SV.Q]
theorem sc1 : isSc 1 := by unfold isSc; simp
theorem sh_base : (shp 0 = (3, 0) ∧ shp 1 = (0, 0) ∧ shp 2 = (5, 12) ∧ shp 3 = (5, 12) ∧ shp 4 = (5, 12) ∧ shp 5 = (5, 12) ∧ shp 6 = (5, 8)) ∧ 0 < NC ∧ 1 < NC ∧ 2 < NC ∧ 3 < NC ∧ 4 < NC ∧ 5 < NC ∧ 6 < NC := by decide
noncomputable def C_X3_addEdge : CT := fun As X K => match As with
  | [.ref b, .int a, .int c, .int w, .int d] => b = 0 ∧ PubI (s_addEdge a c w d) X K
  | _ => False
set_option maxRecDepth 20000 in
set_option maxHeartbeats 4000000 in
theorem d_X3_addEdge (l : Launch) : Does l yX3_addEdge (wY yX3_addEdge cX3_addEdge 5 (retT 0)) (rmF 2) C_X3_addEdge := does_of (rt := 0) (by decide +kernel) tkX3_addEdge (calls := [(42, true, 1, 3, C_X3_isNode), (46, true, 1, 3, C_X3_isTrust), (49, true, 1, 3, C_X3_isDelay), (52, false, 3, 0, C_X0_find), (56, false, 1, 0, C_X0_isFull), (60, false, 1, 3, C_X3_remember), (63, false, 5, 0, C_X0_put)]) (List.forall_mem_cons.mpr ⟨cr_S (d_X3_isNode l) (by decide +kernel) (by decide +kernel) ⟨rfl, rfl⟩ ⟨Nat.le_of_ble_eq_true rfl, Nat.le_of_ble_eq_true rfl⟩, List.forall_mem_cons.mpr ⟨cr_S (d_X3_isTrust l) (by decide +kernel) (by decide +kernel) ⟨rfl, rfl⟩ ⟨Nat.le_of_ble_eq_true rfl, Nat.le_of_ble_eq_true rfl⟩, List.forall_mem_cons.mpr ⟨cr_S (d_X3_isDelay l) (by decide +kernel) (by decide +kernel) ⟨rfl, rfl⟩ ⟨Nat.le_of_ble_eq_true rfl, Nat.le_of_ble_eq_true rfl⟩, List.forall_mem_cons.mpr ⟨cr_NV (d_X0_find l) rfl (by decide +kernel) (by decide +kernel) (by decide +kernel) ⟨rfl, rfl⟩ ⟨Nat.le_of_ble_eq_true rfl, Nat.le_of_ble_eq_true rfl⟩, List.forall_mem_cons.mpr ⟨cr_NV (d_X0_isFull l) rfl (by decide +kernel) (by decide +kernel) (by decide +kernel) ⟨rfl, rfl⟩ ⟨Nat.le_of_ble_eq_true rfl, Nat.le_of_ble_eq_true rfl⟩, List.forall_mem_cons.mpr ⟨cr_V (d_X3_remember l) rfl (by decide +kernel) (by decide +kernel) ⟨rfl, rfl⟩ ⟨Nat.le_of_ble_eq_true rfl, Nat.le_of_ble_eq_true rfl⟩, List.forall_mem_cons.mpr ⟨cr_NV (d_X0_put l) rfl (by decide +kernel) (by decide +kernel) (by decide +kernel) ⟨rfl, rfl⟩ ⟨Nat.le_of_ble_eq_true rfl, Nat.le_of_ble_eq_true rfl⟩, fun _ h => absurd h List.not_mem_nil⟩⟩⟩⟩⟩⟩⟩) (by
  intro As X post hC
  unfold C_X3_addEdge at hC
  split at hC
  next b a c w d =>
    obtain ⟨rfl, g, hR0, hpost⟩ := hC
    refine ⟨Nat.le_of_ble_eq_true rfl, fun R hR => ?_⟩
    obtain ⟨⟨p0, p1, p2, p3, p4, p5, p6⟩, q0, q1, q2, q3, q4, q5, q6⟩ := sh_base
    obtain ⟨⟨w1, w2, w3, w4⟩, c1, c2, -⟩ := id hR0
    have hn := w1.1
    refine go hR [] 200 ?_
    simp only [lv_args, ↓reduceIte, Nat.reduceEqDiff, Nat.reduceAdd, Nat.reduceLeDiff, reduceCtorEq, and_true, true_and, false_and, and_false, true_or, or_true, or_false, false_or, true_implies, false_implies, implies_true, not_true_eq_false, not_false_eq_true, eq_self, fx_s, ↓run_s, run_0, ↓rs_n, ↓rs_c, as_s, ls_n, ls_c, lc_s, lget_c, fX3_addEdge_0, ↓ex_iload_n, ↓xI_i, ↓xIg_c, fX3_addEdge_1, ↓ex_invokestatic, ↓xc_0, ↓xc_s, ↓xc_1, ↓pk_s, ↓k_s, ↓k_n, catS_n, catS_c, rOk_c, ct_i, ct_l, ct_r, ↓pk_t, fX3_addEdge_4, ↓ex_ifCond_eq, ↓s1I_c, fX3_addEdge_7, fX3_addEdge_8, fX3_addEdge_11, ↓ex_ifCond_ne, fX3_addEdge_14, ↓ex_bipush, fX3_addEdge_16, ↓ex_ireturn, ↓rt_i, fX3_addEdge_17, fX3_addEdge_18, fX3_addEdge_21, fX3_addEdge_24, ↓ex_iload, fX3_addEdge_26, fX3_addEdge_29, fX3_addEdge_32, fX3_addEdge_33, fX3_addEdge_34, ↓ex_if_icmp_ne, ↓s2I_c, fX3_addEdge_37, fX3_addEdge_39, fX3_addEdge_40, ↓ex_aload_n, ↓xR_r, ↓xRg_c, fX3_addEdge_41, ↓ex_getfield, ↓s1R_c, ↓fv_3_0, fX3_addEdge_44, fX3_addEdge_45, fX3_addEdge_46, ↓ex_invokevirtual, ↓pk_f, fX3_addEdge_49, ↓ex_iconst, fX3_addEdge_50, ↓ex_if_icmp_eq, fX3_addEdge_53, fX3_addEdge_55, fX3_addEdge_56, fX3_addEdge_57, fX3_addEdge_60, fX3_addEdge_63, fX3_addEdge_66, fX3_addEdge_68, fX3_addEdge_69, fX3_addEdge_70, fX3_addEdge_73, fX3_addEdge_74, fX3_addEdge_77, fX3_addEdge_78, fX3_addEdge_79, fX3_addEdge_80, fX3_addEdge_82, fX3_addEdge_85, p0, p1, q0, q1, ↓C_X3_isNode, ↓C_X3_isTrust, ↓C_X3_isDelay, ↓C_X0_find, ↓C_X0_isFull, ↓C_X3_remember, ↓C_X0_put, b2i_0, Classical.not_not]
    have ok := fun {r : Int32} => pub_same (r := r) hR0 hpost
    by_cases ha : inR a 0 7
    case neg => (simp only [ha, ↓reduceIte, not_true_eq_false, not_false_eq_true, false_implies, true_implies, implies_true, and_true, true_and, and_false, false_and, or_true, true_or, or_false, false_or, Classical.not_not, ite_true, ite_false]; exact ok (by unfold s_addEdge; rw [cif_f (fun z => ha z.1)]))
    by_cases hc : inR c 0 7
    case neg => (simp only [ha, hc, ↓reduceIte, not_true_eq_false, not_false_eq_true, false_implies, true_implies, implies_true, and_true, true_and, and_false, false_and, or_true, true_or, or_false, false_or, Classical.not_not, ite_true, ite_false]; exact ok (by unfold s_addEdge; rw [cif_f (fun z => hc z.2)]))
    by_cases hw : inR w 0 10
    case neg => (simp only [ha, hc, hw, ↓reduceIte, not_true_eq_false, not_false_eq_true, false_implies, true_implies, implies_true, and_true, true_and, and_false, false_and, or_true, true_or, or_false, false_or, Classical.not_not, ite_true, ite_false]; exact ok (by unfold s_addEdge; rw [cif_t ⟨ha, hc⟩, cif_f (fun z => hw z.1.1)]))
    by_cases hd : inR d 1 5
    case neg => (simp only [ha, hc, hw, hd, ↓reduceIte, not_true_eq_false, not_false_eq_true, false_implies, true_implies, implies_true, and_true, true_and, and_false, false_and, or_true, true_or, or_false, false_or, Classical.not_not, ite_true, ite_false]; exact ok (by unfold s_addEdge; rw [cif_t ⟨ha, hc⟩, cif_f (fun z => hd z.1.2)]))
    by_cases hac : a = c
    case pos => (simp only [ha, hc, hw, hd, hac, ↓reduceIte, not_true_eq_false, not_false_eq_true, false_implies, true_implies, implies_true, and_true, true_and, and_false, false_and, or_true, true_or, or_false, false_or, Classical.not_not, ite_true, ite_false]; exact ok (by unfold s_addEdge; rw [cif_t ⟨ha, hc⟩, cif_f (fun z => z.2 hac)]))
    simp only [ha, hc, hw, hd, hac, ↓reduceIte, not_true_eq_false, not_false_eq_true, false_implies, true_implies, implies_true, and_true, true_and, and_false, false_and, or_true, true_or, or_false, false_or, Classical.not_not, ite_true, ite_false]
    have hF : ∀ e, e < g.now.n → g.now.F e < 8 ∧ g.now.T e < 8 := fun e he => ⟨(w1.2.1 e he).1, (w1.2.1 e he).2.1⟩
    obtain ⟨-, ha2, ha3⟩ := inR_cl (lo := 0) (hi := 7) (by omega) ha
    obtain ⟨-, hc2, hc3⟩ := inR_cl (lo := 0) (hi := 7) (by omega) hc
    obtain ⟨-, hw2, hw3⟩ := inR_cl (lo := 0) (hi := 10) (by omega) hw
    obtain ⟨hd1, hd2, hd3⟩ := inR_cl (lo := 1) (hi := 5) (by omega) hd
    refine ⟨g.now, ⟨sc1, c1, hn⟩, ?_⟩
    rw [ha3, hc3, findS_N hF (by omega) (by omega), ← ha3, ← hc3, oI_m1 (fun j h => (fidx_some h).1) (by omega)]
    refine ⟨fun hf => ⟨g.now, ⟨sc1, c1, hn⟩, fun hfull => ⟨g, hR0, fun Y hY hFY => ?_⟩, fun h => ok (by unfold s_addEdge; rw [cif_t ⟨ha, hc⟩, cif_t ⟨⟨hw, hd⟩, hac⟩, cif_t hf, cif_t h])⟩, fun h => ok (by unfold s_addEdge; rw [cif_t ⟨ha, hc⟩, cif_t ⟨⟨hw, hd⟩, hac⟩, cif_f h])⟩
    have hsp : s_addEdge a c w d g = (nI g.now.n, withS (s_add g.now (cl a) (cl c) (cl w) (cl d)) (s_rem g)) := by unfold s_addEdge; rw [cif_t ⟨ha, hc⟩, cif_t ⟨⟨hw, hd⟩, hac⟩, cif_t hf, cif_f hfull]
    have hYs : RS Y 1 g.now := by have := hY.2.1; rw [rem_now] at this; exact this
    refine ⟨g.now, cl a, cl c, cl w, cl d, ⟨sc1, hYs, hn, hF, ha3, hc3, hw3, hd3, by omega, by omega, fun _ => by omega⟩, fun Z hZ hs => ?_⟩
    have e1 : s_put g.now (cl a) (cl c) (cl w) (cl d) = s_add g.now (cl a) (cl c) (cl w) (cl d) := by unfold s_put; rw [hf]
    have e2 : s_at g.now (cl a) (cl c) = g.now.n := by unfold s_at; rw [hf]; rfl
    rw [e1] at hs
    have hfin := hpost Z (by
      rw [hsp]
      exact hY.setNow hZ hs (WF_add w1 (by omega) (by omega) (fun z => hac (by rw [ha3, hc3, z])) hw2 ⟨hd1, hd2⟩ (by omega) hf)) (hFY.M.tr (FrM.of hZ (scn_lt sc1)))
    rw [hsp] at hfin
    rw [e2]
    exact hfin
  next => exact hC.elim)
noncomputable def C_X3_setEdge : CT := fun As X K => match As with
  | [.ref b, .int e, .int w, .int d] => b = 0 ∧ PubI (s_setEdge e w d) X K
  | _ => False
set_option maxRecDepth 20000 in
set_option maxHeartbeats 4000000 in
theorem d_X3_setEdge (l : Launch) : Does l yX3_setEdge (wY yX3_setEdge cX3_setEdge 5 (retT 0)) (rmF 2) C_X3_setEdge := does_of (rt := 0) (by decide +kernel) tkX3_setEdge (calls := [(67, false, 2, 0, C_X0_hasEdge), (46, true, 1, 3, C_X3_isTrust), (49, true, 1, 3, C_X3_isDelay), (60, false, 1, 3, C_X3_remember)]) (List.forall_mem_cons.mpr ⟨cr_NV (d_X0_hasEdge l) rfl (by decide +kernel) (by decide +kernel) (by decide +kernel) ⟨rfl, rfl⟩ ⟨Nat.le_of_ble_eq_true rfl, Nat.le_of_ble_eq_true rfl⟩, List.forall_mem_cons.mpr ⟨cr_S (d_X3_isTrust l) (by decide +kernel) (by decide +kernel) ⟨rfl, rfl⟩ ⟨Nat.le_of_ble_eq_true rfl, Nat.le_of_ble_eq_true rfl⟩, List.forall_mem_cons.mpr ⟨cr_S (d_X3_isDelay l) (by decide +kernel) (by decide +kernel) ⟨rfl, rfl⟩ ⟨Nat.le_of_ble_eq_true rfl, Nat.le_of_ble_eq_true rfl⟩, List.forall_mem_cons.mpr ⟨cr_V (d_X3_remember l) rfl (by decide +kernel) (by decide +kernel) ⟨rfl, rfl⟩ ⟨Nat.le_of_ble_eq_true rfl, Nat.le_of_ble_eq_true rfl⟩, fun _ h => absurd h List.not_mem_nil⟩⟩⟩⟩) (by
  intro As X post hC
  unfold C_X3_setEdge at hC
  split at hC
  next b e w d =>
    obtain ⟨rfl, g, hR0, hpost⟩ := hC
    refine ⟨Nat.le_of_ble_eq_true rfl, fun R hR => ?_⟩
    obtain ⟨⟨p0, p1, p2, p3, p4, p5, p6⟩, q0, q1, q2, q3, q4, q5, q6⟩ := sh_base
    obtain ⟨⟨w1, w2, w3, w4⟩, c1, c2, -⟩ := id hR0
    have hn := w1.1
    refine go hR [] 200 ?_
    simp only [lv_args, ↓reduceIte, Nat.reduceEqDiff, Nat.reduceAdd, Nat.reduceLeDiff, reduceCtorEq, and_true, true_and, false_and, and_false, true_or, or_true, or_false, false_or, true_implies, false_implies, implies_true, not_true_eq_false, not_false_eq_true, eq_self, fx_s, ↓run_s, run_0, ↓rs_n, ↓rs_c, as_s, ls_n, ls_c, lc_s, lget_c, fX3_setEdge_0, ↓ex_aload_n, ↓xR_r, ↓xRg_c, fX3_setEdge_1, ↓ex_getfield, ↓s1R_c, ↓fv_3_0, fX3_setEdge_4, ↓ex_iload_n, ↓xI_i, ↓xIg_c, fX3_setEdge_5, ↓ex_invokevirtual, ↓xc_0, ↓xc_s, ↓xc_1, ↓pk_s, ↓k_s, ↓k_n, catS_n, catS_c, rOk_c, ct_i, ct_l, ct_r, ↓pk_f, fX3_setEdge_8, ↓ex_ifCond_ne, ↓s1I_c, fX3_setEdge_11, ↓ex_bipush, fX3_setEdge_13, ↓ex_ireturn, ↓rt_i, fX3_setEdge_14, fX3_setEdge_15, ↓ex_invokestatic, ↓pk_t, fX3_setEdge_18, ↓ex_ifCond_eq, fX3_setEdge_21, fX3_setEdge_22, fX3_setEdge_25, fX3_setEdge_28, fX3_setEdge_30, fX3_setEdge_31, fX3_setEdge_32, fX3_setEdge_35, fX3_setEdge_36, fX3_setEdge_39, ↓fv_0_2, fX3_setEdge_42, fX3_setEdge_43, ↓ex_iaload, ↓sRI_c, ↓scrR_n, fX3_setEdge_44, ↓ex_istore, ↓lsto_e, ↓lrmK_n, ↓lrmK_f, fX3_setEdge_46, fX3_setEdge_47, fX3_setEdge_50, fX3_setEdge_53, fX3_setEdge_54, fX3_setEdge_55, ↓ex_iastore, ↓sRII_c, fX3_setEdge_56, fX3_setEdge_57, fX3_setEdge_60, ↓fv_0_3, fX3_setEdge_63, fX3_setEdge_64, fX3_setEdge_65, fX3_setEdge_66, ↓ex_iload, fX3_setEdge_68, p0, p1, p4, p5, q0, q1, q4, q5, ↓C_X0_hasEdge, ↓C_X3_isTrust, ↓C_X3_isDelay, ↓C_X3_remember, b2i_0, Classical.not_not]
    have ok := fun {r : Int32} => pub_same (r := r) hR0 hpost
    refine ⟨g.now, ⟨sc1, c1, hn⟩, ?_⟩
    by_cases he : 0 ≤ e.toInt ∧ e.toInt < (g.now.n : Int)
    case neg => (simp only [he, ↓reduceIte, not_true_eq_false, not_false_eq_true, false_implies, true_implies, implies_true, and_true, true_and, and_false, false_and, or_true, true_or, or_false, false_or, Classical.not_not, ite_true, ite_false]; exact ok (by unfold s_setEdge; rw [cif_f he]))
    by_cases hw : inR w 0 10
    case neg => (simp only [he, hw, ↓reduceIte, not_true_eq_false, not_false_eq_true, false_implies, true_implies, implies_true, and_true, true_and, and_false, false_and, or_true, true_or, or_false, false_or, Classical.not_not, ite_true, ite_false]; exact ok (by unfold s_setEdge; rw [cif_t he, cif_f (fun z => hw z.1)]))
    by_cases hd : inR d 1 5
    case neg => (simp only [he, hw, hd, ↓reduceIte, not_true_eq_false, not_false_eq_true, false_implies, true_implies, implies_true, and_true, true_and, and_false, false_and, or_true, true_or, or_false, false_or, Classical.not_not, ite_true, ite_false]; exact ok (by unfold s_setEdge; rw [cif_t he, cif_f (fun z => hd z.2)]))
    simp only [he, hw, hd, ↓reduceIte, not_true_eq_false, not_false_eq_true, false_implies, true_implies, implies_true, and_true, true_and, and_false, false_and, or_true, true_or, or_false, false_or, Classical.not_not, ite_true, ite_false]
    obtain ⟨-, hw2, hw3⟩ := inR_cl (lo := 0) (hi := 10) (by omega) hw
    obtain ⟨hd1, hd2, hd3⟩ := inR_cl (lo := 1) (hi := 5) (by omega) hd
    obtain ⟨-, he2, he3⟩ := inR_cl (lo := 0) (hi := 12) (by omega) (show inR e 0 12 from ⟨he.1, by omega⟩)
    have he4 : cl e < g.now.n := by have := nI_toInt (n := cl e) (by omega); rw [← he3] at this; omega
    refine ⟨g, hR0, fun Y hY hFY => ?_⟩
    have hsp : s_setEdge e w d g = (nI (g.now.W (cl e)), withS (s_set g.now (cl e) (cl w) (cl d)) (s_rem g)) := by unfold s_setEdge; rw [cif_t he, cif_t ⟨hw, hd⟩]
    have hYs : RS Y 1 g.now := by have := hY.2.1; rw [rem_now] at this; exact this
    have hve : vp_in e 12 := by rw [he3]; exact vp_inN (by omega) (by omega)
    refine ⟨hve, hve, hve, ?_⟩
    have hfr : Fr (scn 1) Y (sI (sI Y 4 (cl e) w) 5 (cl e) d) := (Fr.pI (Fr.rf _ Y) ⟨by omega, by omega⟩ _ _).pI ⟨by omega, by omega⟩ _ _
    have hfin := hpost (sI (sI Y 4 (cl e) w) 5 (cl e) d) (by
      rw [hsp]
      refine hY.setNow hfr ?_ (WF_set w1 hw2 ⟨hd1, hd2⟩)
      have := RS_set hYs (cl e) (cl w) (cl d)
      rw [← hw3, ← hd3] at this
      exact this) (hFY.M.tr (FrM.of hfr (scn_lt sc1)))
    rw [hsp] at hfin
    have e1 : Y.1 4 e.toNatClampNeg = nI (g.now.W (cl e)) := (hYs.2.1 (cl e) he4).2.2.1
    rw [e1]
    exact hfin
  next => exact hC.elim)
end PUB1
end
section
section PUB2
noncomputable def C_X3_removeEdge : CT := fun As X K => match As with
  | [.ref b, .int e] => b = 0 ∧ PubI (s_removeEdge e) X K
  | _ => False
set_option maxRecDepth 20000 in
set_option maxHeartbeats 4000000 in
theorem d_X3_removeEdge (l : Launch) : Does l yX3_removeEdge (wY yX3_removeEdge cX3_removeEdge 2 (retT 0)) (rmF 2) C_X3_removeEdge := does_of (rt := 0) (by decide +kernel) tkX3_removeEdge (calls := [(67, false, 2, 0, C_X0_hasEdge), (60, false, 1, 3, C_X3_remember), (77, false, 2, 0, C_X0_drop)]) (List.forall_mem_cons.mpr ⟨cr_NV (d_X0_hasEdge l) rfl (by decide +kernel) (by decide +kernel) (by decide +kernel) ⟨rfl, rfl⟩ ⟨Nat.le_of_ble_eq_true rfl, Nat.le_of_ble_eq_true rfl⟩, List.forall_mem_cons.mpr ⟨cr_V (d_X3_remember l) rfl (by decide +kernel) (by decide +kernel) ⟨rfl, rfl⟩ ⟨Nat.le_of_ble_eq_true rfl, Nat.le_of_ble_eq_true rfl⟩, List.forall_mem_cons.mpr ⟨cr_NV (d_X0_drop l) rfl (by decide +kernel) (by decide +kernel) (by decide +kernel) ⟨rfl, rfl⟩ ⟨Nat.le_of_ble_eq_true rfl, Nat.le_of_ble_eq_true rfl⟩, fun _ h => absurd h List.not_mem_nil⟩⟩⟩) (by
  intro As X post hC
  unfold C_X3_removeEdge at hC
  split at hC
  next b e =>
    obtain ⟨rfl, g, hR0, hpost⟩ := hC
    refine ⟨Nat.le_of_ble_eq_true rfl, fun R hR => ?_⟩
    obtain ⟨⟨p0, p1, p2, p3, p4, p5, p6⟩, q0, q1, q2, q3, q4, q5, q6⟩ := sh_base
    obtain ⟨⟨w1, w2, w3, w4⟩, c1, c2, -⟩ := id hR0
    obtain ⟨d1, d2, d3, d4, d5⟩ := id c1
    have hn := w1.1
    have ok := fun {r : Int32} => pub_same (r := r) hR0 hpost
    refine go hR [] 200 ?_
    simp only [lv_args, ↓reduceIte, Nat.reduceEqDiff, Nat.reduceAdd, Nat.reduceLeDiff, reduceCtorEq, and_true, true_and, false_and, and_false, true_or, or_true, or_false, false_or, true_implies, false_implies, implies_true, not_true_eq_false, not_false_eq_true, eq_self, fx_s, ↓run_s, run_0, ↓rs_n, ↓rs_c, as_s, ls_n, ls_c, lc_s, lget_c, fX3_removeEdge_0, ↓ex_aload_n, ↓xR_r, ↓xRg_c, fX3_removeEdge_1, ↓ex_getfield, ↓s1R_c, ↓fv_3_0, fX3_removeEdge_4, ↓ex_iload_n, ↓xI_i, ↓xIg_c, fX3_removeEdge_5, ↓ex_invokevirtual, ↓xc_0, ↓xc_s, ↓xc_1, ↓pk_s, ↓k_s, ↓k_n, catS_n, catS_c, rOk_c, ct_i, ct_l, ct_r, ↓pk_f, fX3_removeEdge_8, ↓ex_ifCond_ne, ↓s1I_c, fX3_removeEdge_11, ↓ex_bipush, fX3_removeEdge_13, ↓ex_ireturn, ↓rt_i, fX3_removeEdge_14, fX3_removeEdge_15, fX3_removeEdge_18, fX3_removeEdge_19, fX3_removeEdge_22, fX3_removeEdge_23, fX3_removeEdge_26, fX3_removeEdge_27, fX3_removeEdge_30, ↓fv_0_4, fX3_removeEdge_33, p0, p1, q0, q1, ↓C_X0_hasEdge, ↓C_X3_remember, ↓C_X0_drop, b2i_0, Classical.not_not, ↓reduceIte, not_true_eq_false, not_false_eq_true, false_implies, true_implies, implies_true, and_true, true_and, and_false, false_and, or_true, true_or, or_false, false_or, Classical.not_not, ite_true, ite_false]
    refine ⟨g.now, ⟨sc1, c1, hn⟩, ?_⟩
    by_cases he : 0 ≤ e.toInt ∧ e.toInt < (g.now.n : Int)
    case neg => (simp only [he, ↓reduceIte, not_true_eq_false, not_false_eq_true, false_implies, true_implies, implies_true, and_true, true_and, and_false, false_and, or_true, true_or, or_false, false_or, Classical.not_not, ite_true, ite_false]; exact ok (by unfold s_removeEdge; rw [cif_f he]))
    simp only [he, ↓reduceIte, not_true_eq_false, not_false_eq_true, false_implies, true_implies, implies_true, and_true, true_and, and_false, false_and, or_true, true_or, or_false, false_or, Classical.not_not, ite_true, ite_false]
    obtain ⟨-, he2, he3⟩ := inR_cl (lo := 0) (hi := 12) (by omega) (show inR e 0 12 from ⟨he.1, by omega⟩)
    have he4 : cl e < g.now.n := by have := nI_toInt (n := cl e) (by omega); rw [← he3] at this; omega
    refine ⟨g, hR0, fun Y hY hFY => ?_⟩
    have hsp : s_removeEdge e g = (nI (g.now.n - 1), withS (s_drop g.now (cl e)) (s_rem g)) := by unfold s_removeEdge; rw [cif_t he]
    have hYs : RS Y 1 g.now := by have := hY.2.1; rw [rem_now] at this; exact this
    refine ⟨g.now, cl e, ⟨sc1, hYs, hn, he3, he4⟩, fun Z hZ hs => ?_⟩
    have hfin := hpost Z (by rw [hsp]; exact hY.setNow hZ hs (WF_drop w1 he4)) (hFY.M.tr (FrM.of hZ (scn_lt sc1)))
    rw [hsp] at hfin
    rw [hs.1]
    exact hfin
  next => exact hC.elim)
noncomputable def C_X3_edges : CT := fun As X K => match As with
  | [.ref b] => b = 0 ∧ PubI (s_edges) X K
  | _ => False
set_option maxRecDepth 20000 in
set_option maxHeartbeats 4000000 in
theorem d_X3_edges (l : Launch) : Does l yX3_edges (wY yX3_edges cX3_edges 1 (retT 0)) (rmF 0) C_X3_edges := does_of (rt := 0) (by decide +kernel) tkX3_edges (calls := []) (fun _ h => absurd h List.not_mem_nil) (by
  intro As X post hC
  unfold C_X3_edges at hC
  split at hC
  next b =>
    obtain ⟨rfl, g, hR0, hpost⟩ := hC
    refine ⟨Nat.le_of_ble_eq_true rfl, fun R hR => ?_⟩
    obtain ⟨⟨p0, p1, p2, p3, p4, p5, p6⟩, q0, q1, q2, q3, q4, q5, q6⟩ := sh_base
    obtain ⟨⟨w1, w2, w3, w4⟩, c1, c2, -⟩ := id hR0
    obtain ⟨d1, d2, d3, d4, d5⟩ := id c1
    have hn := w1.1
    have ok := fun {r : Int32} => pub_same (r := r) hR0 hpost
    refine go hR [] 200 ?_
    simp only [lv_args, ↓reduceIte, Nat.reduceEqDiff, Nat.reduceAdd, Nat.reduceLeDiff, reduceCtorEq, and_true, true_and, false_and, and_false, true_or, or_true, or_false, false_or, true_implies, false_implies, implies_true, not_true_eq_false, not_false_eq_true, eq_self, fx_s, ↓run_s, run_0, ↓rs_n, ↓rs_c, as_s, ls_n, ls_c, lc_s, lget_c, fX3_edges_0, ↓ex_aload_n, ↓xR_r, ↓xRg_c, fX3_edges_1, ↓ex_getfield, ↓s1R_c, ↓fv_3_0, fX3_edges_4, ↓fv_0_4, fX3_edges_7, ↓ex_ireturn, ↓rt_i, p0, p1, q0, q1, b2i_0, Classical.not_not, ↓reduceIte, not_true_eq_false, not_false_eq_true, false_implies, true_implies, implies_true, and_true, true_and, and_false, false_and, or_true, true_or, or_false, false_or, Classical.not_not, ite_true, ite_false]
    rw [d1]
    exact ok rfl
  next => exact hC.elim)
noncomputable def C_X3_edgeBetween : CT := fun As X K => match As with
  | [.ref b, .int a, .int c] => b = 0 ∧ PubI (s_edgeBetween a c) X K
  | _ => False
set_option maxRecDepth 20000 in
set_option maxHeartbeats 4000000 in
theorem d_X3_edgeBetween (l : Launch) : Does l yX3_edgeBetween (wY yX3_edgeBetween cX3_edgeBetween 3 (retT 0)) (rmF 1) C_X3_edgeBetween := does_of (rt := 0) (by decide +kernel) tkX3_edgeBetween (calls := [(42, true, 1, 3, C_X3_isNode), (52, false, 3, 0, C_X0_find)]) (List.forall_mem_cons.mpr ⟨cr_S (d_X3_isNode l) (by decide +kernel) (by decide +kernel) ⟨rfl, rfl⟩ ⟨Nat.le_of_ble_eq_true rfl, Nat.le_of_ble_eq_true rfl⟩, List.forall_mem_cons.mpr ⟨cr_NV (d_X0_find l) rfl (by decide +kernel) (by decide +kernel) (by decide +kernel) ⟨rfl, rfl⟩ ⟨Nat.le_of_ble_eq_true rfl, Nat.le_of_ble_eq_true rfl⟩, fun _ h => absurd h List.not_mem_nil⟩⟩) (by
  intro As X post hC
  unfold C_X3_edgeBetween at hC
  split at hC
  next b a c =>
    obtain ⟨rfl, g, hR0, hpost⟩ := hC
    refine ⟨Nat.le_of_ble_eq_true rfl, fun R hR => ?_⟩
    obtain ⟨⟨p0, p1, p2, p3, p4, p5, p6⟩, q0, q1, q2, q3, q4, q5, q6⟩ := sh_base
    obtain ⟨⟨w1, w2, w3, w4⟩, c1, c2, -⟩ := id hR0
    obtain ⟨d1, d2, d3, d4, d5⟩ := id c1
    have hn := w1.1
    have ok := fun {r : Int32} => pub_same (r := r) hR0 hpost
    refine go hR [] 200 ?_
    simp only [lv_args, ↓reduceIte, Nat.reduceEqDiff, Nat.reduceAdd, Nat.reduceLeDiff, reduceCtorEq, and_true, true_and, false_and, and_false, true_or, or_true, or_false, false_or, true_implies, false_implies, implies_true, not_true_eq_false, not_false_eq_true, eq_self, fx_s, ↓run_s, run_0, ↓rs_n, ↓rs_c, as_s, ls_n, ls_c, lc_s, lget_c, fX3_edgeBetween_0, ↓ex_iload_n, ↓xI_i, ↓xIg_c, fX3_edgeBetween_1, ↓ex_invokestatic, ↓xc_0, ↓xc_s, ↓xc_1, ↓pk_s, ↓k_s, ↓k_n, catS_n, catS_c, rOk_c, ct_i, ct_l, ct_r, ↓pk_t, fX3_edgeBetween_4, ↓ex_ifCond_eq, ↓s1I_c, fX3_edgeBetween_7, fX3_edgeBetween_8, fX3_edgeBetween_11, ↓ex_ifCond_ne, fX3_edgeBetween_14, ↓ex_bipush, fX3_edgeBetween_16, ↓ex_ireturn, ↓rt_i, fX3_edgeBetween_17, ↓ex_aload_n, ↓xR_r, ↓xRg_c, fX3_edgeBetween_18, ↓ex_getfield, ↓s1R_c, ↓fv_3_0, fX3_edgeBetween_21, fX3_edgeBetween_22, fX3_edgeBetween_23, ↓ex_invokevirtual, ↓pk_f, fX3_edgeBetween_26, p0, p1, q0, q1, ↓C_X3_isNode, ↓C_X0_find, b2i_0, Classical.not_not, ↓reduceIte, not_true_eq_false, not_false_eq_true, false_implies, true_implies, implies_true, and_true, true_and, and_false, false_and, or_true, true_or, or_false, false_or, Classical.not_not, ite_true, ite_false]
    by_cases ha : inR a 0 7
    case neg => (simp only [ha, ↓reduceIte, not_true_eq_false, not_false_eq_true, false_implies, true_implies, implies_true, and_true, true_and, and_false, false_and, or_true, true_or, or_false, false_or, Classical.not_not, ite_true, ite_false]; exact ok (by unfold s_edgeBetween; rw [cif_f (fun z => ha z.1)]))
    by_cases hc : inR c 0 7
    case neg => (simp only [ha, hc, ↓reduceIte, not_true_eq_false, not_false_eq_true, false_implies, true_implies, implies_true, and_true, true_and, and_false, false_and, or_true, true_or, or_false, false_or, Classical.not_not, ite_true, ite_false]; exact ok (by unfold s_edgeBetween; rw [cif_f (fun z => hc z.2)]))
    simp only [ha, hc, ↓reduceIte, not_true_eq_false, not_false_eq_true, false_implies, true_implies, implies_true, and_true, true_and, and_false, false_and, or_true, true_or, or_false, false_or, Classical.not_not, ite_true, ite_false]
    have hF : ∀ e, e < g.now.n → g.now.F e < 8 ∧ g.now.T e < 8 := fun e he => ⟨(w1.2.1 e he).1, (w1.2.1 e he).2.1⟩
    obtain ⟨-, ha2, ha3⟩ := inR_cl (lo := 0) (hi := 7) (by omega) ha
    obtain ⟨-, hc2, hc3⟩ := inR_cl (lo := 0) (hi := 7) (by omega) hc
    refine ⟨g.now, ⟨sc1, c1, hn⟩, ok ?_⟩
    unfold s_edgeBetween
    rw [cif_t ⟨ha, hc⟩]
    conv => rhs; rw [ha3, hc3, findS_N hF (by omega) (by omega)]
  next => exact hC.elim)
noncomputable def C_X3_setHorizon : CT := fun As X K => match As with
  | [.ref b, .int h] => b = 0 ∧ PubI (s_setHorizon h) X K
  | _ => False
set_option maxRecDepth 20000 in
set_option maxHeartbeats 4000000 in
theorem d_X3_setHorizon (l : Launch) : Does l yX3_setHorizon (wY yX3_setHorizon cX3_setHorizon 3 (retT 0)) (rmF 2) C_X3_setHorizon := does_of (rt := 0) (by decide +kernel) tkX3_setHorizon (calls := [(90, true, 1, 3, C_X3_isTime), (60, false, 1, 3, C_X3_remember)]) (List.forall_mem_cons.mpr ⟨cr_S (d_X3_isTime l) (by decide +kernel) (by decide +kernel) ⟨rfl, rfl⟩ ⟨Nat.le_of_ble_eq_true rfl, Nat.le_of_ble_eq_true rfl⟩, List.forall_mem_cons.mpr ⟨cr_V (d_X3_remember l) rfl (by decide +kernel) (by decide +kernel) ⟨rfl, rfl⟩ ⟨Nat.le_of_ble_eq_true rfl, Nat.le_of_ble_eq_true rfl⟩, fun _ h => absurd h List.not_mem_nil⟩⟩) (by
  intro As X post hC
  unfold C_X3_setHorizon at hC
  split at hC
  next b h =>
    obtain ⟨rfl, g, hR0, hpost⟩ := hC
    refine ⟨Nat.le_of_ble_eq_true rfl, fun R hR => ?_⟩
    obtain ⟨⟨p0, p1, p2, p3, p4, p5, p6⟩, q0, q1, q2, q3, q4, q5, q6⟩ := sh_base
    obtain ⟨⟨w1, w2, w3, w4⟩, c1, c2, -⟩ := id hR0
    obtain ⟨d1, d2, d3, d4, d5⟩ := id c1
    have hn := w1.1
    have ok := fun {r : Int32} => pub_same (r := r) hR0 hpost
    refine go hR [] 200 ?_
    simp only [lv_args, ↓reduceIte, Nat.reduceEqDiff, Nat.reduceAdd, Nat.reduceLeDiff, reduceCtorEq, and_true, true_and, false_and, and_false, true_or, or_true, or_false, false_or, true_implies, false_implies, implies_true, not_true_eq_false, not_false_eq_true, eq_self, fx_s, ↓run_s, run_0, ↓rs_n, ↓rs_c, as_s, ls_n, ls_c, lc_s, lget_c, fX3_setHorizon_0, ↓ex_iload_n, ↓xI_i, ↓xIg_c, fX3_setHorizon_1, ↓ex_invokestatic, ↓xc_0, ↓xc_s, ↓xc_1, ↓pk_s, ↓k_s, ↓k_n, catS_n, catS_c, rOk_c, ct_i, ct_l, ct_r, ↓pk_t, fX3_setHorizon_4, ↓ex_ifCond_ne, ↓s1I_c, fX3_setHorizon_7, ↓ex_bipush, fX3_setHorizon_9, ↓ex_ireturn, ↓rt_i, fX3_setHorizon_10, ↓ex_aload_n, ↓xR_r, ↓xRg_c, fX3_setHorizon_11, ↓ex_invokevirtual, ↓pk_f, fX3_setHorizon_14, fX3_setHorizon_15, ↓ex_getfield, ↓s1R_c, ↓fv_3_0, fX3_setHorizon_18, ↓fv_0_5, fX3_setHorizon_21, ↓ex_istore_n, ↓lsto_e, ↓lrmK_n, ↓lrmK_f, fX3_setHorizon_22, fX3_setHorizon_23, fX3_setHorizon_26, fX3_setHorizon_27, ↓ex_putfield, ↓pf_0_5, fX3_setHorizon_30, fX3_setHorizon_31, p0, p1, q0, q1, ↓C_X3_isTime, ↓C_X3_remember, b2i_0, Classical.not_not, ↓reduceIte, not_true_eq_false, not_false_eq_true, false_implies, true_implies, implies_true, and_true, true_and, and_false, false_and, or_true, true_or, or_false, false_or, Classical.not_not, ite_true, ite_false]
    by_cases hh : inR h 0 30
    case neg => (simp only [hh, ↓reduceIte, not_true_eq_false, not_false_eq_true, false_implies, true_implies, implies_true, and_true, true_and, and_false, false_and, or_true, true_or, or_false, false_or, Classical.not_not, ite_true, ite_false]; exact ok (by unfold s_setHorizon; rw [cif_f hh]))
    simp only [hh, ↓reduceIte, not_true_eq_false, not_false_eq_true, false_implies, true_implies, implies_true, and_true, true_and, and_false, false_and, or_true, true_or, or_false, false_or, Classical.not_not, ite_true, ite_false]
    obtain ⟨-, h2, h3⟩ := inR_cl (lo := 0) (hi := 30) (by omega) hh
    refine ⟨g, hR0, fun Y hY hFY => ?_⟩
    have hsp : s_setHorizon h g = (nI g.now.H, withS (s_hor g.now (cl h)) (s_rem g)) := by unfold s_setHorizon; rw [cif_t hh]
    have hYs : RS Y 1 g.now := by have := hY.2.1; rw [rem_now] at this; exact this
    have hfr : Fr (scn 1) Y (sI Y 1 5 h) := Fr.pI (Fr.rf _ Y) ⟨by omega, by omega⟩ _ _
    have hfin := hpost (sI Y 1 5 h) (by
      rw [hsp]
      refine hY.setNow hfr ?_ ⟨w1.1, w1.2.1, w1.2.2.1, h2, w1.2.2.2.2⟩
      have := RS_hor hYs (cl h)
      rw [← h3] at this
      exact this) (hFY.M.tr (FrM.of hfr (scn_lt sc1)))
    rw [hsp] at hfin
    rw [hYs.2.2.1]
    exact hfin
  next => exact hC.elim)
noncomputable def C_X3_setSensors : CT := fun As X K => match As with
  | [.ref b, .int h] => b = 0 ∧ PubI (s_setSensors h) X K
  | _ => False
set_option maxRecDepth 20000 in
set_option maxHeartbeats 4000000 in
theorem d_X3_setSensors (l : Launch) : Does l yX3_setSensors (wY yX3_setSensors cX3_setSensors 3 (retT 0)) (rmF 2) C_X3_setSensors := does_of (rt := 0) (by decide +kernel) tkX3_setSensors (calls := [(60, false, 1, 3, C_X3_remember)]) (List.forall_mem_cons.mpr ⟨cr_V (d_X3_remember l) rfl (by decide +kernel) (by decide +kernel) ⟨rfl, rfl⟩ ⟨Nat.le_of_ble_eq_true rfl, Nat.le_of_ble_eq_true rfl⟩, fun _ h => absurd h List.not_mem_nil⟩) (by
  intro As X post hC
  unfold C_X3_setSensors at hC
  split at hC
  next b h =>
    obtain ⟨rfl, g, hR0, hpost⟩ := hC
    refine ⟨Nat.le_of_ble_eq_true rfl, fun R hR => ?_⟩
    obtain ⟨⟨p0, p1, p2, p3, p4, p5, p6⟩, q0, q1, q2, q3, q4, q5, q6⟩ := sh_base
    obtain ⟨⟨w1, w2, w3, w4⟩, c1, c2, -⟩ := id hR0
    obtain ⟨d1, d2, d3, d4, d5⟩ := id c1
    have hn := w1.1
    have ok := fun {r : Int32} => pub_same (r := r) hR0 hpost
    refine go hR [] 200 ?_
    simp only [lv_args, ↓reduceIte, Nat.reduceEqDiff, Nat.reduceAdd, Nat.reduceLeDiff, reduceCtorEq, and_true, true_and, false_and, and_false, true_or, or_true, or_false, false_or, true_implies, false_implies, implies_true, not_true_eq_false, not_false_eq_true, eq_self, fx_s, ↓run_s, run_0, ↓rs_n, ↓rs_c, as_s, ls_n, ls_c, lc_s, lget_c, fX3_setSensors_0, ↓ex_iload_n, ↓xI_i, ↓xIg_c, fX3_setSensors_1, ↓ex_ifCond_lt, ↓s1I_c, fX3_setSensors_4, fX3_setSensors_5, ↓ex_sipush, fX3_setSensors_8, ↓ex_if_icmp_le, ↓s2I_c, fX3_setSensors_11, ↓ex_bipush, fX3_setSensors_13, ↓ex_ireturn, ↓rt_i, fX3_setSensors_14, ↓ex_aload_n, ↓xR_r, ↓xRg_c, fX3_setSensors_15, ↓ex_invokevirtual, ↓xc_0, ↓xc_s, ↓xc_1, ↓pk_s, ↓k_s, ↓k_n, catS_n, catS_c, rOk_c, ct_i, ct_l, ct_r, ↓pk_f, fX3_setSensors_18, fX3_setSensors_19, ↓ex_getfield, ↓s1R_c, ↓fv_3_0, fX3_setSensors_22, ↓fv_0_7, fX3_setSensors_25, ↓ex_istore_n, ↓lsto_e, ↓lrmK_n, ↓lrmK_f, fX3_setSensors_26, fX3_setSensors_27, fX3_setSensors_30, fX3_setSensors_31, ↓ex_putfield, ↓pf_0_7, fX3_setSensors_34, fX3_setSensors_35, p0, p1, q0, q1, ↓C_X3_remember, b2i_0, Classical.not_not, ↓reduceIte, not_true_eq_false, not_false_eq_true, false_implies, true_implies, implies_true, and_true, true_and, and_false, false_and, or_true, true_or, or_false, false_or, Classical.not_not, ite_true, ite_false]
    have e0 : inR h 0 255 ↔ (¬ h < 0 ∧ h ≤ 255) := by unfold inR; rw [ltI, leI, tI_0, tI_255]; omega
    by_cases hh : inR h 0 255
    case neg =>
      have e1 : s_setSensors h g = (-3, g) := by unfold s_setSensors; rw [cif_f hh]
      exact ⟨fun _ => ok e1, fun g1 => ⟨fun g2 => absurd (e0.mpr ⟨g1, g2⟩) hh, fun _ => ok e1⟩⟩
    refine ⟨fun z => absurd z (e0.mp hh).1, fun _ => ⟨fun _ => ?_, fun z => absurd (e0.mp hh).2 z⟩⟩
    obtain ⟨-, h2, h3⟩ := inR_cl (lo := 0) (hi := 255) (by omega) hh
    refine ⟨g, hR0, fun Y hY hFY => ?_⟩
    have hsp : s_setSensors h g = (nI g.now.Q, withS (s_sen g.now (cl h)) (s_rem g)) := by unfold s_setSensors; rw [cif_t hh]
    have hYs : RS Y 1 g.now := by have := hY.2.1; rw [rem_now] at this; exact this
    have hfr : Fr (scn 1) Y (sI Y 1 7 h) := Fr.pI (Fr.rf _ Y) ⟨by omega, by omega⟩ _ _
    have hfin := hpost (sI Y 1 7 h) (by
      rw [hsp]
      refine hY.setNow hfr ?_ ⟨w1.1, w1.2.1, w1.2.2.1, w1.2.2.2.1, w1.2.2.2.2.1, h2⟩
      have := RS_sen hYs (cl h)
      rw [← h3] at this
      exact this) (hFY.M.tr (FrM.of hfr (scn_lt sc1)))
    rw [hsp] at hfin
    rw [hYs.2.2.2.2]
    exact hfin
  next => exact hC.elim)
noncomputable def C_X3_replaceSeen : CT := fun As X K => match As with
  | [.ref b, .int v, .int t] => ∃ (g : SG) (k : Nat), (b = 0 ∧ RelC X g ∧ v = nI k ∧ k < 8 ∧ okS t) ∧ ∀ X', RelC X' (withS (s_see g.now k t) (s_rem g)) → FrM X X' → K (some (.int (g.now.S k))) X'
  | _ => False
set_option maxRecDepth 20000 in
set_option maxHeartbeats 4000000 in
theorem d_X3_replaceSeen (l : Launch) : Does l yX3_replaceSeen (wY yX3_replaceSeen cX3_replaceSeen 4 (retT 0)) (rmF 2) C_X3_replaceSeen := does_of (rt := 0) (by decide +kernel) tkX3_replaceSeen (calls := [(60, false, 1, 3, C_X3_remember)]) (List.forall_mem_cons.mpr ⟨cr_V (d_X3_remember l) rfl (by decide +kernel) (by decide +kernel) ⟨rfl, rfl⟩ ⟨Nat.le_of_ble_eq_true rfl, Nat.le_of_ble_eq_true rfl⟩, fun _ h => absurd h List.not_mem_nil⟩) (by
  intro As X post hC
  unfold C_X3_replaceSeen at hC
  split at hC
  next b v t =>
    obtain ⟨g, k, ⟨rfl, hR0, rfl, hk, ht⟩, hpost⟩ := hC
    refine ⟨Nat.le_of_ble_eq_true rfl, fun R hR => ?_⟩
    obtain ⟨⟨p0, p1, p2, p3, p4, p5, p6⟩, q0, q1, q2, q3, q4, q5, q6⟩ := sh_base
    obtain ⟨⟨w1, w2, w3, w4⟩, c1, c2, -⟩ := id hR0
    refine go hR [] 200 ?_
    simp only [lv_args, ↓reduceIte, Nat.reduceEqDiff, Nat.reduceAdd, Nat.reduceLeDiff, reduceCtorEq, and_true, true_and, false_and, and_false, true_or, or_true, or_false, false_or, true_implies, false_implies, implies_true, not_true_eq_false, not_false_eq_true, eq_self, fx_s, ↓run_s, run_0, ↓rs_n, ↓rs_c, as_s, ls_n, ls_c, lc_s, lget_c, fX3_replaceSeen_0, ↓ex_aload_n, ↓xR_r, ↓xRg_c, fX3_replaceSeen_1, ↓ex_invokevirtual, ↓xc_0, ↓xc_s, ↓xc_1, ↓pk_s, ↓k_s, ↓k_n, catS_n, catS_c, rOk_c, ct_i, ct_l, ct_r, ↓pk_f, fX3_replaceSeen_4, fX3_replaceSeen_5, ↓ex_getfield, ↓s1R_c, ↓fv_3_0, fX3_replaceSeen_8, ↓fv_0_6, fX3_replaceSeen_11, ↓ex_iload_n, ↓xI_i, ↓xIg_c, fX3_replaceSeen_12, ↓ex_iaload, ↓sRI_c, ↓scrR_n, fX3_replaceSeen_13, ↓ex_istore_n, ↓s1I_c, ↓lsto_e, ↓lrmK_n, ↓lrmK_f, fX3_replaceSeen_14, fX3_replaceSeen_15, fX3_replaceSeen_18, fX3_replaceSeen_21, fX3_replaceSeen_22, fX3_replaceSeen_23, ↓ex_iastore, ↓sRII_c, fX3_replaceSeen_24, fX3_replaceSeen_25, ↓ex_ireturn, ↓rt_i, p0, p1, p6, q0, q1, q6, ↓C_X3_remember, clampN (n := k) (by omega), ↓reduceIte, not_true_eq_false, not_false_eq_true, false_implies, true_implies, implies_true, and_true, true_and, and_false, false_and, or_true, true_or, or_false, false_or, Classical.not_not, ite_true, ite_false]
    refine ⟨g, hR0, fun Y hY hFY => ?_⟩
    have hYs : RS Y 1 g.now := by have := hY.2.1; rw [rem_now] at this; exact this
    have hfr : Fr (scn 1) Y (sI Y 6 k t) := Fr.pI (Fr.rf _ Y) ⟨by omega, by omega⟩ _ _
    refine ⟨vp_inN (by omega) hk, vp_inN (by omega) hk, ?_⟩
    have hfin := hpost (sI Y 6 k t) (hY.setNow hfr (RS_see hYs k t) (WF_see w1 ht)) (hFY.M.tr (FrM.of hfr (scn_lt sc1)))
    have e1 : Y.1 6 k = g.now.S k := hYs.2.2.2.1 k hk
    rw [e1]
    exact hfin
  next => exact hC.elim)
theorem okS_of {t : Int32} (h : inR t (-1) 30) : okS t := by
  by_cases z : t.toInt = -1
  · left
    exact (eqI _ _).mpr (by rw [z, tI_m1])
  · obtain ⟨n, -, h2, h3⟩ := inR_N (lo := 0) (hi := 30) (by omega) (show inR t 0 30 from ⟨by unfold inR at h; omega, h.2⟩)
    exact Or.inr (Or.inr ⟨n, h2, h3⟩)
noncomputable def C_X3_observe : CT := fun As X K => match As with
  | [.ref b, .int v, .int t] => b = 0 ∧ PubI (s_observe v t) X K
  | _ => False
set_option maxRecDepth 20000 in
set_option maxHeartbeats 4000000 in
theorem d_X3_observe (l : Launch) : Does l yX3_observe (wY yX3_observe cX3_observe 3 (retT 0)) (rmF 3) C_X3_observe := does_of (rt := 0) (by decide +kernel) tkX3_observe (calls := [(42, true, 1, 3, C_X3_isNode), (96, true, 1, 3, C_X3_isTimeOrNone), (99, false, 3, 3, C_X3_replaceSeen)]) (List.forall_mem_cons.mpr ⟨cr_S (d_X3_isNode l) (by decide +kernel) (by decide +kernel) ⟨rfl, rfl⟩ ⟨Nat.le_of_ble_eq_true rfl, Nat.le_of_ble_eq_true rfl⟩, List.forall_mem_cons.mpr ⟨cr_S (d_X3_isTimeOrNone l) (by decide +kernel) (by decide +kernel) ⟨rfl, rfl⟩ ⟨Nat.le_of_ble_eq_true rfl, Nat.le_of_ble_eq_true rfl⟩, List.forall_mem_cons.mpr ⟨cr_V (d_X3_replaceSeen l) rfl (by decide +kernel) (by decide +kernel) ⟨rfl, rfl⟩ ⟨Nat.le_of_ble_eq_true rfl, Nat.le_of_ble_eq_true rfl⟩, fun _ h => absurd h List.not_mem_nil⟩⟩⟩) (by
  intro As X post hC
  unfold C_X3_observe at hC
  split at hC
  next b v t =>
    obtain ⟨rfl, g, hR0, hpost⟩ := hC
    refine ⟨Nat.le_of_ble_eq_true rfl, fun R hR => ?_⟩
    obtain ⟨⟨p0, p1, p2, p3, p4, p5, p6⟩, q0, q1, q2, q3, q4, q5, q6⟩ := sh_base
    obtain ⟨⟨w1, w2, w3, w4⟩, c1, c2, -⟩ := id hR0
    obtain ⟨d1, d2, d3, d4, d5⟩ := id c1
    have hn := w1.1
    have ok := fun {r : Int32} => pub_same (r := r) hR0 hpost
    refine go hR [] 200 ?_
    simp only [lv_args, ↓reduceIte, Nat.reduceEqDiff, Nat.reduceAdd, Nat.reduceLeDiff, reduceCtorEq, and_true, true_and, false_and, and_false, true_or, or_true, or_false, false_or, true_implies, false_implies, implies_true, not_true_eq_false, not_false_eq_true, eq_self, fx_s, ↓run_s, run_0, ↓rs_n, ↓rs_c, as_s, ls_n, ls_c, lc_s, lget_c, fX3_observe_0, ↓ex_iload_n, ↓xI_i, ↓xIg_c, fX3_observe_1, ↓ex_invokestatic, ↓xc_0, ↓xc_s, ↓xc_1, ↓pk_s, ↓k_s, ↓k_n, catS_n, catS_c, rOk_c, ct_i, ct_l, ct_r, ↓pk_t, fX3_observe_4, ↓ex_ifCond_ne, ↓s1I_c, fX3_observe_7, ↓ex_bipush, fX3_observe_9, ↓ex_ireturn, ↓rt_i, fX3_observe_10, fX3_observe_11, fX3_observe_14, fX3_observe_17, fX3_observe_19, fX3_observe_20, ↓ex_aload_n, ↓xR_r, ↓xRg_c, fX3_observe_21, fX3_observe_22, fX3_observe_23, ↓ex_invokevirtual, ↓pk_f, fX3_observe_26, p0, p1, q0, q1, ↓C_X3_isNode, ↓C_X3_isTimeOrNone, ↓C_X3_replaceSeen, b2i_0, Classical.not_not, ↓reduceIte, not_true_eq_false, not_false_eq_true, false_implies, true_implies, implies_true, and_true, true_and, and_false, false_and, or_true, true_or, or_false, false_or, Classical.not_not, ite_true, ite_false]
    by_cases hv : inR v 0 7
    case neg => (simp only [hv, ↓reduceIte, not_true_eq_false, not_false_eq_true, false_implies, true_implies, implies_true, and_true, true_and, and_false, false_and, or_true, true_or, or_false, false_or, Classical.not_not, ite_true, ite_false]; exact ok (by unfold s_observe; rw [cif_f hv]))
    by_cases ht : inR t (-1) 30
    case neg => (simp only [hv, ht, ↓reduceIte, not_true_eq_false, not_false_eq_true, false_implies, true_implies, implies_true, and_true, true_and, and_false, false_and, or_true, true_or, or_false, false_or, Classical.not_not, ite_true, ite_false]; exact ok (by unfold s_observe; rw [cif_t hv, cif_f ht]))
    simp only [hv, ht, ↓reduceIte, not_true_eq_false, not_false_eq_true, false_implies, true_implies, implies_true, and_true, true_and, and_false, false_and, or_true, true_or, or_false, false_or, Classical.not_not, ite_true, ite_false]
    obtain ⟨-, h2, h3⟩ := inR_cl (lo := 0) (hi := 7) (by omega) hv
    have hsp : s_observe v t g = (g.now.S (cl v), withS (s_see g.now (cl v) t) (s_rem g)) := by unfold s_observe; rw [cif_t hv, cif_t ht]
    rw [hsp] at hpost
    exact ⟨g, cl v, ⟨hR0, h3, by omega, okS_of ht⟩, hpost⟩
  next => exact hC.elim)
noncomputable def C_X3_forget : CT := fun As X K => match As with
  | [.ref b, .int v] => b = 0 ∧ PubI (s_forget v) X K
  | _ => False
set_option maxRecDepth 20000 in
set_option maxHeartbeats 4000000 in
theorem d_X3_forget (l : Launch) : Does l yX3_forget (wY yX3_forget cX3_forget 2 (retT 0)) (rmF 3) C_X3_forget := does_of (rt := 0) (by decide +kernel) tkX3_forget (calls := [(42, true, 1, 3, C_X3_isNode), (99, false, 3, 3, C_X3_replaceSeen)]) (List.forall_mem_cons.mpr ⟨cr_S (d_X3_isNode l) (by decide +kernel) (by decide +kernel) ⟨rfl, rfl⟩ ⟨Nat.le_of_ble_eq_true rfl, Nat.le_of_ble_eq_true rfl⟩, List.forall_mem_cons.mpr ⟨cr_V (d_X3_replaceSeen l) rfl (by decide +kernel) (by decide +kernel) ⟨rfl, rfl⟩ ⟨Nat.le_of_ble_eq_true rfl, Nat.le_of_ble_eq_true rfl⟩, fun _ h => absurd h List.not_mem_nil⟩⟩) (by
  intro As X post hC
  unfold C_X3_forget at hC
  split at hC
  next b v =>
    obtain ⟨rfl, g, hR0, hpost⟩ := hC
    refine ⟨Nat.le_of_ble_eq_true rfl, fun R hR => ?_⟩
    obtain ⟨⟨p0, p1, p2, p3, p4, p5, p6⟩, q0, q1, q2, q3, q4, q5, q6⟩ := sh_base
    obtain ⟨⟨w1, w2, w3, w4⟩, c1, c2, -⟩ := id hR0
    obtain ⟨d1, d2, d3, d4, d5⟩ := id c1
    have hn := w1.1
    have ok := fun {r : Int32} => pub_same (r := r) hR0 hpost
    refine go hR [] 200 ?_
    simp only [lv_args, ↓reduceIte, Nat.reduceEqDiff, Nat.reduceAdd, Nat.reduceLeDiff, reduceCtorEq, and_true, true_and, false_and, and_false, true_or, or_true, or_false, false_or, true_implies, false_implies, implies_true, not_true_eq_false, not_false_eq_true, eq_self, fx_s, ↓run_s, run_0, ↓rs_n, ↓rs_c, as_s, ls_n, ls_c, lc_s, lget_c, fX3_forget_0, ↓ex_iload_n, ↓xI_i, ↓xIg_c, fX3_forget_1, ↓ex_invokestatic, ↓xc_0, ↓xc_s, ↓xc_1, ↓pk_s, ↓k_s, ↓k_n, catS_n, catS_c, rOk_c, ct_i, ct_l, ct_r, ↓pk_t, fX3_forget_4, ↓ex_ifCond_ne, ↓s1I_c, fX3_forget_7, ↓ex_bipush, fX3_forget_9, ↓ex_ireturn, ↓rt_i, fX3_forget_10, ↓ex_aload_n, ↓xR_r, ↓xRg_c, fX3_forget_11, fX3_forget_12, fX3_forget_14, ↓ex_invokevirtual, ↓pk_f, fX3_forget_17, p0, p1, q0, q1, ↓C_X3_isNode, ↓C_X3_replaceSeen, b2i_0, Classical.not_not, ↓reduceIte, not_true_eq_false, not_false_eq_true, false_implies, true_implies, implies_true, and_true, true_and, and_false, false_and, or_true, true_or, or_false, false_or, Classical.not_not, ite_true, ite_false]
    by_cases hv : inR v 0 7
    case neg => (simp only [hv, ↓reduceIte, not_true_eq_false, not_false_eq_true, false_implies, true_implies, implies_true, and_true, true_and, and_false, false_and, or_true, true_or, or_false, false_or, Classical.not_not, ite_true, ite_false]; exact ok (by unfold s_forget; rw [cif_f hv]))
    simp only [hv, ↓reduceIte, not_true_eq_false, not_false_eq_true, false_implies, true_implies, implies_true, and_true, true_and, and_false, false_and, or_true, true_or, or_false, false_or, Classical.not_not, ite_true, ite_false]
    obtain ⟨-, h2, h3⟩ := inR_cl (lo := 0) (hi := 7) (by omega) hv
    have hsp : s_forget v g = (g.now.S (cl v), withS (s_see g.now (cl v) 100) (s_rem g)) := by unfold s_forget; rw [cif_t hv]
    rw [hsp] at hpost
    exact ⟨g, cl v, ⟨hR0, h3, by omega, Or.inr (Or.inl rfl)⟩, hpost⟩
  next => exact hC.elim)
noncomputable def C_X3_observed : CT := fun As X K => match As with
  | [.ref b, .int v] => b = 0 ∧ PubI (s_observed v) X K
  | _ => False
set_option maxRecDepth 20000 in
set_option maxHeartbeats 4000000 in
theorem d_X3_observed (l : Launch) : Does l yX3_observed (wY yX3_observed cX3_observed 2 (retT 0)) (rmF 1) C_X3_observed := does_of (rt := 0) (by decide +kernel) tkX3_observed (calls := [(42, true, 1, 3, C_X3_isNode)]) (List.forall_mem_cons.mpr ⟨cr_S (d_X3_isNode l) (by decide +kernel) (by decide +kernel) ⟨rfl, rfl⟩ ⟨Nat.le_of_ble_eq_true rfl, Nat.le_of_ble_eq_true rfl⟩, fun _ h => absurd h List.not_mem_nil⟩) (by
  intro As X post hC
  unfold C_X3_observed at hC
  split at hC
  next b v =>
    obtain ⟨rfl, g, hR0, hpost⟩ := hC
    refine ⟨Nat.le_of_ble_eq_true rfl, fun R hR => ?_⟩
    obtain ⟨⟨p0, p1, p2, p3, p4, p5, p6⟩, q0, q1, q2, q3, q4, q5, q6⟩ := sh_base
    obtain ⟨⟨w1, w2, w3, w4⟩, c1, c2, -⟩ := id hR0
    obtain ⟨d1, d2, d3, d4, d5⟩ := id c1
    have hn := w1.1
    have ok := fun {r : Int32} => pub_same (r := r) hR0 hpost
    refine go hR [] 200 ?_
    simp only [lv_args, ↓reduceIte, Nat.reduceEqDiff, Nat.reduceAdd, Nat.reduceLeDiff, reduceCtorEq, and_true, true_and, false_and, and_false, true_or, or_true, or_false, false_or, true_implies, false_implies, implies_true, not_true_eq_false, not_false_eq_true, eq_self, fx_s, ↓run_s, run_0, ↓rs_n, ↓rs_c, as_s, ls_n, ls_c, lc_s, lget_c, fX3_observed_0, ↓ex_iload_n, ↓xI_i, ↓xIg_c, fX3_observed_1, ↓ex_invokestatic, ↓xc_0, ↓xc_s, ↓xc_1, ↓pk_s, ↓k_s, ↓k_n, catS_n, catS_c, rOk_c, ct_i, ct_l, ct_r, ↓pk_t, fX3_observed_4, ↓ex_ifCond_ne, ↓s1I_c, fX3_observed_7, ↓ex_bipush, fX3_observed_9, ↓ex_ireturn, ↓rt_i, fX3_observed_10, ↓ex_aload_n, ↓xR_r, ↓xRg_c, fX3_observed_11, ↓ex_getfield, ↓s1R_c, ↓fv_3_0, fX3_observed_14, ↓fv_0_6, fX3_observed_17, fX3_observed_18, ↓ex_iaload, ↓sRI_c, ↓scrR_n, fX3_observed_19, p0, p1, p6, q0, q1, q6, ↓C_X3_isNode, b2i_0, Classical.not_not, ↓reduceIte, not_true_eq_false, not_false_eq_true, false_implies, true_implies, implies_true, and_true, true_and, and_false, false_and, or_true, true_or, or_false, false_or, Classical.not_not, ite_true, ite_false]
    by_cases hv : inR v 0 7
    case neg => (simp only [hv, ↓reduceIte, not_true_eq_false, not_false_eq_true, false_implies, true_implies, implies_true, and_true, true_and, and_false, false_and, or_true, true_or, or_false, false_or, Classical.not_not, ite_true, ite_false]; exact ok (by unfold s_observed; rw [cif_f hv]))
    simp only [hv, ↓reduceIte, not_true_eq_false, not_false_eq_true, false_implies, true_implies, implies_true, and_true, true_and, and_false, false_and, or_true, true_or, or_false, false_or, Classical.not_not, ite_true, ite_false]
    obtain ⟨-, h2, h3⟩ := inR_cl (lo := 0) (hi := 7) (by omega) hv
    refine ⟨by rw [h3]; exact vp_inN (by omega) (by omega), ok ?_⟩
    unfold s_observed
    rw [cif_t hv]
    have := d4 (cl v) (by omega)
    rw [← this]
  next => exact hC.elim)
noncomputable def C_X3_edge : CT := fun As X K => match As with
  | [.ref b, .int e, .int w] => b = 0 ∧ PubI (s_edge e w) X K
  | _ => False
set_option maxRecDepth 20000 in
set_option maxHeartbeats 4000000 in
theorem d_X3_edge (l : Launch) : Does l yX3_edge (wY yX3_edge cX3_edge 3 (retT 0)) (rmF 1) C_X3_edge := does_of (rt := 0) (by decide +kernel) tkX3_edge (calls := [(67, false, 2, 0, C_X0_hasEdge)]) (List.forall_mem_cons.mpr ⟨cr_NV (d_X0_hasEdge l) rfl (by decide +kernel) (by decide +kernel) (by decide +kernel) ⟨rfl, rfl⟩ ⟨Nat.le_of_ble_eq_true rfl, Nat.le_of_ble_eq_true rfl⟩, fun _ h => absurd h List.not_mem_nil⟩) (by
  intro As X post hC
  unfold C_X3_edge at hC
  split at hC
  next b e w =>
    obtain ⟨rfl, g, hR0, hpost⟩ := hC
    refine ⟨Nat.le_of_ble_eq_true rfl, fun R hR => ?_⟩
    obtain ⟨⟨p0, p1, p2, p3, p4, p5, p6⟩, q0, q1, q2, q3, q4, q5, q6⟩ := sh_base
    obtain ⟨⟨w1, w2, w3, w4⟩, c1, c2, -⟩ := id hR0
    obtain ⟨d1, d2, d3, d4, d5⟩ := id c1
    have hn := w1.1
    have ok := fun {r : Int32} => pub_same (r := r) hR0 hpost
    refine go hR [] 200 ?_
    simp only [lv_args, ↓reduceIte, Nat.reduceEqDiff, Nat.reduceAdd, Nat.reduceLeDiff, reduceCtorEq, and_true, true_and, false_and, and_false, true_or, or_true, or_false, false_or, true_implies, false_implies, implies_true, not_true_eq_false, not_false_eq_true, eq_self, fx_s, ↓run_s, run_0, ↓rs_n, ↓rs_c, as_s, ls_n, ls_c, lc_s, lget_c, fX3_edge_0, ↓ex_aload_n, ↓xR_r, ↓xRg_c, fX3_edge_1, ↓ex_getfield, ↓s1R_c, ↓fv_3_0, fX3_edge_4, ↓ex_iload_n, ↓xI_i, ↓xIg_c, fX3_edge_5, ↓ex_invokevirtual, ↓xc_0, ↓xc_s, ↓xc_1, ↓pk_s, ↓k_s, ↓k_n, catS_n, catS_c, rOk_c, ct_i, ct_l, ct_r, ↓pk_f, fX3_edge_8, ↓ex_ifCond_ne, ↓s1I_c, fX3_edge_11, ↓ex_bipush, fX3_edge_13, ↓ex_ireturn, ↓rt_i, fX3_edge_14, fX3_edge_15, ↓ex_tableswitch, fX3_edge_44, fX3_edge_45, fX3_edge_48, ↓fv_0_0, fX3_edge_51, fX3_edge_52, ↓ex_iaload, ↓sRI_c, ↓scrR_n, fX3_edge_53, fX3_edge_54, fX3_edge_55, fX3_edge_58, ↓fv_0_1, fX3_edge_61, fX3_edge_62, fX3_edge_63, fX3_edge_64, fX3_edge_65, fX3_edge_68, ↓fv_0_2, fX3_edge_71, fX3_edge_72, fX3_edge_73, fX3_edge_74, fX3_edge_75, fX3_edge_78, ↓fv_0_3, fX3_edge_81, fX3_edge_82, fX3_edge_83, fX3_edge_84, fX3_edge_86, p0, p1, p2, p3, p4, p5, q0, q1, q2, q3, q4, q5, ↓C_X0_hasEdge, b2i_0, Classical.not_not, ↓reduceIte, not_true_eq_false, not_false_eq_true, false_implies, true_implies, implies_true, and_true, true_and, and_false, false_and, or_true, true_or, or_false, false_or, Classical.not_not, ite_true, ite_false]
    refine ⟨g.now, ⟨sc1, c1, hn⟩, ?_⟩
    by_cases he : 0 ≤ e.toInt ∧ e.toInt < (g.now.n : Int)
    case neg => (simp only [he, ↓reduceIte, not_true_eq_false, not_false_eq_true, false_implies, true_implies, implies_true, and_true, true_and, and_false, false_and, or_true, true_or, or_false, false_or, Classical.not_not, ite_true, ite_false]; exact ok (by unfold s_edge; rw [cif_f he]))
    simp only [he, ↓reduceIte, not_true_eq_false, not_false_eq_true, false_implies, true_implies, implies_true, and_true, true_and, and_false, false_and, or_true, true_or, or_false, false_or, Classical.not_not, ite_true, ite_false]
    obtain ⟨-, he2, he3⟩ := inR_cl (lo := 0) (hi := 12) (by omega) (show inR e 0 12 from ⟨he.1, by omega⟩)
    have he4 : cl e < g.now.n := by have := nI_toInt (n := cl e) (by omega); rw [← he3] at this; omega
    have hve : vp_in e 12 := by rw [he3]; exact vp_inN (by omega) (by omega)
    obtain ⟨g1, g2, g3, g4⟩ := d2 (cl e) he4
    by_cases w0 : w = 0
    · subst w0
      simp only [show tsw 15 69 0 3 #[29, 39, 49, 59] 0 = 44 from rfl, ↓reduceIte, Nat.reduceEqDiff, Nat.reduceAdd, Nat.reduceLeDiff, reduceCtorEq, and_true, true_and, false_and, and_false, true_or, or_true, or_false, false_or, true_implies, false_implies, implies_true, not_true_eq_false, not_false_eq_true, eq_self, fx_s, ↓run_s, run_0, ↓rs_n, ↓rs_c, as_s, ls_n, ls_c, lc_s, lget_c, fX3_edge_0, ↓ex_aload_n, ↓xR_r, ↓xRg_c, fX3_edge_1, ↓ex_getfield, ↓s1R_c, ↓fv_3_0, fX3_edge_4, ↓ex_iload_n, ↓xI_i, ↓xIg_c, fX3_edge_5, ↓ex_invokevirtual, ↓xc_0, ↓xc_s, ↓xc_1, ↓pk_s, ↓k_s, ↓k_n, catS_n, catS_c, rOk_c, ct_i, ct_l, ct_r, ↓pk_f, fX3_edge_8, ↓ex_ifCond_ne, ↓s1I_c, fX3_edge_11, ↓ex_bipush, fX3_edge_13, ↓ex_ireturn, ↓rt_i, fX3_edge_14, fX3_edge_15, ↓ex_tableswitch, fX3_edge_44, fX3_edge_45, fX3_edge_48, ↓fv_0_0, fX3_edge_51, fX3_edge_52, ↓ex_iaload, ↓sRI_c, ↓scrR_n, fX3_edge_53, fX3_edge_54, fX3_edge_55, fX3_edge_58, ↓fv_0_1, fX3_edge_61, fX3_edge_62, fX3_edge_63, fX3_edge_64, fX3_edge_65, fX3_edge_68, ↓fv_0_2, fX3_edge_71, fX3_edge_72, fX3_edge_73, fX3_edge_74, fX3_edge_75, fX3_edge_78, ↓fv_0_3, fX3_edge_81, fX3_edge_82, fX3_edge_83, fX3_edge_84, fX3_edge_86, p0, p1, p2, p3, p4, p5, q0, q1, q2, q3, q4, q5, ↓reduceIte, not_true_eq_false, not_false_eq_true, false_implies, true_implies, implies_true, and_true, true_and, and_false, false_and, or_true, true_or, or_false, false_or, Classical.not_not, ite_true, ite_false]
      refine ⟨hve, ok ?_⟩
      unfold s_edge
      rw [cif_t he, cif_t rfl]
      rw [show X.1 2 e.toNatClampNeg = _ from g1]
    by_cases w1 : w = 1
    · subst w1
      simp only [show tsw 15 69 0 3 #[29, 39, 49, 59] 1 = 54 from rfl, ↓reduceIte, Nat.reduceEqDiff, Nat.reduceAdd, Nat.reduceLeDiff, reduceCtorEq, and_true, true_and, false_and, and_false, true_or, or_true, or_false, false_or, true_implies, false_implies, implies_true, not_true_eq_false, not_false_eq_true, eq_self, fx_s, ↓run_s, run_0, ↓rs_n, ↓rs_c, as_s, ls_n, ls_c, lc_s, lget_c, fX3_edge_0, ↓ex_aload_n, ↓xR_r, ↓xRg_c, fX3_edge_1, ↓ex_getfield, ↓s1R_c, ↓fv_3_0, fX3_edge_4, ↓ex_iload_n, ↓xI_i, ↓xIg_c, fX3_edge_5, ↓ex_invokevirtual, ↓xc_0, ↓xc_s, ↓xc_1, ↓pk_s, ↓k_s, ↓k_n, catS_n, catS_c, rOk_c, ct_i, ct_l, ct_r, ↓pk_f, fX3_edge_8, ↓ex_ifCond_ne, ↓s1I_c, fX3_edge_11, ↓ex_bipush, fX3_edge_13, ↓ex_ireturn, ↓rt_i, fX3_edge_14, fX3_edge_15, ↓ex_tableswitch, fX3_edge_44, fX3_edge_45, fX3_edge_48, ↓fv_0_0, fX3_edge_51, fX3_edge_52, ↓ex_iaload, ↓sRI_c, ↓scrR_n, fX3_edge_53, fX3_edge_54, fX3_edge_55, fX3_edge_58, ↓fv_0_1, fX3_edge_61, fX3_edge_62, fX3_edge_63, fX3_edge_64, fX3_edge_65, fX3_edge_68, ↓fv_0_2, fX3_edge_71, fX3_edge_72, fX3_edge_73, fX3_edge_74, fX3_edge_75, fX3_edge_78, ↓fv_0_3, fX3_edge_81, fX3_edge_82, fX3_edge_83, fX3_edge_84, fX3_edge_86, p0, p1, p2, p3, p4, p5, q0, q1, q2, q3, q4, q5, ↓reduceIte, not_true_eq_false, not_false_eq_true, false_implies, true_implies, implies_true, and_true, true_and, and_false, false_and, or_true, true_or, or_false, false_or, Classical.not_not, ite_true, ite_false]
      refine ⟨hve, ok ?_⟩
      unfold s_edge
      rw [cif_t he, cif_f (show ¬ (1 : Int32) = 0 by decide), cif_t rfl]
      rw [show X.1 3 e.toNatClampNeg = _ from g2]
    by_cases w2 : w = 2
    · subst w2
      simp only [show tsw 15 69 0 3 #[29, 39, 49, 59] 2 = 64 from rfl, ↓reduceIte, Nat.reduceEqDiff, Nat.reduceAdd, Nat.reduceLeDiff, reduceCtorEq, and_true, true_and, false_and, and_false, true_or, or_true, or_false, false_or, true_implies, false_implies, implies_true, not_true_eq_false, not_false_eq_true, eq_self, fx_s, ↓run_s, run_0, ↓rs_n, ↓rs_c, as_s, ls_n, ls_c, lc_s, lget_c, fX3_edge_0, ↓ex_aload_n, ↓xR_r, ↓xRg_c, fX3_edge_1, ↓ex_getfield, ↓s1R_c, ↓fv_3_0, fX3_edge_4, ↓ex_iload_n, ↓xI_i, ↓xIg_c, fX3_edge_5, ↓ex_invokevirtual, ↓xc_0, ↓xc_s, ↓xc_1, ↓pk_s, ↓k_s, ↓k_n, catS_n, catS_c, rOk_c, ct_i, ct_l, ct_r, ↓pk_f, fX3_edge_8, ↓ex_ifCond_ne, ↓s1I_c, fX3_edge_11, ↓ex_bipush, fX3_edge_13, ↓ex_ireturn, ↓rt_i, fX3_edge_14, fX3_edge_15, ↓ex_tableswitch, fX3_edge_44, fX3_edge_45, fX3_edge_48, ↓fv_0_0, fX3_edge_51, fX3_edge_52, ↓ex_iaload, ↓sRI_c, ↓scrR_n, fX3_edge_53, fX3_edge_54, fX3_edge_55, fX3_edge_58, ↓fv_0_1, fX3_edge_61, fX3_edge_62, fX3_edge_63, fX3_edge_64, fX3_edge_65, fX3_edge_68, ↓fv_0_2, fX3_edge_71, fX3_edge_72, fX3_edge_73, fX3_edge_74, fX3_edge_75, fX3_edge_78, ↓fv_0_3, fX3_edge_81, fX3_edge_82, fX3_edge_83, fX3_edge_84, fX3_edge_86, p0, p1, p2, p3, p4, p5, q0, q1, q2, q3, q4, q5, ↓reduceIte, not_true_eq_false, not_false_eq_true, false_implies, true_implies, implies_true, and_true, true_and, and_false, false_and, or_true, true_or, or_false, false_or, Classical.not_not, ite_true, ite_false]
      refine ⟨hve, ok ?_⟩
      unfold s_edge
      rw [cif_t he, cif_f (show ¬ (2 : Int32) = 0 by decide), cif_f (show ¬ (2 : Int32) = 1 by decide), cif_t rfl]
      rw [show X.1 4 e.toNatClampNeg = _ from g3]
    by_cases w3 : w = 3
    · subst w3
      simp only [show tsw 15 69 0 3 #[29, 39, 49, 59] 3 = 74 from rfl, ↓reduceIte, Nat.reduceEqDiff, Nat.reduceAdd, Nat.reduceLeDiff, reduceCtorEq, and_true, true_and, false_and, and_false, true_or, or_true, or_false, false_or, true_implies, false_implies, implies_true, not_true_eq_false, not_false_eq_true, eq_self, fx_s, ↓run_s, run_0, ↓rs_n, ↓rs_c, as_s, ls_n, ls_c, lc_s, lget_c, fX3_edge_0, ↓ex_aload_n, ↓xR_r, ↓xRg_c, fX3_edge_1, ↓ex_getfield, ↓s1R_c, ↓fv_3_0, fX3_edge_4, ↓ex_iload_n, ↓xI_i, ↓xIg_c, fX3_edge_5, ↓ex_invokevirtual, ↓xc_0, ↓xc_s, ↓xc_1, ↓pk_s, ↓k_s, ↓k_n, catS_n, catS_c, rOk_c, ct_i, ct_l, ct_r, ↓pk_f, fX3_edge_8, ↓ex_ifCond_ne, ↓s1I_c, fX3_edge_11, ↓ex_bipush, fX3_edge_13, ↓ex_ireturn, ↓rt_i, fX3_edge_14, fX3_edge_15, ↓ex_tableswitch, fX3_edge_44, fX3_edge_45, fX3_edge_48, ↓fv_0_0, fX3_edge_51, fX3_edge_52, ↓ex_iaload, ↓sRI_c, ↓scrR_n, fX3_edge_53, fX3_edge_54, fX3_edge_55, fX3_edge_58, ↓fv_0_1, fX3_edge_61, fX3_edge_62, fX3_edge_63, fX3_edge_64, fX3_edge_65, fX3_edge_68, ↓fv_0_2, fX3_edge_71, fX3_edge_72, fX3_edge_73, fX3_edge_74, fX3_edge_75, fX3_edge_78, ↓fv_0_3, fX3_edge_81, fX3_edge_82, fX3_edge_83, fX3_edge_84, fX3_edge_86, p0, p1, p2, p3, p4, p5, q0, q1, q2, q3, q4, q5, ↓reduceIte, not_true_eq_false, not_false_eq_true, false_implies, true_implies, implies_true, and_true, true_and, and_false, false_and, or_true, true_or, or_false, false_or, Classical.not_not, ite_true, ite_false]
      refine ⟨hve, ok ?_⟩
      unfold s_edge
      rw [cif_t he, cif_f (show ¬ (3 : Int32) = 0 by decide), cif_f (show ¬ (3 : Int32) = 1 by decide), cif_f (show ¬ (3 : Int32) = 2 by decide), cif_t rfl]
      rw [show X.1 5 e.toNatClampNeg = _ from g4]
    have e9 : tsw 15 69 0 3 #[29, 39, 49, 59] w = 84 := by
      unfold tsw
      rw [if_pos]
      · rfl
      · rw [eqI] at w0 w1 w2 w3
        simp only [tI_m5, tI_m4, tI_m3, tI_m2, tI_m1, tI_0, tI_1, tI_2, tI_3, tI_4, tI_5, tI_7, tI_8, tI_10, tI_12, tI_30, tI_31, tI_32, tI_47, tI_48, tI_57, tI_59, tI_42, tI_43, tI_45, tI_61, tI_62, tI_100, tI_120, tI_255, tI_1000] at w0 w1 w2 w3
        omega
    simp only [e9, ↓reduceIte, Nat.reduceEqDiff, Nat.reduceAdd, Nat.reduceLeDiff, reduceCtorEq, and_true, true_and, false_and, and_false, true_or, or_true, or_false, false_or, true_implies, false_implies, implies_true, not_true_eq_false, not_false_eq_true, eq_self, fx_s, ↓run_s, run_0, ↓rs_n, ↓rs_c, as_s, ls_n, ls_c, lc_s, lget_c, fX3_edge_0, ↓ex_aload_n, ↓xR_r, ↓xRg_c, fX3_edge_1, ↓ex_getfield, ↓s1R_c, ↓fv_3_0, fX3_edge_4, ↓ex_iload_n, ↓xI_i, ↓xIg_c, fX3_edge_5, ↓ex_invokevirtual, ↓xc_0, ↓xc_s, ↓xc_1, ↓pk_s, ↓k_s, ↓k_n, catS_n, catS_c, rOk_c, ct_i, ct_l, ct_r, ↓pk_f, fX3_edge_8, ↓ex_ifCond_ne, ↓s1I_c, fX3_edge_11, ↓ex_bipush, fX3_edge_13, ↓ex_ireturn, ↓rt_i, fX3_edge_14, fX3_edge_15, ↓ex_tableswitch, fX3_edge_44, fX3_edge_45, fX3_edge_48, ↓fv_0_0, fX3_edge_51, fX3_edge_52, ↓ex_iaload, ↓sRI_c, ↓scrR_n, fX3_edge_53, fX3_edge_54, fX3_edge_55, fX3_edge_58, ↓fv_0_1, fX3_edge_61, fX3_edge_62, fX3_edge_63, fX3_edge_64, fX3_edge_65, fX3_edge_68, ↓fv_0_2, fX3_edge_71, fX3_edge_72, fX3_edge_73, fX3_edge_74, fX3_edge_75, fX3_edge_78, ↓fv_0_3, fX3_edge_81, fX3_edge_82, fX3_edge_83, fX3_edge_84, fX3_edge_86, ↓reduceIte, not_true_eq_false, not_false_eq_true, false_implies, true_implies, implies_true, and_true, true_and, and_false, false_and, or_true, true_or, or_false, false_or, Classical.not_not, ite_true, ite_false]
    exact ok (by unfold s_edge; rw [cif_t he, cif_f w0, cif_f w1, cif_f w2, cif_f w3])
  next => exact hC.elim)
end PUB2
end
section
section BITS
theorem s_l : ∀ n, n < 32 → ((nI n &&& 31).toBitVec.smod 32).toNat = n := by decide +kernel
theorem fa_or (a b : Nat) : nI a ||| nI b = nI (a ||| b) := by
  apply Int32.toBitVec_inj.1
  show BitVec.ofNat 32 a ||| BitVec.ofNat 32 b = BitVec.ofNat 32 (a ||| b)
  apply BitVec.eq_of_getLsbD_eq
  intro i hi
  simp [hi]
theorem shlN {e : Nat} (he : e < 31) : (1 : Int32) <<< (nI e &&& 31) = nI (2 ^ e) := by
  have h := pk_shlN (n := 1) (nI e &&& 31) e (s_l e (by omega)) (by
    rw [Nat.one_mul]
    exact Nat.pow_lt_pow_right (by decide) (by omega))
  rw [Nat.one_mul] at h
  exact h
theorem shrN {m e : Nat} (hm : m < 2147483648) (he : e < 32) : nI m >>> (nI e &&& 31) = nI (m / 2 ^ e) := pk_shrN hm (nI e &&& 31) e (s_l e he)
theorem and1N {m : Nat} (hm : m < 4294967296) : nI m &&& 1 = nI (m % 2) := pk_andN hm 1 rfl
theorem bit1 {m e : Nat} (hm : m < 2147483648) (he : e < 32) : (nI m >>> (nI e &&& 31) &&& 1 = 1) = (m.testBit e = true) := by
  have h1 : m / 2 ^ e ≤ m := Nat.div_le_self _ _
  rw [shrN hm he, and1N (by omega)]
  have h2 : m / 2 ^ e % 2 < 2 := Nat.mod_lt _ (by decide)
  rw [show (1 : Int32) = nI 1 from rfl, eqN (by omega) (by decide), Nat.testBit_eq_decide_div_mod_eq]
  simp
theorem bit0 {m e : Nat} (hm : m < 2147483648) (he : e < 32) : (nI m >>> (nI e &&& 31) &&& 1 = 0) = (m.testBit e = false) := by
  have h1 : m / 2 ^ e ≤ m := Nat.div_le_self _ _
  rw [shrN hm he, and1N (by omega)]
  have h2 : m / 2 ^ e % 2 < 2 := Nat.mod_lt _ (by decide)
  rw [show (0 : Int32) = nI 0 from rfl, eqN (by omega) (by decide), Nat.testBit_eq_decide_div_mod_eq]
  simp
theorem p2_lt {n : Nat} (h : n ≤ 12) : 2 ^ n ≤ 4096 := by
  have : 2 ^ n ≤ 2 ^ 12 := Nat.pow_le_pow_right (by decide) h
  exact this
/-- an outcome -/
def isO (s : SV) (o : Int32) : Prop := 0 ≤ o.toInt ∧ o.toInt < ((2 ^ s.n : Nat) : Int)
theorem isO_cl {s : SV} {o : Int32} (hn : s.n ≤ 12) (h : isO s o) : cl o < 2 ^ s.n ∧ cl o < 4096 ∧ o = nI (cl o) := by
  have h2 := p2_lt hn
  obtain ⟨-, a2, a3⟩ := inR_cl (lo := 0) (hi := 4095) (by omega) (show inR o 0 4095 from ⟨h.1, by have := h.2; omega⟩)
  have h3 : (nI (cl o)).toInt = cl o := nI_toInt (by omega)
  rw [← a3] at h3
  have := h.2
  exact ⟨by omega, by omega, a3⟩
noncomputable def C_X3_isOutcome : CT := fun As X K => match As with
  | [.ref b, .int o] => ∃ s : SV, (b = 0 ∧ RS X 1 s ∧ s.n ≤ 12) ∧ K (some (.int (b2i (isO s o)))) X
  | _ => False
set_option maxRecDepth 20000 in
set_option maxHeartbeats 4000000 in
theorem d_X3_isOutcome (l : Launch) : Does l yX3_isOutcome (wY yX3_isOutcome cX3_isOutcome 2 (retT 1)) (rmF 0) C_X3_isOutcome := does_of (rt := 1) (by decide +kernel) tkX3_isOutcome (calls := []) (fun _ h => absurd h List.not_mem_nil) (by
  intro As X post hC
  unfold C_X3_isOutcome at hC
  split at hC
  next b o =>
    obtain ⟨s, ⟨rfl, ⟨h1, -⟩, hn⟩, hC⟩ := hC
    refine ⟨Nat.le_of_ble_eq_true rfl, fun R hR => ?_⟩
    obtain ⟨⟨p0, p1, p2, p3, p4, p5, p6⟩, q0, q1, q2, q3, q4, q5, q6⟩ := sh_base
    have h2 := p2_lt hn
    have e1 : (nI (2 ^ s.n)).toInt = ((2 ^ s.n : Nat) : Int) := nI_toInt (by omega)
    have p0' : ¬ isO s o → post (some (.int 0)) X := fun h => by rw [b2i_f h] at hC; exact hC
    have p1' : isO s o → post (some (.int 1)) X := fun h => by rw [b2i_t h] at hC; exact hC
    unfold isO at p0' p1'
    refine go hR [] 60 ?_
    simp only [lv_args, ↓reduceIte, Nat.reduceEqDiff, Nat.reduceAdd, Nat.reduceLeDiff, reduceCtorEq, and_true, true_and, false_and, and_false, true_or, or_true, or_false, false_or, true_implies, false_implies, implies_true, not_true_eq_false, not_false_eq_true, eq_self, fx_s, ↓run_s, run_0, ↓rs_n, ↓rs_c, as_s, ls_n, ls_c, lc_s, lget_c, fX3_isOutcome_0, ↓ex_iload_n, ↓xI_i, ↓xIg_c, fX3_isOutcome_1, ↓ex_ifCond_lt, ↓s1I_c, fX3_isOutcome_4, fX3_isOutcome_5, ↓ex_iconst, fX3_isOutcome_6, ↓ex_aload_n, ↓xR_r, ↓xRg_c, fX3_isOutcome_7, ↓ex_getfield, ↓s1R_c, ↓fv_3_0, fX3_isOutcome_10, ↓fv_0_4, fX3_isOutcome_13, ↓ex_ishl, ↓s2I_c, fX3_isOutcome_14, ↓ex_if_icmp_ge, fX3_isOutcome_17, fX3_isOutcome_18, ↓ex_goto, fX3_isOutcome_21, fX3_isOutcome_22, ↓ex_ireturn, ↓rt_i, p0, p1, q0, q1, h1, shlN (e := s.n) (by omega), leI, ltI, tI_m5, tI_m4, tI_m3, tI_m2, tI_m1, tI_0, tI_1, tI_2, tI_3, tI_4, tI_5, tI_7, tI_8, tI_10, tI_12, tI_30, tI_31, tI_32, tI_47, tI_48, tI_57, tI_59, tI_42, tI_43, tI_45, tI_61, tI_62, tI_100, tI_120, tI_255, tI_1000, e1]
    repeat' (first | apply And.intro | intro _)
    all_goals first | exact bl_0 | exact bl_1 | exact p0' (by omega) | exact p1' (by omega)
  next => exact hC.elim)
def C_X3_timeOrNone : CT := fun As X K => match As with
  | [.int t] => K (some (.int (if t = 31 then -1 else t))) X
  | _ => False
set_option maxRecDepth 20000 in
set_option maxHeartbeats 4000000 in
theorem d_X3_timeOrNone (l : Launch) : Does l yX3_timeOrNone (wY yX3_timeOrNone cX3_timeOrNone 1 (retT 0)) (rmF 0) C_X3_timeOrNone := does_of (rt := 0) (by decide +kernel) tkX3_timeOrNone (calls := []) (fun _ h => absurd h List.not_mem_nil) (by
  intro As X post hC
  unfold C_X3_timeOrNone at hC
  split at hC
  next t =>
    refine ⟨Nat.le_of_ble_eq_true rfl, fun R hR => ?_⟩
    refine go hR [] 60 ?_
    simp only [lv_args, ↓reduceIte, Nat.reduceEqDiff, Nat.reduceAdd, Nat.reduceLeDiff, reduceCtorEq, and_true, true_and, false_and, and_false, true_or, or_true, or_false, false_or, true_implies, false_implies, implies_true, not_true_eq_false, not_false_eq_true, eq_self, fx_s, ↓run_s, run_0, ↓rs_n, ↓rs_c, as_s, ls_n, ls_c, lc_s, lget_c, fX3_timeOrNone_0, ↓ex_iload_n, ↓xI_i, ↓xIg_c, fX3_timeOrNone_1, ↓ex_bipush, fX3_timeOrNone_3, ↓ex_if_icmp_ne, ↓s2I_c, fX3_timeOrNone_6, ↓ex_iconst, fX3_timeOrNone_7, ↓ex_goto, fX3_timeOrNone_10, fX3_timeOrNone_11, ↓ex_ireturn, ↓rt_i]
    by_cases h : t = 31
    · rw [if_pos h] at hC
      exact ⟨fun z => absurd h z, fun _ => hC⟩
    · rw [if_neg h] at hC
      exact ⟨fun _ => hC, fun z => absurd z h⟩
  next => exact hC.elim)
/-- the weight of outcome o, edges below k -/
def wtN (W : Nat → Nat) (o : Nat) : Nat → Nat
  | 0 => 1
  | k + 1 => wtN W o k * (if o.testBit k then W k else 10 - W k)
theorem wtN_le {W : Nat → Nat} {o n : Nat} (hW : ∀ e, e < n → W e ≤ 10) : ∀ k, k ≤ n → wtN W o k ≤ 10 ^ k
  | 0, _ => Nat.le_refl _
  | k + 1, h => by
    unfold wtN
    rw [Nat.pow_succ]
    refine Nat.mul_le_mul (wtN_le hW k (by omega)) ?_
    have := hW k (by omega)
    split <;> omega
theorem p10_le {k : Nat} (h : k ≤ 12) : 10 ^ k ≤ 1000000000000 := Nat.pow_le_pow_right (by decide) h
noncomputable def s_weight (o : Int32) (g : SG) : Int64 × SG := (cif (isO g.now o) (lN (wtN g.now.W (cl o) g.now.n)) (-3), g)
theorem i2lN {n : Nat} (h : n < 2147483648) : (nI n).toInt64 = lN n := nI_l h
noncomputable def C_X3_weight : CT := fun As X K => match As with
  | [.ref b, .int o] => b = 0 ∧ PubL (s_weight o) X K
  | _ => False
set_option maxRecDepth 20000 in
set_option maxHeartbeats 4000000 in
theorem d_X3_weight (l : Launch) : Does l yX3_weight (wY yX3_weight cX3_weight 6 (retT 2)) (rmF 1) C_X3_weight := does_of (rt := 2) (by decide +kernel) tkX3_weight (calls := [(125, false, 2, 3, C_X3_isOutcome)]) (List.forall_mem_cons.mpr ⟨cr_V (d_X3_isOutcome l) rfl (by decide +kernel) (by decide +kernel) ⟨rfl, rfl⟩ ⟨Nat.le_of_ble_eq_true rfl, Nat.le_of_ble_eq_true rfl⟩, fun _ h => absurd h List.not_mem_nil⟩) (by
  intro As X post hC
  unfold C_X3_weight at hC
  split at hC
  next b o =>
    obtain ⟨rfl, g, hR0, hpost⟩ := hC
    refine ⟨Nat.le_of_ble_eq_true rfl, fun R hR => ?_⟩
    obtain ⟨⟨p0, p1, p2, p3, p4, p5, p6⟩, q0, q1, q2, q3, q4, q5, q6⟩ := sh_base
    obtain ⟨⟨w1, w2, w3, w4⟩, c1, c2, -⟩ := id hR0
    obtain ⟨d1, d2, d3, d4, d5⟩ := id c1
    have hn := w1.1
    have hfin := hpost X hR0 (FrM.rf X)
    refine go hR [(17, [0, 1, 2, 4])] 60 ?_
    simp only [lv_args, ↓reduceIte, Nat.reduceEqDiff, Nat.reduceAdd, Nat.reduceLeDiff, reduceCtorEq, and_true, true_and, false_and, and_false, true_or, or_true, or_false, false_or, true_implies, false_implies, implies_true, not_true_eq_false, not_false_eq_true, eq_self, fx_s, ↓run_s, run_0, ↓rs_n, ↓rs_c, as_s, ls_n, ls_c, lc_s, lget_c, fX3_weight_0, ↓ex_aload_n, ↓xR_r, ↓xRg_c, fX3_weight_1, ↓ex_iload_n, ↓xI_i, ↓xIg_c, fX3_weight_2, ↓ex_invokevirtual, ↓xc_0, ↓xc_s, ↓xc_1, ↓pk_s, ↓k_s, ↓k_n, catS_n, catS_c, rOk_c, ct_i, ct_l, ct_r, ↓pk_f, fX3_weight_5, ↓ex_ifCond_ne, ↓s1I_c, fX3_weight_8, ↓ex_ldc2_w, fX3_weight_11, ↓ex_lreturn, ↓rt_l, fX3_weight_12, ↓ex_lconst, fX3_weight_13, ↓ex_lstore_n, ↓s1L_c, ↓lsto_e, ↓lrmK_n, ↓lrmK_t, fX3_weight_14, ↓ex_iconst, fX3_weight_15, ↓ex_istore, ↓lrmK_f, fX3_weight_17, ↓ex_iload, fX3_weight_19, fX3_weight_20, ↓ex_getfield, ↓s1R_c, ↓fv_3_0, fX3_weight_23, ↓fv_0_4, fX3_weight_26, ↓ex_if_icmp_ge, ↓s2I_c, fX3_weight_29, fX3_weight_30, fX3_weight_33, ↓fv_0_2, fX3_weight_36, fX3_weight_38, ↓ex_iaload, ↓sRI_c, ↓scrR_n, fX3_weight_39, fX3_weight_41, ↓ex_lload_n, ↓xL_l, ↓xLg_c, fX3_weight_42, fX3_weight_43, fX3_weight_45, ↓ex_ishr, fX3_weight_46, fX3_weight_47, ↓ex_iand, fX3_weight_48, fX3_weight_49, ↓ex_if_icmp_ne, fX3_weight_52, fX3_weight_54, ↓ex_i2l, fX3_weight_55, ↓ex_goto, fX3_weight_58, ↓ex_bipush, fX3_weight_60, fX3_weight_62, ↓ex_isub, fX3_weight_63, fX3_weight_64, ↓ex_lmul, ↓s2L_c, fX3_weight_65, fX3_weight_66, ↓ex_iinc, fX3_weight_69, fX3_weight_72, fX3_weight_73, p0, p1, q0, q1, ↓C_X3_isOutcome, b2i_0, Classical.not_not, ↓reduceIte, not_true_eq_false, not_false_eq_true, false_implies, true_implies, implies_true, and_true, true_and, and_false, false_and, or_true, true_or, or_false, false_or, Classical.not_not, ite_true, ite_false]
    refine ⟨g.now, ⟨c1, hn⟩, ?_⟩
    by_cases ho : isO g.now o
    case neg =>
      unfold s_weight at hfin
      rw [cif_f ho] at hfin
      simp only [ho, ↓reduceIte, not_true_eq_false, not_false_eq_true, false_implies, true_implies, implies_true, and_true, true_and, and_false, false_and, or_true, true_or, or_false, false_or, Classical.not_not, ite_true, ite_false]
      exact hfin
    simp only [ho, ↓reduceIte, not_true_eq_false, not_false_eq_true, false_implies, true_implies, implies_true, and_true, true_and, and_false, false_and, or_true, true_or, or_false, false_or, Classical.not_not, ite_true, ite_false]
    unfold s_weight at hfin
    rw [cif_t ho] at hfin
    obtain ⟨o1, o2, o3⟩ := isO_cl hn ho
    have key : ∀ k i, i + k = g.now.n → R 17 [(0, .ref 0), (1, .int o), (2, .long (lN (wtN g.now.W (cl o) i))), (4, .int (nI i))] [] X := by
      intro k
      induction k with
      | zero =>
        intro i hi
        refine go hR [(17, [0, 1, 2, 4])] 60 ?_
        simp only [↓reduceIte, Nat.reduceEqDiff, Nat.reduceAdd, Nat.reduceLeDiff, reduceCtorEq, and_true, true_and, false_and, and_false, true_or, or_true, or_false, false_or, true_implies, false_implies, implies_true, not_true_eq_false, not_false_eq_true, eq_self, fx_s, ↓run_s, run_0, ↓rs_n, ↓rs_c, as_s, ls_n, ls_c, lc_s, lget_c, fX3_weight_0, ↓ex_aload_n, ↓xR_r, ↓xRg_c, fX3_weight_1, ↓ex_iload_n, ↓xI_i, ↓xIg_c, fX3_weight_2, ↓ex_invokevirtual, ↓xc_0, ↓xc_s, ↓xc_1, ↓pk_s, ↓k_s, ↓k_n, catS_n, catS_c, rOk_c, ct_i, ct_l, ct_r, ↓pk_f, fX3_weight_5, ↓ex_ifCond_ne, ↓s1I_c, fX3_weight_8, ↓ex_ldc2_w, fX3_weight_11, ↓ex_lreturn, ↓rt_l, fX3_weight_12, ↓ex_lconst, fX3_weight_13, ↓ex_lstore_n, ↓s1L_c, ↓lsto_e, ↓lrmK_n, ↓lrmK_t, fX3_weight_14, ↓ex_iconst, fX3_weight_15, ↓ex_istore, ↓lrmK_f, fX3_weight_17, ↓ex_iload, fX3_weight_19, fX3_weight_20, ↓ex_getfield, ↓s1R_c, ↓fv_3_0, fX3_weight_23, ↓fv_0_4, fX3_weight_26, ↓ex_if_icmp_ge, ↓s2I_c, fX3_weight_29, fX3_weight_30, fX3_weight_33, ↓fv_0_2, fX3_weight_36, fX3_weight_38, ↓ex_iaload, ↓sRI_c, ↓scrR_n, fX3_weight_39, fX3_weight_41, ↓ex_lload_n, ↓xL_l, ↓xLg_c, fX3_weight_42, fX3_weight_43, fX3_weight_45, ↓ex_ishr, fX3_weight_46, fX3_weight_47, ↓ex_iand, fX3_weight_48, fX3_weight_49, ↓ex_if_icmp_ne, fX3_weight_52, fX3_weight_54, ↓ex_i2l, fX3_weight_55, ↓ex_goto, fX3_weight_58, ↓ex_bipush, fX3_weight_60, fX3_weight_62, ↓ex_isub, fX3_weight_63, fX3_weight_64, ↓ex_lmul, ↓s2L_c, fX3_weight_65, fX3_weight_66, ↓ex_iinc, fX3_weight_69, fX3_weight_72, fX3_weight_73, p0, p1, p4, q0, q1, q4, d1, leN (a := g.now.n) (b := i) (by omega) (by omega)]
        refine ⟨fun _ => ?_, fun z => absurd (by omega) z⟩
        rw [show i = g.now.n by omega]
        exact hfin
      | succ k ih =>
        intro i hi
        refine go hR [(17, [0, 1, 2, 4])] 60 ?_
        have hW := (w1.2.1 i (by omega)).2.2.2.1
        have eo : (o >>> (nI i &&& 31) &&& 1 = 1) = ((cl o).testBit i = true) := by
          have := bit1 (m := cl o) (e := i) (by omega) (by omega)
          rw [← o3] at this
          exact this
        have e10 : (10 : Int32) - nI (g.now.W i) = nI (10 - g.now.W i) := pk_sub (a := 10) hW
        simp only [↓reduceIte, Nat.reduceEqDiff, Nat.reduceAdd, Nat.reduceLeDiff, reduceCtorEq, and_true, true_and, false_and, and_false, true_or, or_true, or_false, false_or, true_implies, false_implies, implies_true, not_true_eq_false, not_false_eq_true, eq_self, fx_s, ↓run_s, run_0, ↓rs_n, ↓rs_c, as_s, ls_n, ls_c, lc_s, lget_c, fX3_weight_0, ↓ex_aload_n, ↓xR_r, ↓xRg_c, fX3_weight_1, ↓ex_iload_n, ↓xI_i, ↓xIg_c, fX3_weight_2, ↓ex_invokevirtual, ↓xc_0, ↓xc_s, ↓xc_1, ↓pk_s, ↓k_s, ↓k_n, catS_n, catS_c, rOk_c, ct_i, ct_l, ct_r, ↓pk_f, fX3_weight_5, ↓ex_ifCond_ne, ↓s1I_c, fX3_weight_8, ↓ex_ldc2_w, fX3_weight_11, ↓ex_lreturn, ↓rt_l, fX3_weight_12, ↓ex_lconst, fX3_weight_13, ↓ex_lstore_n, ↓s1L_c, ↓lsto_e, ↓lrmK_n, ↓lrmK_t, fX3_weight_14, ↓ex_iconst, fX3_weight_15, ↓ex_istore, ↓lrmK_f, fX3_weight_17, ↓ex_iload, fX3_weight_19, fX3_weight_20, ↓ex_getfield, ↓s1R_c, ↓fv_3_0, fX3_weight_23, ↓fv_0_4, fX3_weight_26, ↓ex_if_icmp_ge, ↓s2I_c, fX3_weight_29, fX3_weight_30, fX3_weight_33, ↓fv_0_2, fX3_weight_36, fX3_weight_38, ↓ex_iaload, ↓sRI_c, ↓scrR_n, fX3_weight_39, fX3_weight_41, ↓ex_lload_n, ↓xL_l, ↓xLg_c, fX3_weight_42, fX3_weight_43, fX3_weight_45, ↓ex_ishr, fX3_weight_46, fX3_weight_47, ↓ex_iand, fX3_weight_48, fX3_weight_49, ↓ex_if_icmp_ne, fX3_weight_52, fX3_weight_54, ↓ex_i2l, fX3_weight_55, ↓ex_goto, fX3_weight_58, ↓ex_bipush, fX3_weight_60, fX3_weight_62, ↓ex_isub, fX3_weight_63, fX3_weight_64, ↓ex_lmul, ↓s2L_c, fX3_weight_65, fX3_weight_66, ↓ex_iinc, fX3_weight_69, fX3_weight_72, fX3_weight_73, p0, p1, p4, q0, q1, q4, d1, leN (a := g.now.n) (b := i) (by omega) (by omega), clampN (n := i) (by omega), add1N, (d2 i (by omega)).2.2.1, eo, e10, i2lN (n := g.now.W i) (by omega), i2lN (n := 10 - g.now.W i) (by omega), lN_mul]
        refine ⟨fun z => absurd z (by omega), fun _ => ⟨vp_inN (by omega) (by omega), fun hb => ?_, fun hb => ?_⟩⟩
        · have := ih (i + 1) (by omega)
          unfold wtN at this
          rw [if_neg hb] at this
          exact this
        · have := ih (i + 1) (by omega)
          unfold wtN at this
          rw [if_pos hb] at this
          exact this
    exact key g.now.n 0 (by omega)
  next => exact hC.elim)
/-- the numbers that a simulation draws -/
def seedN (x : Int32) : Nat → Int32
  | 0 => x
  | k + 1 => seedN x k * 1103515245 + 12345
def u10 (s : Int32) : Int32 := (s.toUInt32 >>> ((8 : Int32).toUInt32 &&& Int32.toUInt32 31)).toInt32
def drawB (W : Nat → Nat) (x : Int32) (k : Nat) : Prop := u10 (seedN x (k + 1)) - u10 (seedN x (k + 1)) / 10 * 10 < nI (W k)
noncomputable def drawN (W : Nat → Nat) (x : Int32) : Nat → Nat
  | 0 => 0
  | k + 1 => cif (drawB W x k) (drawN W x k ||| 2 ^ k) (drawN W x k)
theorem drawN_lt (W : Nat → Nat) (x : Int32) : ∀ k, drawN W x k < 2 ^ k
  | 0 => Nat.one_pos
  | k + 1 => by
    have h := drawN_lt W x k
    have h2 : 2 ^ k < 2 ^ (k + 1) := Nat.pow_lt_pow_right (by decide) (by omega)
    unfold drawN
    by_cases z : drawB W x k
    · rw [cif_t z]
      exact Nat.or_lt_two_pow (by omega) h2
    · rw [cif_f z]
      omega
noncomputable def C_X3_drawOutcome : CT := fun As X K => match As with
  | [.ref b, .int x] => ∃ s : SV, (b = 0 ∧ RS X 1 s ∧ s.n ≤ 12) ∧ K (some (.int (nI (drawN s.W x s.n)))) X
  | _ => False
set_option maxRecDepth 20000 in
set_option maxHeartbeats 4000000 in
theorem d_X3_drawOutcome (l : Launch) : Does l yX3_drawOutcome (wY yX3_drawOutcome cX3_drawOutcome 5 (retT 0)) (rmF 0) C_X3_drawOutcome := does_of (rt := 0) (by decide +kernel) tkX3_drawOutcome (calls := []) (fun _ h => absurd h List.not_mem_nil) (by
  intro As X post hC
  unfold C_X3_drawOutcome at hC
  split at hC
  next b x =>
    obtain ⟨s, ⟨rfl, ⟨h1, h2, -⟩, hn⟩, hC⟩ := hC
    refine ⟨Nat.le_of_ble_eq_true rfl, fun R hR => ?_⟩
    obtain ⟨⟨p0, p1, p2, p3, p4, p5, p6⟩, q0, q1, q2, q3, q4, q5, q6⟩ := sh_base
    have key : ∀ k i, i + k = s.n → R 7 [(0, .ref 0), (2, .int (nI (drawN s.W x i))), (3, .int (seedN x i)), (4, .int (nI i))] [] X := by
      intro k
      induction k with
      | zero =>
        intro i hi
        refine go hR [(7, [0, 2, 3, 4])] 60 ?_
        simp only [↓reduceIte, Nat.reduceEqDiff, Nat.reduceAdd, Nat.reduceLeDiff, reduceCtorEq, and_true, true_and, false_and, and_false, true_or, or_true, or_false, false_or, true_implies, false_implies, implies_true, not_true_eq_false, not_false_eq_true, eq_self, fx_s, ↓run_s, run_0, ↓rs_n, ↓rs_c, as_s, ls_n, ls_c, lc_s, lget_c, fX3_drawOutcome_0, ↓ex_iconst, fX3_drawOutcome_1, ↓ex_istore_n, ↓s1I_c, ↓lsto_e, ↓lrmK_n, ↓lrmK_f, ct_i, ct_l, ct_r, fX3_drawOutcome_2, ↓ex_iload_n, ↓xI_i, ↓xIg_c, fX3_drawOutcome_3, fX3_drawOutcome_4, fX3_drawOutcome_5, ↓ex_istore, fX3_drawOutcome_7, ↓ex_iload, fX3_drawOutcome_9, ↓ex_aload_n, ↓xR_r, ↓xRg_c, fX3_drawOutcome_10, ↓ex_getfield, ↓s1R_c, ↓fv_3_0, fX3_drawOutcome_13, ↓fv_0_4, fX3_drawOutcome_16, ↓ex_if_icmp_ge, ↓s2I_c, fX3_drawOutcome_19, fX3_drawOutcome_20, ↓ex_ldc, fX3_drawOutcome_22, ↓ex_imul, fX3_drawOutcome_23, ↓ex_sipush, fX3_drawOutcome_26, ↓ex_iadd, fX3_drawOutcome_27, fX3_drawOutcome_28, fX3_drawOutcome_29, ↓ex_bipush, fX3_drawOutcome_31, ↓ex_iushr, fX3_drawOutcome_32, fX3_drawOutcome_34, ↓ex_irem, fX3_drawOutcome_35, fX3_drawOutcome_36, fX3_drawOutcome_39, ↓fv_0_2, fX3_drawOutcome_42, fX3_drawOutcome_44, ↓ex_iaload, ↓sRI_c, ↓scrR_n, fX3_drawOutcome_45, fX3_drawOutcome_48, fX3_drawOutcome_49, fX3_drawOutcome_50, fX3_drawOutcome_52, ↓ex_ishl, fX3_drawOutcome_53, ↓ex_ior, fX3_drawOutcome_54, fX3_drawOutcome_55, ↓ex_iinc, fX3_drawOutcome_58, ↓ex_goto, fX3_drawOutcome_61, fX3_drawOutcome_62, ↓ex_ireturn, ↓rt_i, p0, p1, q0, q1, h1, leN (a := s.n) (b := i) (by omega) (by omega)]
        refine ⟨fun _ => ?_, fun z => absurd (by omega) z⟩
        rw [show i = s.n by omega]
        exact hC
      | succ k ih =>
        intro i hi
        refine go hR [(7, [0, 2, 3, 4])] 60 ?_
        simp only [↓reduceIte, Nat.reduceEqDiff, Nat.reduceAdd, Nat.reduceLeDiff, reduceCtorEq, and_true, true_and, false_and, and_false, true_or, or_true, or_false, false_or, true_implies, false_implies, implies_true, not_true_eq_false, not_false_eq_true, eq_self, fx_s, ↓run_s, run_0, ↓rs_n, ↓rs_c, as_s, ls_n, ls_c, lc_s, lget_c, fX3_drawOutcome_0, ↓ex_iconst, fX3_drawOutcome_1, ↓ex_istore_n, ↓s1I_c, ↓lsto_e, ↓lrmK_n, ↓lrmK_f, ct_i, ct_l, ct_r, fX3_drawOutcome_2, ↓ex_iload_n, ↓xI_i, ↓xIg_c, fX3_drawOutcome_3, fX3_drawOutcome_4, fX3_drawOutcome_5, ↓ex_istore, fX3_drawOutcome_7, ↓ex_iload, fX3_drawOutcome_9, ↓ex_aload_n, ↓xR_r, ↓xRg_c, fX3_drawOutcome_10, ↓ex_getfield, ↓s1R_c, ↓fv_3_0, fX3_drawOutcome_13, ↓fv_0_4, fX3_drawOutcome_16, ↓ex_if_icmp_ge, ↓s2I_c, fX3_drawOutcome_19, fX3_drawOutcome_20, ↓ex_ldc, fX3_drawOutcome_22, ↓ex_imul, fX3_drawOutcome_23, ↓ex_sipush, fX3_drawOutcome_26, ↓ex_iadd, fX3_drawOutcome_27, fX3_drawOutcome_28, fX3_drawOutcome_29, ↓ex_bipush, fX3_drawOutcome_31, ↓ex_iushr, fX3_drawOutcome_32, fX3_drawOutcome_34, ↓ex_irem, fX3_drawOutcome_35, fX3_drawOutcome_36, fX3_drawOutcome_39, ↓fv_0_2, fX3_drawOutcome_42, fX3_drawOutcome_44, ↓ex_iaload, ↓sRI_c, ↓scrR_n, fX3_drawOutcome_45, fX3_drawOutcome_48, fX3_drawOutcome_49, fX3_drawOutcome_50, fX3_drawOutcome_52, ↓ex_ishl, fX3_drawOutcome_53, ↓ex_ior, fX3_drawOutcome_54, fX3_drawOutcome_55, ↓ex_iinc, fX3_drawOutcome_58, ↓ex_goto, fX3_drawOutcome_61, fX3_drawOutcome_62, ↓ex_ireturn, ↓rt_i, p0, p1, p4, q0, q1, q4, h1, leN (a := s.n) (b := i) (by omega) (by omega), clampN (n := i) (by omega), add1N, (h2 i (by omega)).2.2.1, shlN (e := i) (by omega), fa_or]
        have hi1 := ih (i + 1) (by omega)
        unfold drawN at hi1
        refine ⟨fun z => absurd z (by omega), fun _ => ⟨(by decide), vp_inN (by omega) (by omega), fun hb => ?_, fun hb => ?_⟩⟩
        · have hb' : ¬ drawB s.W x i := fun z => by
            have z' : (_ : Int32) < nI (s.W i) := z
            rw [ltI] at z'
            rw [leI] at hb
            have : ∀ a b : Int, a < b → b ≤ a → False := fun a b h1 h2 => by omega
            exact this _ _ z' hb
          rw [cif_f hb'] at hi1
          exact hi1
        · have hb' : drawB s.W x i := by
            show (_ : Int32) < nI (s.W i)
            rw [ltI]
            rw [leI] at hb
            exact Int.not_le.mp hb
          rw [cif_t hb'] at hi1
          exact hi1
    refine go hR [(7, [0, 2, 3, 4])] 60 ?_
    simp only [lv_args, ↓reduceIte, Nat.reduceEqDiff, Nat.reduceAdd, Nat.reduceLeDiff, reduceCtorEq, and_true, true_and, false_and, and_false, true_or, or_true, or_false, false_or, true_implies, false_implies, implies_true, not_true_eq_false, not_false_eq_true, eq_self, fx_s, ↓run_s, run_0, ↓rs_n, ↓rs_c, as_s, ls_n, ls_c, lc_s, lget_c, fX3_drawOutcome_0, ↓ex_iconst, fX3_drawOutcome_1, ↓ex_istore_n, ↓s1I_c, ↓lsto_e, ↓lrmK_n, ↓lrmK_f, ct_i, ct_l, ct_r, fX3_drawOutcome_2, ↓ex_iload_n, ↓xI_i, ↓xIg_c, fX3_drawOutcome_3, fX3_drawOutcome_4, fX3_drawOutcome_5, ↓ex_istore, fX3_drawOutcome_7, ↓ex_iload, fX3_drawOutcome_9, ↓ex_aload_n, ↓xR_r, ↓xRg_c, fX3_drawOutcome_10, ↓ex_getfield, ↓s1R_c, ↓fv_3_0, fX3_drawOutcome_13, ↓fv_0_4, fX3_drawOutcome_16, ↓ex_if_icmp_ge, ↓s2I_c, fX3_drawOutcome_19, fX3_drawOutcome_20, ↓ex_ldc, fX3_drawOutcome_22, ↓ex_imul, fX3_drawOutcome_23, ↓ex_sipush, fX3_drawOutcome_26, ↓ex_iadd, fX3_drawOutcome_27, fX3_drawOutcome_28, fX3_drawOutcome_29, ↓ex_bipush, fX3_drawOutcome_31, ↓ex_iushr, fX3_drawOutcome_32, fX3_drawOutcome_34, ↓ex_irem, fX3_drawOutcome_35, fX3_drawOutcome_36, fX3_drawOutcome_39, ↓fv_0_2, fX3_drawOutcome_42, fX3_drawOutcome_44, ↓ex_iaload, ↓sRI_c, ↓scrR_n, fX3_drawOutcome_45, fX3_drawOutcome_48, fX3_drawOutcome_49, fX3_drawOutcome_50, fX3_drawOutcome_52, ↓ex_ishl, fX3_drawOutcome_53, ↓ex_ior, fX3_drawOutcome_54, fX3_drawOutcome_55, ↓ex_iinc, fX3_drawOutcome_58, ↓ex_goto, fX3_drawOutcome_61, fX3_drawOutcome_62, ↓ex_ireturn, ↓rt_i]
    exact key s.n 0 (by omega)
  next => exact hC.elim)
end BITS
end
section
section PUB3
theorem sh_text : (shp 0 = (3, 0) ∧ shp 7 = (8, 5) ∧ shp 12 = (2, 0) ∧ shp 13 = (5, 120)) ∧ 0 < NC ∧ 7 < NC ∧ 12 < NC ∧ 13 < NC := by decide
noncomputable def s_undo (g : SG) : Int32 × SG := cif (g.kept = 0) (-4, g) (nI (g.kept - 1), (g.hist (g.kept - 1), g.kept - 1, g.hist, g.size, g.bytes))
noncomputable def s_type (c : Int32) (g : SG) : Int32 × SG := cif (inR c 0 255) (cif (g.size = 120) (-5, g) (nI (g.size + 1), (g.now, g.kept, g.hist, g.size + 1, fun i => if i = g.size then c else g.bytes i))) (-3, g)
def s_clearText (g : SG) : Int32 × SG := (nI g.size, (g.now, g.kept, g.hist, 0, g.bytes))
/-- changes of the text's own cells -/
theorem RelC.setText {X X' : XT} {g g' : SG} (h : RelC X g) (hF : Fr (fun k => k = 12 ∨ k = 13) X X') (hg : g'.now = g.now ∧ g'.kept = g.kept ∧ g'.hist = g.hist) (hb : bytesOK g') (h1 : X'.1 12 1 = nI g'.size) (h2 : ∀ i, i < g'.size → X'.1 13 i = g'.bytes i) : RelC X' g' := by
  obtain ⟨⟨w1, w2, w3, w4⟩, c1, c2, ⟨r, c3, c4⟩, c5, c6⟩ := h
  obtain ⟨e1, e2, e3⟩ := hg
  refine ⟨⟨by rw [e1]; exact w1, by rw [e2]; exact w2, fun j hj => by rw [e3]; exact w3 j (by rw [← e2]; exact hj), hb⟩, ?_, ?_, ⟨r, fun j hj => by rw [hF.2.2]; exact c3 j hj, fun j hj => ?_⟩, h1, h2⟩
  · rw [e1]
    exact c1.fr hF (fun k hk z => by unfold scn at hk; omega)
  · rw [e2, hF.1 0 (by omega)]; exact c2
  · rw [e3]
    exact (c4 j (by rw [← e2]; exact hj)).fr hF (fun k hk z => by have := pastR_hi r j; unfold scn at hk; omega)
noncomputable def C_X3_undo : CT := fun As X K => match As with
  | [.ref b] => b = 0 ∧ PubI s_undo X K
  | _ => False
set_option maxRecDepth 20000 in
set_option maxHeartbeats 4000000 in
theorem d_X3_undo (l : Launch) : Does l yX3_undo (wY yX3_undo cX3_undo 1 (retT 0)) (rmF 1) C_X3_undo := does_of (rt := 0) (by decide +kernel) tkX3_undo (calls := [(188, false, 2, 0, C_X0_copyFrom)]) (List.forall_mem_cons.mpr ⟨cr_NV (d_X0_copyFrom l) rfl (by decide +kernel) (by decide +kernel) (by decide +kernel) ⟨rfl, rfl⟩ ⟨Nat.le_of_ble_eq_true rfl, Nat.le_of_ble_eq_true rfl⟩, fun _ h => absurd h List.not_mem_nil⟩) (by
  intro As X post hC
  unfold C_X3_undo at hC
  split at hC
  next b =>
    obtain ⟨rfl, g, hR0, hpost⟩ := hC
    refine ⟨Nat.le_of_ble_eq_true rfl, fun R hR => ?_⟩
    obtain ⟨⟨p0, p7, p12, p13⟩, q0, q7, q12, q13⟩ := sh_text
    obtain ⟨⟨w1, w2, w3, w4⟩, c1, c2, ⟨r, c3, c4⟩, c5, c6⟩ := id hR0
    have hk : (nI g.kept).toInt = g.kept := nI_toInt (by omega)
    have h5 : (nI 5).toInt = 5 := rfl
    by_cases hz : g.kept = 0
    · have hfin : post (some (.int (-4))) X := pub_same hR0 hpost (by unfold s_undo; rw [cif_t hz])
      refine go hR [] 60 ?_
      simp only [lv_args, ↓reduceIte, Nat.reduceEqDiff, Nat.reduceAdd, Nat.reduceLeDiff, reduceCtorEq, and_true, true_and, false_and, and_false, true_or, or_true, or_false, false_or, true_implies, false_implies, implies_true, not_true_eq_false, not_false_eq_true, eq_self, fx_s, ↓run_s, run_0, ↓rs_n, ↓rs_c, as_s, ls_n, ls_c, lc_s, lget_c, fX3_undo_0, ↓ex_aload_n, ↓xR_r, ↓xRg_c, fX3_undo_1, ↓ex_getfield, ↓s1R_c, ↓fv_3_5, fX3_undo_4, ↓ex_iconst, fX3_undo_5, ↓ex_if_icmp_lt, ↓s2I_c, fX3_undo_8, fX3_undo_9, fX3_undo_12, fX3_undo_13, ↓fv_3_1, fX3_undo_16, ↓ex_arraylength, ↓scrN_n, fX3_undo_17, ↓ex_if_icmp_le, fX3_undo_20, ↓ex_bipush, fX3_undo_22, ↓ex_ireturn, ↓rt_i, fX3_undo_23, fX3_undo_24, ↓ex_dup, ct_i, ct_l, ct_r, fX3_undo_25, fX3_undo_28, fX3_undo_29, ↓ex_isub, fX3_undo_30, ↓ex_putfield, ↓pf_3_5, fX3_undo_33, fX3_undo_34, ↓fv_3_0, fX3_undo_37, fX3_undo_38, fX3_undo_41, fX3_undo_42, fX3_undo_45, ↓ex_aaload, ↓sRI_c, fX3_undo_46, ↓ex_invokevirtual, ↓xc_0, ↓xc_s, ↓xc_1, ↓pk_s, ↓k_s, ↓k_n, catS_n, catS_c, rOk_c, ↓pk_f, fX3_undo_49, fX3_undo_50, fX3_undo_53, p0, p7, q0, q7, c2, hz, ↓reduceIte, not_true_eq_false, not_false_eq_true, false_implies, true_implies, implies_true, and_true, true_and, and_false, false_and, or_true, true_or, or_false, false_or, Classical.not_not, ite_true, ite_false]
      exact ⟨fun _ => hfin, fun h => absurd (show nI 0 < 1 by decide) h⟩
    · have e1 : nI g.kept - 1 = nI (g.kept - 1) := pk_sub (a := g.kept) (b := 1) (by omega)
      have hsp : s_undo g = (nI (g.kept - 1), (g.hist (g.kept - 1), g.kept - 1, g.hist, g.size, g.bytes)) := by unfold s_undo; rw [cif_f hz]
      rw [hsp] at hpost
      refine go hR [] 60 ?_
      simp only [lv_args, ↓reduceIte, Nat.reduceEqDiff, Nat.reduceAdd, Nat.reduceLeDiff, reduceCtorEq, and_true, true_and, false_and, and_false, true_or, or_true, or_false, false_or, true_implies, false_implies, implies_true, not_true_eq_false, not_false_eq_true, eq_self, fx_s, ↓run_s, run_0, ↓rs_n, ↓rs_c, as_s, ls_n, ls_c, lc_s, lget_c, fX3_undo_0, ↓ex_aload_n, ↓xR_r, ↓xRg_c, fX3_undo_1, ↓ex_getfield, ↓s1R_c, ↓fv_3_5, fX3_undo_4, ↓ex_iconst, fX3_undo_5, ↓ex_if_icmp_lt, ↓s2I_c, fX3_undo_8, fX3_undo_9, fX3_undo_12, fX3_undo_13, ↓fv_3_1, fX3_undo_16, ↓ex_arraylength, ↓scrN_n, fX3_undo_17, ↓ex_if_icmp_le, fX3_undo_20, ↓ex_bipush, fX3_undo_22, ↓ex_ireturn, ↓rt_i, fX3_undo_23, fX3_undo_24, ↓ex_dup, ct_i, ct_l, ct_r, fX3_undo_25, fX3_undo_28, fX3_undo_29, ↓ex_isub, fX3_undo_30, ↓ex_putfield, ↓pf_3_5, fX3_undo_33, fX3_undo_34, ↓fv_3_0, fX3_undo_37, fX3_undo_38, fX3_undo_41, fX3_undo_42, fX3_undo_45, ↓ex_aaload, ↓sRI_c, fX3_undo_46, ↓ex_invokevirtual, ↓xc_0, ↓xc_s, ↓xc_1, ↓pk_s, ↓k_s, ↓k_n, catS_n, catS_c, rOk_c, ↓pk_f, fX3_undo_49, fX3_undo_50, fX3_undo_53, p0, p7, q0, q7, c2, e1, ↓C_X0_copyFrom, clampN (n := g.kept - 1) (by omega), sI_1, sI_2, upd_a, leI, ltI, hk, h5, tI_m5, tI_m4, tI_m3, tI_m2, tI_m1, tI_0, tI_1, tI_2, tI_3, tI_4, tI_5, tI_7, tI_8, tI_10, tI_12, tI_30, tI_31, tI_32, tI_47, tI_48, tI_57, tI_59, tI_42, tI_43, tI_45, tI_61, tI_62, tI_100, tI_120, tI_255, tI_1000, c3 (g.kept - 1) (by omega), ↓reduceIte, not_true_eq_false, not_false_eq_true, false_implies, true_implies, implies_true, and_true, true_and, and_false, false_and, or_true, true_or, or_false, false_or, Classical.not_not, ite_true, ite_false]
      refine ⟨fun z => absurd z (by omega), fun _ => ⟨fun _ => ⟨vp_inN (by omega) (by omega), by decide, g.hist (g.kept - 1), ⟨sc1, pastR_sc r _, (fun z => by have := pastR_hi r (g.kept - 1); have z2 : 1 = pastR r (g.kept - 1) := z; omega), ?_, (w3 (g.kept - 1) (by omega)).1⟩, fun Y hY hs => ?_⟩, fun z => absurd (by omega) z⟩⟩
      · exact (c4 (g.kept - 1) (by omega)).fr1 (fun k hk => by
          have := pastR_hi r (g.kept - 1)
          rw [sI_1, if_neg (by unfold scn at hk; omega)])
      · have hY0 : Y.1 0 5 = nI (g.kept - 1) := by
          rw [hY.1 0 (fun z => by unfold scn at z; omega), sI_1, if_pos rfl, upd_a, if_pos rfl]
        rw [hY0]
        refine hpost Y ⟨⟨w3 (g.kept - 1) (by omega), (by show g.kept - 1 ≤ 5; omega), fun j hj => w3 j (by have : j < g.kept - 1 := hj; omega), w4⟩, hs, hY0, ⟨r, fun j hj => ?_, fun j hj => ?_⟩, ?_, fun i hi => ?_⟩ (fun k hk => ⟨?_, ?_⟩)
        · rw [hY.2.2]; exact c3 j hj
        · have hj' : j < g.kept - 1 := hj
          refine (c4 j (by omega)).fr1 (fun k hk => ?_)
          have := pastR_hi r j
          unfold scn at hk
          rw [hY.1 k (fun z => by unfold scn at z; omega), sI_1, if_neg (by omega)]
        · rw [hY.1 12 (fun z => by unfold scn at z; omega), sI_1, if_neg (by decide)]; exact c5
        · rw [hY.1 13 (fun z => by unfold scn at z; omega), sI_1, if_neg (by decide)]; exact c6 i hi
        · rw [hY.1 k (fun z => by unfold scn at z; omega), sI_1, if_neg (by omega)]
        · rw [hY.2.1 k (fun z => by unfold scn at z; omega)]; rfl
  next => exact hC.elim)
noncomputable def C_X3_type : CT := fun As X K => match As with
  | [.ref b, .int c] => b = 0 ∧ PubI (s_type c) X K
  | _ => False
set_option maxRecDepth 20000 in
set_option maxHeartbeats 4000000 in
theorem d_X3_type (l : Launch) : Does l yX3_type (wY yX3_type cX3_type 2 (retT 0)) (rmF 0) C_X3_type := does_of (rt := 0) (by decide +kernel) tkX3_type (calls := []) (fun _ h => absurd h List.not_mem_nil) (by
  intro As X post hC
  unfold C_X3_type at hC
  split at hC
  next b c =>
    obtain ⟨rfl, g, hR0, hpost⟩ := hC
    refine ⟨Nat.le_of_ble_eq_true rfl, fun R hR => ?_⟩
    obtain ⟨⟨p0, p7, p12, p13⟩, q0, q7, q12, q13⟩ := sh_text
    obtain ⟨⟨w1, w2, w3, w4, w5⟩, c1, c2, c3, c5, c6⟩ := id hR0
    have ok := fun {r : Int32} => pub_same (r := r) hR0 hpost
    have hk : (nI g.size).toInt = g.size := nI_toInt (by omega)
    have h5 : (nI 120).toInt = 120 := rfl
    refine go hR [] 60 ?_
    simp only [lv_args, ↓reduceIte, Nat.reduceEqDiff, Nat.reduceAdd, Nat.reduceLeDiff, reduceCtorEq, and_true, true_and, false_and, and_false, true_or, or_true, or_false, false_or, true_implies, false_implies, implies_true, not_true_eq_false, not_false_eq_true, eq_self, fx_s, ↓run_s, run_0, ↓rs_n, ↓rs_c, as_s, ls_n, ls_c, lc_s, lget_c, fX3_type_0, ↓ex_iload_n, ↓xI_i, ↓xIg_c, fX3_type_1, ↓ex_ifCond_lt, ↓s1I_c, fX3_type_4, fX3_type_5, ↓ex_sipush, fX3_type_8, ↓ex_if_icmp_le, ↓s2I_c, fX3_type_11, ↓ex_bipush, fX3_type_13, ↓ex_ireturn, ↓rt_i, fX3_type_14, ↓ex_aload_n, ↓xR_r, ↓xRg_c, fX3_type_15, ↓ex_getfield, ↓s1R_c, ↓fv_3_3, fX3_type_18, ↓fv_2_1, fX3_type_21, fX3_type_22, fX3_type_25, ↓fv_2_0, fX3_type_28, ↓ex_arraylength, ↓scrN_n, fX3_type_29, ↓ex_if_icmp_lt, fX3_type_32, fX3_type_34, fX3_type_35, fX3_type_36, fX3_type_39, fX3_type_42, fX3_type_43, fX3_type_46, fX3_type_49, fX3_type_50, ↓ex_iastore, ↓sRII_c, fX3_type_51, fX3_type_52, fX3_type_55, ↓ex_dup, ct_i, ct_l, ct_r, fX3_type_56, fX3_type_59, ↓ex_iconst, fX3_type_60, ↓ex_iadd, fX3_type_61, ↓ex_putfield, ↓pf_2_1, fX3_type_64, fX3_type_65, fX3_type_68, fX3_type_71, p0, p12, p13, q0, q12, q13, c5, clampN (n := g.size) (by omega), sI_1, sI_2, upd_a, add1N, ↓reduceIte, not_true_eq_false, not_false_eq_true, false_implies, true_implies, implies_true, and_true, true_and, and_false, false_and, or_true, true_or, or_false, false_or, Classical.not_not, ite_true, ite_false]
    have e0 : inR c 0 255 ↔ (¬ c < 0 ∧ c ≤ 255) := by unfold inR; rw [ltI, leI, tI_0, tI_255]; omega
    by_cases hh : inR c 0 255
    case neg =>
      have e1 : post (some (.int (-3))) X := ok (by unfold s_type; rw [cif_f hh])
      exact ⟨fun _ => e1, fun g1 => ⟨fun g2 => absurd (e0.mpr ⟨g1, g2⟩) hh, fun _ => e1⟩⟩
    refine ⟨fun z => absurd z (e0.mp hh).1, fun _ => ⟨fun _ => ?_, fun z => absurd (e0.mp hh).2 z⟩⟩
    by_cases hs : g.size = 120
    · refine ⟨fun z => absurd z (by rw [ltI, hk, h5]; omega), fun _ => ok ?_⟩
      unfold s_type
      rw [cif_t hh, cif_t hs]
    · refine ⟨fun _ => ⟨vp_inN (by omega) (by omega), ?_⟩, fun z => absurd (by rw [ltI, hk, h5]; omega) z⟩
      have hsp : s_type c g = (nI (g.size + 1), (g.now, g.kept, g.hist, g.size + 1, fun i => if i = g.size then c else g.bytes i)) := by unfold s_type; rw [cif_t hh, cif_f hs]
      rw [hsp] at hpost
      have hfr : Fr (fun k => k = 12 ∨ k = 13) X (sI (sI X 13 g.size c) 12 1 (nI (g.size + 1))) := Fr.pI (P := fun k => k = 12 ∨ k = 13) (Fr.pI (P := fun k => k = 12 ∨ k = 13) (Fr.rf _ X) (Or.inr rfl) _ _) (Or.inl rfl) _ _
      refine hpost _ (hR0.setText hfr ⟨rfl, rfl, rfl⟩ ⟨(by show g.size + 1 ≤ 120; omega), fun i hi => ?_⟩ ?_ (fun i hi => ?_)) (FrM.of hfr (fun k hk => by omega))
      · show 0 ≤ (if i = g.size then c else g.bytes i).toInt ∧ (if i = g.size then c else g.bytes i).toInt ≤ 255
        have hi' : i < g.size + 1 := hi
        by_cases z : i = g.size
        · rw [if_pos z]; exact hh
        · rw [if_neg z]; exact w5 i (by omega)
      · simp [sI_1, upd_a]
      · have hi' : i < g.size + 1 := hi
        show _ = (if i = g.size then c else g.bytes i)
        by_cases z : i = g.size
        · simp [sI_1, upd_a, z]
        · have z' : ¬ i = g.2.2.2.1 := z
          simp [sI_1, upd_a, z, z', c6 i (by omega)]
  next => exact hC.elim)
def C_X3_clearText : CT := fun As X K => match As with
  | [.ref b] => b = 0 ∧ PubI s_clearText X K
  | _ => False
set_option maxRecDepth 20000 in
set_option maxHeartbeats 4000000 in
theorem d_X3_clearText (l : Launch) : Does l yX3_clearText (wY yX3_clearText cX3_clearText 2 (retT 0)) (rmF 0) C_X3_clearText := does_of (rt := 0) (by decide +kernel) tkX3_clearText (calls := []) (fun _ h => absurd h List.not_mem_nil) (by
  intro As X post hC
  unfold C_X3_clearText at hC
  split at hC
  next b =>
    obtain ⟨rfl, g, hR0, hpost⟩ := hC
    refine ⟨Nat.le_of_ble_eq_true rfl, fun R hR => ?_⟩
    obtain ⟨⟨p0, p7, p12, p13⟩, q0, q7, q12, q13⟩ := sh_text
    obtain ⟨⟨w1, w2, w3, w4, w5⟩, c1, c2, c3, c5, c6⟩ := id hR0
    refine go hR [] 60 ?_
    simp only [lv_args, ↓reduceIte, Nat.reduceEqDiff, Nat.reduceAdd, Nat.reduceLeDiff, reduceCtorEq, and_true, true_and, false_and, and_false, true_or, or_true, or_false, false_or, true_implies, false_implies, implies_true, not_true_eq_false, not_false_eq_true, eq_self, fx_s, ↓run_s, run_0, ↓rs_n, ↓rs_c, as_s, ls_n, ls_c, lc_s, lget_c, fX3_clearText_0, ↓ex_aload_n, ↓xR_r, ↓xRg_c, fX3_clearText_1, ↓ex_getfield, ↓s1R_c, ↓fv_3_3, fX3_clearText_4, ↓fv_2_1, fX3_clearText_7, ↓ex_istore_n, ↓s1I_c, ↓lsto_e, ↓lrmK_n, ↓lrmK_f, ct_i, ct_l, ct_r, fX3_clearText_8, fX3_clearText_9, fX3_clearText_12, ↓ex_iconst, fX3_clearText_13, ↓ex_putfield, ↓pf_2_1, fX3_clearText_16, ↓ex_iload_n, ↓xI_i, ↓xIg_c, fX3_clearText_17, ↓ex_ireturn, ↓rt_i, p0, p12, p13, q0, q12, q13, c5, ↓reduceIte, not_true_eq_false, not_false_eq_true, false_implies, true_implies, implies_true, and_true, true_and, and_false, false_and, or_true, true_or, or_false, false_or, Classical.not_not, ite_true, ite_false]
    have hfr : Fr (fun k => k = 12 ∨ k = 13) X (sI X 12 1 0) := Fr.pI (P := fun k => k = 12 ∨ k = 13) (Fr.rf _ X) (Or.inl rfl) _ _
    refine hpost _ (hR0.setText hfr ⟨rfl, rfl, rfl⟩ ⟨Nat.zero_le _, fun i hi => absurd hi (Nat.not_lt_zero i)⟩ ?_ (fun i hi => absurd hi (Nat.not_lt_zero i))) (FrM.of hfr (fun k hk => by omega))
    simp [sI_1, upd_a, s_clearText]
    rfl
  next => exact hC.elim)
def dgE (F T W D : Nat → Nat) : Nat → Int64 → Int64
  | 0, h => h
  | k + 1, h => 31 * (31 * (31 * (31 * dgE F T W D k h + (nI (F k)).toInt64) + (nI (T k)).toInt64) + (nI (W k)).toInt64) + (nI (D k)).toInt64
def dgS (S : Nat → Int32) : Nat → Int64 → Int64
  | 0, h => h
  | k + 1, h => 31 * dgS S k h + (S k).toInt64
def s_digest (g : SG) : Int64 × SG := (31 * dgS g.now.S 8 (31 * dgE g.now.F g.now.T g.now.W g.now.D g.now.n (527 + (nI g.now.n).toInt64) + (nI g.now.H).toInt64) + (nI g.now.Q).toInt64, g)
def C_X3_digest : CT := fun As X K => match As with
  | [.ref b] => b = 0 ∧ PubL s_digest X K
  | _ => False
set_option maxRecDepth 20000 in
set_option maxHeartbeats 4000000 in
theorem d_X3_digest (l : Launch) : Does l yX3_digest (wY yX3_digest cX3_digest 4 (retT 2)) (rmF 0) C_X3_digest := does_of (rt := 2) (by decide +kernel) tkX3_digest (calls := []) (fun _ h => absurd h List.not_mem_nil) (by
  intro As X post hC
  unfold C_X3_digest at hC
  split at hC
  next b =>
    obtain ⟨rfl, g, hR0, hpost⟩ := hC
    refine ⟨Nat.le_of_ble_eq_true rfl, fun R hR => ?_⟩
    obtain ⟨⟨p0, p1, p2, p3, p4, p5, p6⟩, q0, q1, q2, q3, q4, q5, q6⟩ := sh_base
    obtain ⟨⟨w1, w2, w3, w4⟩, c1, c2, -⟩ := id hR0
    obtain ⟨d1, d2, d3, d4, d5⟩ := id c1
    have hn := w1.1
    have hfin := hpost X hR0 (FrM.rf X)
    unfold s_digest at hfin
    generalize hh : (31 * dgE g.now.F g.now.T g.now.W g.now.D g.now.n (527 + (nI g.now.n).toInt64) + (nI g.now.H).toInt64 : Int64) = h1 at hfin
    have key2 : ∀ k i, i + k = 8 → R 117 [(0, .ref 0), (1, .long (dgS g.now.S i h1)), (3, .int (nI i))] [] X := by
      intro k
      induction k with
      | zero =>
        intro i hi
        refine go hR [(117, [0, 1, 3])] 60 ?_
        simp only [↓reduceIte, Nat.reduceEqDiff, Nat.reduceAdd, Nat.reduceLeDiff, reduceCtorEq, and_true, true_and, false_and, and_false, true_or, or_true, or_false, false_or, true_implies, false_implies, implies_true, not_true_eq_false, not_false_eq_true, eq_self, fx_s, ↓run_s, run_0, ↓rs_n, ↓rs_c, as_s, ls_n, ls_c, lc_s, lget_c, fX3_digest_0, ↓ex_ldc2_w, fX3_digest_3, ↓ex_aload_n, ↓xR_r, ↓xRg_c, fX3_digest_4, ↓ex_getfield, ↓s1R_c, ↓fv_3_0, fX3_digest_7, ↓fv_0_4, fX3_digest_10, ↓ex_i2l, ↓s1I_c, fX3_digest_11, ↓ex_ladd, ↓s2L_c, fX3_digest_12, ↓ex_lstore_n, ↓s1L_c, ↓lsto_e, ↓lrmK_n, ↓lrmK_t, ct_i, ct_l, ct_r, fX3_digest_13, ↓ex_iconst, fX3_digest_14, ↓ex_istore_n, ↓lrmK_f, fX3_digest_15, ↓ex_iload_n, ↓xI_i, ↓xIg_c, fX3_digest_16, fX3_digest_17, fX3_digest_20, fX3_digest_23, ↓ex_if_icmp_ge, ↓s2I_c, fX3_digest_26, fX3_digest_29, ↓ex_lload_n, ↓xL_l, ↓xLg_c, fX3_digest_30, ↓ex_lmul, fX3_digest_31, fX3_digest_32, fX3_digest_35, ↓fv_0_0, fX3_digest_38, fX3_digest_39, ↓ex_iaload, ↓sRI_c, ↓scrR_n, fX3_digest_40, fX3_digest_41, fX3_digest_42, fX3_digest_43, fX3_digest_46, fX3_digest_47, fX3_digest_48, fX3_digest_49, fX3_digest_52, ↓fv_0_1, fX3_digest_55, fX3_digest_56, fX3_digest_57, fX3_digest_58, fX3_digest_59, fX3_digest_60, fX3_digest_63, fX3_digest_64, fX3_digest_65, fX3_digest_66, fX3_digest_69, ↓fv_0_2, fX3_digest_72, fX3_digest_73, fX3_digest_74, fX3_digest_75, fX3_digest_76, fX3_digest_77, fX3_digest_80, fX3_digest_81, fX3_digest_82, fX3_digest_83, fX3_digest_86, ↓fv_0_3, fX3_digest_89, fX3_digest_90, fX3_digest_91, fX3_digest_92, fX3_digest_93, fX3_digest_94, ↓ex_iinc, fX3_digest_97, ↓ex_goto, fX3_digest_100, fX3_digest_103, fX3_digest_104, fX3_digest_105, fX3_digest_106, fX3_digest_109, ↓fv_0_5, fX3_digest_112, fX3_digest_113, fX3_digest_114, fX3_digest_115, fX3_digest_116, fX3_digest_117, fX3_digest_118, ↓ex_bipush, fX3_digest_120, fX3_digest_123, fX3_digest_126, fX3_digest_127, fX3_digest_128, fX3_digest_129, fX3_digest_132, ↓fv_0_6, fX3_digest_135, fX3_digest_136, fX3_digest_137, fX3_digest_138, fX3_digest_139, fX3_digest_140, fX3_digest_143, fX3_digest_146, fX3_digest_149, fX3_digest_150, fX3_digest_151, fX3_digest_152, fX3_digest_155, ↓fv_0_7, fX3_digest_158, fX3_digest_159, fX3_digest_160, ↓ex_lreturn, ↓rt_l, p0, p1, p6, q0, q1, q6, d5, leI, nI_toInt (n := i) (by omega), tI_m5, tI_m4, tI_m3, tI_m2, tI_m1, tI_0, tI_1, tI_2, tI_3, tI_4, tI_5, tI_7, tI_8, tI_10, tI_12, tI_30, tI_31, tI_32, tI_47, tI_48, tI_57, tI_59, tI_42, tI_43, tI_45, tI_61, tI_62, tI_100, tI_120, tI_255, tI_1000]
        refine ⟨fun _ => ?_, fun z => absurd (by omega) z⟩
        rw [show i = 8 by omega]
        exact hfin
      | succ k ih =>
        intro i hi
        refine go hR [(117, [0, 1, 3])] 60 ?_
        simp only [↓reduceIte, Nat.reduceEqDiff, Nat.reduceAdd, Nat.reduceLeDiff, reduceCtorEq, and_true, true_and, false_and, and_false, true_or, or_true, or_false, false_or, true_implies, false_implies, implies_true, not_true_eq_false, not_false_eq_true, eq_self, fx_s, ↓run_s, run_0, ↓rs_n, ↓rs_c, as_s, ls_n, ls_c, lc_s, lget_c, fX3_digest_0, ↓ex_ldc2_w, fX3_digest_3, ↓ex_aload_n, ↓xR_r, ↓xRg_c, fX3_digest_4, ↓ex_getfield, ↓s1R_c, ↓fv_3_0, fX3_digest_7, ↓fv_0_4, fX3_digest_10, ↓ex_i2l, ↓s1I_c, fX3_digest_11, ↓ex_ladd, ↓s2L_c, fX3_digest_12, ↓ex_lstore_n, ↓s1L_c, ↓lsto_e, ↓lrmK_n, ↓lrmK_t, ct_i, ct_l, ct_r, fX3_digest_13, ↓ex_iconst, fX3_digest_14, ↓ex_istore_n, ↓lrmK_f, fX3_digest_15, ↓ex_iload_n, ↓xI_i, ↓xIg_c, fX3_digest_16, fX3_digest_17, fX3_digest_20, fX3_digest_23, ↓ex_if_icmp_ge, ↓s2I_c, fX3_digest_26, fX3_digest_29, ↓ex_lload_n, ↓xL_l, ↓xLg_c, fX3_digest_30, ↓ex_lmul, fX3_digest_31, fX3_digest_32, fX3_digest_35, ↓fv_0_0, fX3_digest_38, fX3_digest_39, ↓ex_iaload, ↓sRI_c, ↓scrR_n, fX3_digest_40, fX3_digest_41, fX3_digest_42, fX3_digest_43, fX3_digest_46, fX3_digest_47, fX3_digest_48, fX3_digest_49, fX3_digest_52, ↓fv_0_1, fX3_digest_55, fX3_digest_56, fX3_digest_57, fX3_digest_58, fX3_digest_59, fX3_digest_60, fX3_digest_63, fX3_digest_64, fX3_digest_65, fX3_digest_66, fX3_digest_69, ↓fv_0_2, fX3_digest_72, fX3_digest_73, fX3_digest_74, fX3_digest_75, fX3_digest_76, fX3_digest_77, fX3_digest_80, fX3_digest_81, fX3_digest_82, fX3_digest_83, fX3_digest_86, ↓fv_0_3, fX3_digest_89, fX3_digest_90, fX3_digest_91, fX3_digest_92, fX3_digest_93, fX3_digest_94, ↓ex_iinc, fX3_digest_97, ↓ex_goto, fX3_digest_100, fX3_digest_103, fX3_digest_104, fX3_digest_105, fX3_digest_106, fX3_digest_109, ↓fv_0_5, fX3_digest_112, fX3_digest_113, fX3_digest_114, fX3_digest_115, fX3_digest_116, fX3_digest_117, fX3_digest_118, ↓ex_bipush, fX3_digest_120, fX3_digest_123, fX3_digest_126, fX3_digest_127, fX3_digest_128, fX3_digest_129, fX3_digest_132, ↓fv_0_6, fX3_digest_135, fX3_digest_136, fX3_digest_137, fX3_digest_138, fX3_digest_139, fX3_digest_140, fX3_digest_143, fX3_digest_146, fX3_digest_149, fX3_digest_150, fX3_digest_151, fX3_digest_152, fX3_digest_155, ↓fv_0_7, fX3_digest_158, fX3_digest_159, fX3_digest_160, ↓ex_lreturn, ↓rt_l, p0, p1, p6, q0, q1, q6, d4 i (by omega), leI, nI_toInt (n := i) (by omega), tI_m5, tI_m4, tI_m3, tI_m2, tI_m1, tI_0, tI_1, tI_2, tI_3, tI_4, tI_5, tI_7, tI_8, tI_10, tI_12, tI_30, tI_31, tI_32, tI_47, tI_48, tI_57, tI_59, tI_42, tI_43, tI_45, tI_61, tI_62, tI_100, tI_120, tI_255, tI_1000, clampN (n := i) (by omega), add1N]
        exact ⟨fun z => absurd z (by omega), fun _ => ⟨vp_inN (by omega) (by omega), ih (i + 1) (by omega)⟩⟩
    have key1 : ∀ k i, i + k = g.now.n → R 15 [(0, .ref 0), (1, .long (dgE g.now.F g.now.T g.now.W g.now.D i (527 + (nI g.now.n).toInt64))), (3, .int (nI i))] [] X := by
      intro k
      induction k with
      | zero =>
        intro i hi
        refine go hR [(15, [0, 1, 3]), (117, [0, 1, 3])] 100 ?_
        simp only [↓reduceIte, Nat.reduceEqDiff, Nat.reduceAdd, Nat.reduceLeDiff, reduceCtorEq, and_true, true_and, false_and, and_false, true_or, or_true, or_false, false_or, true_implies, false_implies, implies_true, not_true_eq_false, not_false_eq_true, eq_self, fx_s, ↓run_s, run_0, ↓rs_n, ↓rs_c, as_s, ls_n, ls_c, lc_s, lget_c, fX3_digest_0, ↓ex_ldc2_w, fX3_digest_3, ↓ex_aload_n, ↓xR_r, ↓xRg_c, fX3_digest_4, ↓ex_getfield, ↓s1R_c, ↓fv_3_0, fX3_digest_7, ↓fv_0_4, fX3_digest_10, ↓ex_i2l, ↓s1I_c, fX3_digest_11, ↓ex_ladd, ↓s2L_c, fX3_digest_12, ↓ex_lstore_n, ↓s1L_c, ↓lsto_e, ↓lrmK_n, ↓lrmK_t, ct_i, ct_l, ct_r, fX3_digest_13, ↓ex_iconst, fX3_digest_14, ↓ex_istore_n, ↓lrmK_f, fX3_digest_15, ↓ex_iload_n, ↓xI_i, ↓xIg_c, fX3_digest_16, fX3_digest_17, fX3_digest_20, fX3_digest_23, ↓ex_if_icmp_ge, ↓s2I_c, fX3_digest_26, fX3_digest_29, ↓ex_lload_n, ↓xL_l, ↓xLg_c, fX3_digest_30, ↓ex_lmul, fX3_digest_31, fX3_digest_32, fX3_digest_35, ↓fv_0_0, fX3_digest_38, fX3_digest_39, ↓ex_iaload, ↓sRI_c, ↓scrR_n, fX3_digest_40, fX3_digest_41, fX3_digest_42, fX3_digest_43, fX3_digest_46, fX3_digest_47, fX3_digest_48, fX3_digest_49, fX3_digest_52, ↓fv_0_1, fX3_digest_55, fX3_digest_56, fX3_digest_57, fX3_digest_58, fX3_digest_59, fX3_digest_60, fX3_digest_63, fX3_digest_64, fX3_digest_65, fX3_digest_66, fX3_digest_69, ↓fv_0_2, fX3_digest_72, fX3_digest_73, fX3_digest_74, fX3_digest_75, fX3_digest_76, fX3_digest_77, fX3_digest_80, fX3_digest_81, fX3_digest_82, fX3_digest_83, fX3_digest_86, ↓fv_0_3, fX3_digest_89, fX3_digest_90, fX3_digest_91, fX3_digest_92, fX3_digest_93, fX3_digest_94, ↓ex_iinc, fX3_digest_97, ↓ex_goto, fX3_digest_100, fX3_digest_103, fX3_digest_104, fX3_digest_105, fX3_digest_106, fX3_digest_109, ↓fv_0_5, fX3_digest_112, fX3_digest_113, fX3_digest_114, fX3_digest_115, fX3_digest_116, fX3_digest_117, fX3_digest_118, ↓ex_bipush, fX3_digest_120, fX3_digest_123, fX3_digest_126, fX3_digest_127, fX3_digest_128, fX3_digest_129, fX3_digest_132, ↓fv_0_6, fX3_digest_135, fX3_digest_136, fX3_digest_137, fX3_digest_138, fX3_digest_139, fX3_digest_140, fX3_digest_143, fX3_digest_146, fX3_digest_149, fX3_digest_150, fX3_digest_151, fX3_digest_152, fX3_digest_155, ↓fv_0_7, fX3_digest_158, fX3_digest_159, fX3_digest_160, ↓ex_lreturn, ↓rt_l, p0, p1, q0, q1, d1, d3, leN (a := g.now.n) (b := i) (by omega) (by omega)]
        refine ⟨fun _ => ?_, fun z => absurd (by omega) z⟩
        rw [show i = g.now.n by omega, hh]
        exact key2 8 0 (by omega)
      | succ k ih =>
        intro i hi
        refine go hR [(15, [0, 1, 3]), (117, [0, 1, 3])] 100 ?_
        obtain ⟨e1, e2, e3, e4⟩ := d2 i (by omega)
        simp only [↓reduceIte, Nat.reduceEqDiff, Nat.reduceAdd, Nat.reduceLeDiff, reduceCtorEq, and_true, true_and, false_and, and_false, true_or, or_true, or_false, false_or, true_implies, false_implies, implies_true, not_true_eq_false, not_false_eq_true, eq_self, fx_s, ↓run_s, run_0, ↓rs_n, ↓rs_c, as_s, ls_n, ls_c, lc_s, lget_c, fX3_digest_0, ↓ex_ldc2_w, fX3_digest_3, ↓ex_aload_n, ↓xR_r, ↓xRg_c, fX3_digest_4, ↓ex_getfield, ↓s1R_c, ↓fv_3_0, fX3_digest_7, ↓fv_0_4, fX3_digest_10, ↓ex_i2l, ↓s1I_c, fX3_digest_11, ↓ex_ladd, ↓s2L_c, fX3_digest_12, ↓ex_lstore_n, ↓s1L_c, ↓lsto_e, ↓lrmK_n, ↓lrmK_t, ct_i, ct_l, ct_r, fX3_digest_13, ↓ex_iconst, fX3_digest_14, ↓ex_istore_n, ↓lrmK_f, fX3_digest_15, ↓ex_iload_n, ↓xI_i, ↓xIg_c, fX3_digest_16, fX3_digest_17, fX3_digest_20, fX3_digest_23, ↓ex_if_icmp_ge, ↓s2I_c, fX3_digest_26, fX3_digest_29, ↓ex_lload_n, ↓xL_l, ↓xLg_c, fX3_digest_30, ↓ex_lmul, fX3_digest_31, fX3_digest_32, fX3_digest_35, ↓fv_0_0, fX3_digest_38, fX3_digest_39, ↓ex_iaload, ↓sRI_c, ↓scrR_n, fX3_digest_40, fX3_digest_41, fX3_digest_42, fX3_digest_43, fX3_digest_46, fX3_digest_47, fX3_digest_48, fX3_digest_49, fX3_digest_52, ↓fv_0_1, fX3_digest_55, fX3_digest_56, fX3_digest_57, fX3_digest_58, fX3_digest_59, fX3_digest_60, fX3_digest_63, fX3_digest_64, fX3_digest_65, fX3_digest_66, fX3_digest_69, ↓fv_0_2, fX3_digest_72, fX3_digest_73, fX3_digest_74, fX3_digest_75, fX3_digest_76, fX3_digest_77, fX3_digest_80, fX3_digest_81, fX3_digest_82, fX3_digest_83, fX3_digest_86, ↓fv_0_3, fX3_digest_89, fX3_digest_90, fX3_digest_91, fX3_digest_92, fX3_digest_93, fX3_digest_94, ↓ex_iinc, fX3_digest_97, ↓ex_goto, fX3_digest_100, fX3_digest_103, fX3_digest_104, fX3_digest_105, fX3_digest_106, fX3_digest_109, ↓fv_0_5, fX3_digest_112, fX3_digest_113, fX3_digest_114, fX3_digest_115, fX3_digest_116, fX3_digest_117, fX3_digest_118, ↓ex_bipush, fX3_digest_120, fX3_digest_123, fX3_digest_126, fX3_digest_127, fX3_digest_128, fX3_digest_129, fX3_digest_132, ↓fv_0_6, fX3_digest_135, fX3_digest_136, fX3_digest_137, fX3_digest_138, fX3_digest_139, fX3_digest_140, fX3_digest_143, fX3_digest_146, fX3_digest_149, fX3_digest_150, fX3_digest_151, fX3_digest_152, fX3_digest_155, ↓fv_0_7, fX3_digest_158, fX3_digest_159, fX3_digest_160, ↓ex_lreturn, ↓rt_l, p0, p1, p2, p3, p4, p5, q0, q1, q2, q3, q4, q5, d1, leN (a := g.now.n) (b := i) (by omega) (by omega), clampN (n := i) (by omega), add1N, e1, e2, e3, e4]
        have hv : vp_in (nI i) 12 := vp_inN (by omega) (by omega)
        exact ⟨fun z => absurd z (by omega), fun _ => ⟨hv, hv, hv, hv, ih (i + 1) (by omega)⟩⟩
    refine go hR [(15, [0, 1, 3])] 60 ?_
    simp only [lv_args, ↓reduceIte, Nat.reduceEqDiff, Nat.reduceAdd, Nat.reduceLeDiff, reduceCtorEq, and_true, true_and, false_and, and_false, true_or, or_true, or_false, false_or, true_implies, false_implies, implies_true, not_true_eq_false, not_false_eq_true, eq_self, fx_s, ↓run_s, run_0, ↓rs_n, ↓rs_c, as_s, ls_n, ls_c, lc_s, lget_c, fX3_digest_0, ↓ex_ldc2_w, fX3_digest_3, ↓ex_aload_n, ↓xR_r, ↓xRg_c, fX3_digest_4, ↓ex_getfield, ↓s1R_c, ↓fv_3_0, fX3_digest_7, ↓fv_0_4, fX3_digest_10, ↓ex_i2l, ↓s1I_c, fX3_digest_11, ↓ex_ladd, ↓s2L_c, fX3_digest_12, ↓ex_lstore_n, ↓s1L_c, ↓lsto_e, ↓lrmK_n, ↓lrmK_t, ct_i, ct_l, ct_r, fX3_digest_13, ↓ex_iconst, fX3_digest_14, ↓ex_istore_n, ↓lrmK_f, fX3_digest_15, ↓ex_iload_n, ↓xI_i, ↓xIg_c, fX3_digest_16, fX3_digest_17, fX3_digest_20, fX3_digest_23, ↓ex_if_icmp_ge, ↓s2I_c, fX3_digest_26, fX3_digest_29, ↓ex_lload_n, ↓xL_l, ↓xLg_c, fX3_digest_30, ↓ex_lmul, fX3_digest_31, fX3_digest_32, fX3_digest_35, ↓fv_0_0, fX3_digest_38, fX3_digest_39, ↓ex_iaload, ↓sRI_c, ↓scrR_n, fX3_digest_40, fX3_digest_41, fX3_digest_42, fX3_digest_43, fX3_digest_46, fX3_digest_47, fX3_digest_48, fX3_digest_49, fX3_digest_52, ↓fv_0_1, fX3_digest_55, fX3_digest_56, fX3_digest_57, fX3_digest_58, fX3_digest_59, fX3_digest_60, fX3_digest_63, fX3_digest_64, fX3_digest_65, fX3_digest_66, fX3_digest_69, ↓fv_0_2, fX3_digest_72, fX3_digest_73, fX3_digest_74, fX3_digest_75, fX3_digest_76, fX3_digest_77, fX3_digest_80, fX3_digest_81, fX3_digest_82, fX3_digest_83, fX3_digest_86, ↓fv_0_3, fX3_digest_89, fX3_digest_90, fX3_digest_91, fX3_digest_92, fX3_digest_93, fX3_digest_94, ↓ex_iinc, fX3_digest_97, ↓ex_goto, fX3_digest_100, fX3_digest_103, fX3_digest_104, fX3_digest_105, fX3_digest_106, fX3_digest_109, ↓fv_0_5, fX3_digest_112, fX3_digest_113, fX3_digest_114, fX3_digest_115, fX3_digest_116, fX3_digest_117, fX3_digest_118, ↓ex_bipush, fX3_digest_120, fX3_digest_123, fX3_digest_126, fX3_digest_127, fX3_digest_128, fX3_digest_129, fX3_digest_132, ↓fv_0_6, fX3_digest_135, fX3_digest_136, fX3_digest_137, fX3_digest_138, fX3_digest_139, fX3_digest_140, fX3_digest_143, fX3_digest_146, fX3_digest_149, fX3_digest_150, fX3_digest_151, fX3_digest_152, fX3_digest_155, ↓fv_0_7, fX3_digest_158, fX3_digest_159, fX3_digest_160, ↓ex_lreturn, ↓rt_l, p0, p1, q0, q1, d1]
    exact key1 g.now.n 0 (by omega)
  next => exact hC.elim)
end PUB3
end
section
section SPREAD
/-- the times and the wanted times that the spread holds -/
def TM (X : XT) (t : Nat → Nat) : Prop := ∀ v, v < 8 → X.1 9 v = nI (t v) ∧ t v ≤ 31
def WN (X : XT) (w : Nat → Nat) : Prop := ∀ v, v < 8 → X.1 10 v = nI (w v) ∧ (w v ≤ 31 ∨ w v = 100)
def wI (t : Int32) : Nat := if t = -1 then 31 else cl t
theorem wI_ok {t : Int32} (h : okS t) : wI t ≤ 31 ∨ wI t = 100 := by
  unfold wI
  rcases h with rfl | rfl | ⟨n, h1, rfl⟩
  · left; decide
  · right; decide
  · left
    split
    · omega
    · rw [show cl (nI n) = n from clampN (by omega)]; omega
theorem wI_eq {t : Int32} (h : okS t) : (if t = -1 then (31 : Int32) else t) = nI (wI t) := by
  unfold wI
  rcases h with rfl | rfl | ⟨n, h1, rfl⟩
  · decide
  · decide
  · split
    · rfl
    · rw [show cl (nI n) = n from clampN (by omega)]
theorem sh_sp : (shp 8 = (1, 0) ∧ shp 9 = (5, 8) ∧ shp 10 = (5, 8) ∧ shp 11 = (6, 8)) ∧ 8 < NC ∧ 9 < NC ∧ 10 < NC ∧ 11 < NC := by decide
def C_X1_wantNothing : CT := fun As X K => match As with
  | [.ref b] => b = 8 ∧ ∀ X', Fr (fun k => k = 10) X X' → WN X' (fun _ => 100) → K none X'
  | _ => False
set_option maxRecDepth 20000 in
set_option maxHeartbeats 4000000 in
theorem d_X1_wantNothing (l : Launch) : Does l yX1_wantNothing (wY yX1_wantNothing cX1_wantNothing 2 (retT 3)) (rmF 0) C_X1_wantNothing := does_of (rt := 3) (by decide +kernel) tkX1_wantNothing (calls := []) (fun _ h => absurd h List.not_mem_nil) (by
  intro As X post hC
  unfold C_X1_wantNothing at hC
  split at hC
  next b =>
    obtain ⟨rfl, hpost⟩ := hC
    refine ⟨Nat.le_of_ble_eq_true rfl, fun R hR => ?_⟩
    obtain ⟨⟨p8, p9, p10, p11⟩, q8, q9, q10, q11⟩ := sh_sp
    have key : ∀ k i Y, i + k = 8 → Fr (fun k => k = 10) X Y → (∀ v, v < i → Y.1 10 v = 100) → R 2 [(0, .ref 8), (1, .int (nI i))] [] Y := by
      intro k
      induction k with
      | zero =>
        intro i Y hi hF hV
        refine go hR [(2, [0, 1])] 60 ?_
        simp only [↓reduceIte, Nat.reduceEqDiff, Nat.reduceAdd, Nat.reduceLeDiff, reduceCtorEq, and_true, true_and, false_and, and_false, true_or, or_true, or_false, false_or, true_implies, false_implies, implies_true, not_true_eq_false, not_false_eq_true, eq_self, fx_s, ↓run_s, run_0, ↓rs_n, ↓rs_c, as_s, ls_n, ls_c, lc_s, lget_c, fX1_wantNothing_0, ↓ex_iconst, fX1_wantNothing_1, ↓ex_istore_n, ↓s1I_c, ↓lsto_e, ↓lrmK_n, ↓lrmK_f, ct_i, ct_l, ct_r, fX1_wantNothing_2, ↓ex_iload_n, ↓xI_i, ↓xIg_c, fX1_wantNothing_3, ↓ex_bipush, fX1_wantNothing_5, ↓ex_if_icmp_ge, ↓s2I_c, fX1_wantNothing_8, ↓ex_aload_n, ↓xR_r, ↓xRg_c, fX1_wantNothing_9, ↓ex_getfield, ↓s1R_c, ↓fv_1_1, fX1_wantNothing_12, fX1_wantNothing_13, fX1_wantNothing_15, ↓ex_iastore, ↓sRII_c, fX1_wantNothing_16, ↓ex_iinc, fX1_wantNothing_19, ↓ex_goto, fX1_wantNothing_22, ↓ex_return_, ↓rt_v, p8, p10, q8, q10, leI, nI_toInt (n := i) (by omega), tI_m5, tI_m4, tI_m3, tI_m2, tI_m1, tI_0, tI_1, tI_2, tI_3, tI_4, tI_5, tI_7, tI_8, tI_10, tI_12, tI_30, tI_31, tI_32, tI_47, tI_48, tI_57, tI_59, tI_42, tI_43, tI_45, tI_61, tI_62, tI_100, tI_120, tI_255, tI_1000]
        exact ⟨fun _ => hpost Y hF (fun v hv => ⟨hV v (by omega), Or.inr rfl⟩), fun z => absurd (by omega) z⟩
      | succ k ih =>
        intro i Y hi hF hV
        refine go hR [(2, [0, 1])] 60 ?_
        simp only [↓reduceIte, Nat.reduceEqDiff, Nat.reduceAdd, Nat.reduceLeDiff, reduceCtorEq, and_true, true_and, false_and, and_false, true_or, or_true, or_false, false_or, true_implies, false_implies, implies_true, not_true_eq_false, not_false_eq_true, eq_self, fx_s, ↓run_s, run_0, ↓rs_n, ↓rs_c, as_s, ls_n, ls_c, lc_s, lget_c, fX1_wantNothing_0, ↓ex_iconst, fX1_wantNothing_1, ↓ex_istore_n, ↓s1I_c, ↓lsto_e, ↓lrmK_n, ↓lrmK_f, ct_i, ct_l, ct_r, fX1_wantNothing_2, ↓ex_iload_n, ↓xI_i, ↓xIg_c, fX1_wantNothing_3, ↓ex_bipush, fX1_wantNothing_5, ↓ex_if_icmp_ge, ↓s2I_c, fX1_wantNothing_8, ↓ex_aload_n, ↓xR_r, ↓xRg_c, fX1_wantNothing_9, ↓ex_getfield, ↓s1R_c, ↓fv_1_1, fX1_wantNothing_12, fX1_wantNothing_13, fX1_wantNothing_15, ↓ex_iastore, ↓sRII_c, fX1_wantNothing_16, ↓ex_iinc, fX1_wantNothing_19, ↓ex_goto, fX1_wantNothing_22, ↓ex_return_, ↓rt_v, p8, p10, q8, q10, leI, nI_toInt (n := i) (by omega), tI_m5, tI_m4, tI_m3, tI_m2, tI_m1, tI_0, tI_1, tI_2, tI_3, tI_4, tI_5, tI_7, tI_8, tI_10, tI_12, tI_30, tI_31, tI_32, tI_47, tI_48, tI_57, tI_59, tI_42, tI_43, tI_45, tI_61, tI_62, tI_100, tI_120, tI_255, tI_1000, clampN (n := i) (by omega), add1N]
        refine ⟨fun z => absurd z (by omega), fun _ => ⟨vp_inN (by omega) (by omega), ih (i + 1) _ (by omega) (Fr.pI (P := fun k => k = 10) hF rfl _ _) (fun v hv => ?_)⟩⟩
        by_cases e : v = i
        · simp [sI_1, upd_a, e]
        · simp [sI_1, upd_a, e, hV v (by omega)]
    refine go hR [(2, [0, 1])] 60 ?_
    simp only [lv_args, ↓reduceIte, Nat.reduceEqDiff, Nat.reduceAdd, Nat.reduceLeDiff, reduceCtorEq, and_true, true_and, false_and, and_false, true_or, or_true, or_false, false_or, true_implies, false_implies, implies_true, not_true_eq_false, not_false_eq_true, eq_self, fx_s, ↓run_s, run_0, ↓rs_n, ↓rs_c, as_s, ls_n, ls_c, lc_s, lget_c, fX1_wantNothing_0, ↓ex_iconst, fX1_wantNothing_1, ↓ex_istore_n, ↓s1I_c, ↓lsto_e, ↓lrmK_n, ↓lrmK_f, ct_i, ct_l, ct_r, fX1_wantNothing_2, ↓ex_iload_n, ↓xI_i, ↓xIg_c, fX1_wantNothing_3, ↓ex_bipush, fX1_wantNothing_5, ↓ex_if_icmp_ge, ↓s2I_c, fX1_wantNothing_8, ↓ex_aload_n, ↓xR_r, ↓xRg_c, fX1_wantNothing_9, ↓ex_getfield, ↓s1R_c, ↓fv_1_1, fX1_wantNothing_12, fX1_wantNothing_13, fX1_wantNothing_15, ↓ex_iastore, ↓sRII_c, fX1_wantNothing_16, ↓ex_iinc, fX1_wantNothing_19, ↓ex_goto, fX1_wantNothing_22, ↓ex_return_, ↓rt_v]
    exact key 8 0 X (by omega) (Fr.rf _ _) (fun v hv => absurd hv (by omega))
  next => exact hC.elim)
def wOnly (k : Nat) (t : Int32) (u : Nat) : Nat := if u = k then wI t else 100
def C_X1_wantOnly : CT := fun As X K => match As with
  | [.ref b, .int v, .int t] => ∃ k, (b = 8 ∧ v = nI k ∧ k < 8 ∧ okS t) ∧ ∀ X', Fr (fun k => k = 10) X X' → WN X' (wOnly k t) → K none X'
  | _ => False
theorem inR_n {q : Nat} (h : q < 8) : inR (nI q) 0 7 := by unfold inR; rw [nI_toInt (by omega)]; omega
set_option maxRecDepth 20000 in
set_option maxHeartbeats 4000000 in
theorem d_X1_wantOnly (l : Launch) : Does l yX1_wantOnly (wY yX1_wantOnly cX1_wantOnly 3 (retT 3)) (rmF 1) C_X1_wantOnly := does_of (rt := 3) (by decide +kernel) tkX1_wantOnly (calls := [(40, false, 1, 1, C_X1_wantNothing), (43, true, 1, 3, C_X3_isNode)]) (List.forall_mem_cons.mpr ⟨cr_V (d_X1_wantNothing l) rfl (by decide +kernel) (by decide +kernel) ⟨rfl, rfl⟩ ⟨Nat.le_of_ble_eq_true rfl, Nat.le_of_ble_eq_true rfl⟩, List.forall_mem_cons.mpr ⟨cr_NS (d_X3_isNode l) (by decide +kernel) (by decide +kernel) (by decide +kernel) ⟨rfl, rfl⟩ ⟨Nat.le_of_ble_eq_true rfl, Nat.le_of_ble_eq_true rfl⟩, fun _ h => absurd h List.not_mem_nil⟩⟩) (by
  intro As X post hC
  unfold C_X1_wantOnly at hC
  split at hC
  next b v t =>
    obtain ⟨k, ⟨rfl, rfl, hk, ht⟩, hpost⟩ := hC
    refine ⟨Nat.le_of_ble_eq_true rfl, fun R hR => ?_⟩
    obtain ⟨⟨p8, p9, p10, p11⟩, q8, q9, q10, q11⟩ := sh_sp
    refine go hR [] 60 ?_
    simp only [lv_args, ↓reduceIte, Nat.reduceEqDiff, Nat.reduceAdd, Nat.reduceLeDiff, reduceCtorEq, and_true, true_and, false_and, and_false, true_or, or_true, or_false, false_or, true_implies, false_implies, implies_true, not_true_eq_false, not_false_eq_true, eq_self, fx_s, ↓run_s, run_0, ↓rs_n, ↓rs_c, as_s, ls_n, ls_c, lc_s, lget_c, fX1_wantOnly_0, ↓ex_aload_n, ↓xR_r, ↓xRg_c, fX1_wantOnly_1, ↓ex_invokevirtual, ↓xc_0, ↓xc_s, ↓xc_1, ↓pk_s, ↓k_s, ↓k_n, catS_n, catS_c, rOk_c, ct_i, ct_l, ct_r, ↓pk_f, fX1_wantOnly_4, ↓ex_iload_n, ↓xI_i, ↓xIg_c, fX1_wantOnly_5, ↓ex_invokestatic, ↓pk_t, fX1_wantOnly_8, ↓ex_ifCond_eq, ↓s1I_c, fX1_wantOnly_11, fX1_wantOnly_12, ↓ex_getfield, ↓s1R_c, ↓fv_1_1, fX1_wantOnly_15, fX1_wantOnly_16, fX1_wantOnly_17, ↓ex_iconst, fX1_wantOnly_18, ↓ex_if_icmp_ne, ↓s2I_c, fX1_wantOnly_21, ↓ex_bipush, fX1_wantOnly_23, ↓ex_goto, fX1_wantOnly_26, fX1_wantOnly_27, ↓ex_iastore, ↓sRII_c, fX1_wantOnly_28, ↓ex_return_, ↓rt_v, p8, p10, q8, q10, ↓C_X1_wantNothing, ↓C_X3_isNode, b2i_0, inR_n hk, clampN (n := k) (by omega), ↓reduceIte, not_true_eq_false, not_false_eq_true, false_implies, true_implies, implies_true, and_true, true_and, and_false, false_and, or_true, true_or, or_false, false_or, Classical.not_not, ite_true, ite_false]
    intro Y hF hW
    have hw := wI_eq ht
    have fin : ∀ x : Int32, x = nI (wI t) → post none (sI Y 10 k x) := fun x hx => hpost _ (Fr.pI (P := fun k => k = 10) hF rfl _ _) (fun u hu => by
      unfold wOnly
      by_cases e : u = k
      · rw [if_pos e, hx]
        exact ⟨by simp [sI_1, upd_a, e], wI_ok ht⟩
      · rw [if_neg e]
        exact ⟨by simp [sI_1, upd_a, e, (hW u hu).1], Or.inr rfl⟩)
    have hv : vp_in (nI k) 8 := vp_inN (by omega) hk
    by_cases e : t = -1
    · rw [if_pos e] at hw
      exact ⟨fun z => absurd e z, fun _ => ⟨hv, fin _ hw⟩⟩
    · rw [if_neg e] at hw
      exact ⟨fun _ => ⟨hv, fin _ hw⟩, fun z => absurd z e⟩
  next => exact hC.elim)
def C_X1_wantAsSeen : CT := fun As X K => match As with
  | [.ref b, .ref o] => ∃ s : SV, (b = 8 ∧ o = 1 ∧ RS X 1 s ∧ ∀ v, v < 8 → okS (s.S v)) ∧ ∀ X', Fr (fun k => k = 10) X X' → WN X' (fun v => wI (s.S v)) → K none X'
  | _ => False
set_option maxRecDepth 20000 in
set_option maxHeartbeats 4000000 in
theorem d_X1_wantAsSeen (l : Launch) : Does l yX1_wantAsSeen (wY yX1_wantAsSeen cX1_wantAsSeen 4 (retT 3)) (rmF 0) C_X1_wantAsSeen := does_of (rt := 3) (by decide +kernel) tkX1_wantAsSeen (calls := []) (fun _ h => absurd h List.not_mem_nil) (by
  intro As X post hC
  unfold C_X1_wantAsSeen at hC
  split at hC
  next b o =>
    obtain ⟨s, ⟨rfl, rfl, ⟨d1, d2, d3, d4, d5⟩, hok⟩, hpost⟩ := hC
    refine ⟨Nat.le_of_ble_eq_true rfl, fun R hR => ?_⟩
    obtain ⟨⟨p8, p9, p10, p11⟩, q8, q9, q10, q11⟩ := sh_sp
    obtain ⟨⟨p0, p1, p2, p3, p4, p5, p6⟩, q0, q1, q2, q3, q4, q5, q6⟩ := sh_base
    have key : ∀ k i Y, i + k = 8 → Fr (fun k => k = 10) X Y → (∀ v, v < i → Y.1 10 v = nI (wI (s.S v))) → R 2 [(0, .ref 8), (1, .ref 1), (2, .int (nI i))] [] Y := by
      intro k
      induction k with
      | zero =>
        intro i Y hi hF hV
        refine go hR [(2, [0, 1, 2])] 60 ?_
        simp only [↓reduceIte, Nat.reduceEqDiff, Nat.reduceAdd, Nat.reduceLeDiff, reduceCtorEq, and_true, true_and, false_and, and_false, true_or, or_true, or_false, false_or, true_implies, false_implies, implies_true, not_true_eq_false, not_false_eq_true, eq_self, fx_s, ↓run_s, run_0, ↓rs_n, ↓rs_c, as_s, ls_n, ls_c, lc_s, lget_c, fX1_wantAsSeen_0, ↓ex_iconst, fX1_wantAsSeen_1, ↓ex_istore_n, ↓s1I_c, ↓lsto_e, ↓lrmK_n, ↓lrmK_f, ct_i, ct_l, ct_r, fX1_wantAsSeen_2, ↓ex_iload_n, ↓xI_i, ↓xIg_c, fX1_wantAsSeen_3, ↓ex_bipush, fX1_wantAsSeen_5, ↓ex_if_icmp_ge, ↓s2I_c, fX1_wantAsSeen_8, ↓ex_aload_n, ↓xR_r, ↓xRg_c, fX1_wantAsSeen_9, ↓ex_getfield, ↓s1R_c, ↓fv_0_6, fX1_wantAsSeen_12, fX1_wantAsSeen_13, ↓ex_iaload, ↓sRI_c, ↓scrR_n, fX1_wantAsSeen_14, fX1_wantAsSeen_15, fX1_wantAsSeen_16, ↓fv_1_1, fX1_wantAsSeen_19, fX1_wantAsSeen_20, fX1_wantAsSeen_21, fX1_wantAsSeen_22, ↓ex_if_icmp_ne, fX1_wantAsSeen_25, fX1_wantAsSeen_27, ↓ex_goto, fX1_wantAsSeen_30, fX1_wantAsSeen_31, ↓ex_iastore, ↓sRII_c, fX1_wantAsSeen_32, ↓ex_iinc, fX1_wantAsSeen_35, fX1_wantAsSeen_38, ↓ex_return_, ↓rt_v, leI, nI_toInt (n := i) (by omega), tI_m5, tI_m4, tI_m3, tI_m2, tI_m1, tI_0, tI_1, tI_2, tI_3, tI_4, tI_5, tI_7, tI_8, tI_10, tI_12, tI_30, tI_31, tI_32, tI_47, tI_48, tI_57, tI_59, tI_42, tI_43, tI_45, tI_61, tI_62, tI_100, tI_120, tI_255, tI_1000]
        exact ⟨fun _ => hpost Y hF (fun v hv => ⟨hV v (by omega), wI_ok (hok v hv)⟩), fun z => absurd (by omega) z⟩
      | succ k ih =>
        intro i Y hi hF hV
        refine go hR [(2, [0, 1, 2])] 60 ?_
        have hs : Y.1 6 i = s.S i := by rw [hF.1 6 (by omega)]; exact d4 i (by omega)
        simp only [↓reduceIte, Nat.reduceEqDiff, Nat.reduceAdd, Nat.reduceLeDiff, reduceCtorEq, and_true, true_and, false_and, and_false, true_or, or_true, or_false, false_or, true_implies, false_implies, implies_true, not_true_eq_false, not_false_eq_true, eq_self, fx_s, ↓run_s, run_0, ↓rs_n, ↓rs_c, as_s, ls_n, ls_c, lc_s, lget_c, fX1_wantAsSeen_0, ↓ex_iconst, fX1_wantAsSeen_1, ↓ex_istore_n, ↓s1I_c, ↓lsto_e, ↓lrmK_n, ↓lrmK_f, ct_i, ct_l, ct_r, fX1_wantAsSeen_2, ↓ex_iload_n, ↓xI_i, ↓xIg_c, fX1_wantAsSeen_3, ↓ex_bipush, fX1_wantAsSeen_5, ↓ex_if_icmp_ge, ↓s2I_c, fX1_wantAsSeen_8, ↓ex_aload_n, ↓xR_r, ↓xRg_c, fX1_wantAsSeen_9, ↓ex_getfield, ↓s1R_c, ↓fv_0_6, fX1_wantAsSeen_12, fX1_wantAsSeen_13, ↓ex_iaload, ↓sRI_c, ↓scrR_n, fX1_wantAsSeen_14, fX1_wantAsSeen_15, fX1_wantAsSeen_16, ↓fv_1_1, fX1_wantAsSeen_19, fX1_wantAsSeen_20, fX1_wantAsSeen_21, fX1_wantAsSeen_22, ↓ex_if_icmp_ne, fX1_wantAsSeen_25, fX1_wantAsSeen_27, ↓ex_goto, fX1_wantAsSeen_30, fX1_wantAsSeen_31, ↓ex_iastore, ↓sRII_c, fX1_wantAsSeen_32, ↓ex_iinc, fX1_wantAsSeen_35, fX1_wantAsSeen_38, ↓ex_return_, ↓rt_v, p1, p6, p8, p10, q1, q6, q8, q10, leI, nI_toInt (n := i) (by omega), tI_m5, tI_m4, tI_m3, tI_m2, tI_m1, tI_0, tI_1, tI_2, tI_3, tI_4, tI_5, tI_7, tI_8, tI_10, tI_12, tI_30, tI_31, tI_32, tI_47, tI_48, tI_57, tI_59, tI_42, tI_43, tI_45, tI_61, tI_62, tI_100, tI_120, tI_255, tI_1000, clampN (n := i) (by omega), add1N, hs]
        have hv : vp_in (nI i) 8 := vp_inN (by omega) (by omega)
        have hw := wI_eq (hok i (by omega))
        have fin : ∀ x : Int32, x = nI (wI (s.S i)) → R 2 [(0, .ref 8), (1, .ref 1), (2, .int (nI (i + 1)))] [] (sI Y 10 i x) := fun x hx => ih (i + 1) _ (by omega) (Fr.pI (P := fun k => k = 10) hF rfl _ _) (fun v hv => by
          by_cases e : v = i
          · simp [sI_1, upd_a, e, hx]
          · simp [sI_1, upd_a, e, hV v (by omega)])
        refine ⟨fun z => absurd z (by omega), fun _ => ⟨hv, ?_⟩⟩
        by_cases e : s.S i = -1
        · rw [if_pos e] at hw
          exact ⟨fun z => absurd e z, fun _ => ⟨hv, fin _ hw⟩⟩
        · rw [if_neg e] at hw
          exact ⟨fun _ => ⟨hv, fin _ hw⟩, fun z => absurd z e⟩
    refine go hR [(2, [0, 1, 2])] 60 ?_
    simp only [lv_args, ↓reduceIte, Nat.reduceEqDiff, Nat.reduceAdd, Nat.reduceLeDiff, reduceCtorEq, and_true, true_and, false_and, and_false, true_or, or_true, or_false, false_or, true_implies, false_implies, implies_true, not_true_eq_false, not_false_eq_true, eq_self, fx_s, ↓run_s, run_0, ↓rs_n, ↓rs_c, as_s, ls_n, ls_c, lc_s, lget_c, fX1_wantAsSeen_0, ↓ex_iconst, fX1_wantAsSeen_1, ↓ex_istore_n, ↓s1I_c, ↓lsto_e, ↓lrmK_n, ↓lrmK_f, ct_i, ct_l, ct_r, fX1_wantAsSeen_2, ↓ex_iload_n, ↓xI_i, ↓xIg_c, fX1_wantAsSeen_3, ↓ex_bipush, fX1_wantAsSeen_5, ↓ex_if_icmp_ge, ↓s2I_c, fX1_wantAsSeen_8, ↓ex_aload_n, ↓xR_r, ↓xRg_c, fX1_wantAsSeen_9, ↓ex_getfield, ↓s1R_c, ↓fv_0_6, fX1_wantAsSeen_12, fX1_wantAsSeen_13, ↓ex_iaload, ↓sRI_c, ↓scrR_n, fX1_wantAsSeen_14, fX1_wantAsSeen_15, fX1_wantAsSeen_16, ↓fv_1_1, fX1_wantAsSeen_19, fX1_wantAsSeen_20, fX1_wantAsSeen_21, fX1_wantAsSeen_22, ↓ex_if_icmp_ne, fX1_wantAsSeen_25, fX1_wantAsSeen_27, ↓ex_goto, fX1_wantAsSeen_30, fX1_wantAsSeen_31, ↓ex_iastore, ↓sRII_c, fX1_wantAsSeen_32, ↓ex_iinc, fX1_wantAsSeen_35, fX1_wantAsSeen_38, ↓ex_return_, ↓rt_v]
    exact key 8 0 X (by omega) (Fr.rf _ _) (fun v hv => absurd hv (by omega))
  next => exact hC.elim)
/-- the times at the start m -/
def t0 (m v : Nat) : Nat := if m.testBit v then 0 else 31
def C_X1_begin : CT := fun As X K => match As with
  | [.ref b, .int st] => ∃ m : Nat, (b = 8 ∧ st = nI m ∧ m ≤ 255) ∧ ∀ X', Fr (fun k => k = 9) X X' → TM X' (t0 m) → K none X'
  | _ => False
set_option maxRecDepth 20000 in
set_option maxHeartbeats 4000000 in
theorem d_X1_begin (l : Launch) : Does l yX1_begin (wY yX1_begin cX1_begin 3 (retT 3)) (rmF 0) C_X1_begin := does_of (rt := 3) (by decide +kernel) tkX1_begin (calls := []) (fun _ h => absurd h List.not_mem_nil) (by
  intro As X post hC
  unfold C_X1_begin at hC
  split at hC
  next b st =>
    obtain ⟨m, ⟨rfl, rfl, hm⟩, hpost⟩ := hC
    refine ⟨Nat.le_of_ble_eq_true rfl, fun R hR => ?_⟩
    obtain ⟨⟨p8, p9, p10, p11⟩, q8, q9, q10, q11⟩ := sh_sp
    have key : ∀ k i Y, i + k = 8 → Fr (fun k => k = 9) X Y → (∀ v, v < i → Y.1 9 v = nI (t0 m v)) → R 2 [(0, .ref 8), (1, .int (nI m)), (2, .int (nI i))] [] Y := by
      intro k
      induction k with
      | zero =>
        intro i Y hi hF hV
        refine go hR [(2, [0, 1, 2])] 60 ?_
        simp only [↓reduceIte, Nat.reduceEqDiff, Nat.reduceAdd, Nat.reduceLeDiff, reduceCtorEq, and_true, true_and, false_and, and_false, true_or, or_true, or_false, false_or, true_implies, false_implies, implies_true, not_true_eq_false, not_false_eq_true, eq_self, fx_s, ↓run_s, run_0, ↓rs_n, ↓rs_c, as_s, ls_n, ls_c, lc_s, lget_c, fX1_begin_0, ↓ex_iconst, fX1_begin_1, ↓ex_istore_n, ↓s1I_c, ↓lsto_e, ↓lrmK_n, ↓lrmK_f, ct_i, ct_l, ct_r, fX1_begin_2, ↓ex_iload_n, ↓xI_i, ↓xIg_c, fX1_begin_3, ↓ex_bipush, fX1_begin_5, ↓ex_if_icmp_ge, ↓s2I_c, fX1_begin_8, ↓ex_aload_n, ↓xR_r, ↓xRg_c, fX1_begin_9, ↓ex_getfield, ↓s1R_c, ↓fv_1_0, fX1_begin_12, fX1_begin_13, fX1_begin_14, fX1_begin_15, ↓ex_ishr, fX1_begin_16, fX1_begin_17, ↓ex_iand, fX1_begin_18, fX1_begin_19, ↓ex_if_icmp_ne, fX1_begin_22, fX1_begin_23, ↓ex_goto, fX1_begin_26, fX1_begin_28, ↓ex_iastore, ↓sRII_c, fX1_begin_29, ↓ex_iinc, fX1_begin_32, fX1_begin_35, ↓ex_return_, ↓rt_v, leI, nI_toInt (n := i) (by omega), tI_m5, tI_m4, tI_m3, tI_m2, tI_m1, tI_0, tI_1, tI_2, tI_3, tI_4, tI_5, tI_7, tI_8, tI_10, tI_12, tI_30, tI_31, tI_32, tI_47, tI_48, tI_57, tI_59, tI_42, tI_43, tI_45, tI_61, tI_62, tI_100, tI_120, tI_255, tI_1000]
        exact ⟨fun _ => hpost Y hF (fun v hv => ⟨hV v (by omega), by unfold t0; split <;> omega⟩), fun z => absurd (by omega) z⟩
      | succ k ih =>
        intro i Y hi hF hV
        refine go hR [(2, [0, 1, 2])] 60 ?_
        simp only [↓reduceIte, Nat.reduceEqDiff, Nat.reduceAdd, Nat.reduceLeDiff, reduceCtorEq, and_true, true_and, false_and, and_false, true_or, or_true, or_false, false_or, true_implies, false_implies, implies_true, not_true_eq_false, not_false_eq_true, eq_self, fx_s, ↓run_s, run_0, ↓rs_n, ↓rs_c, as_s, ls_n, ls_c, lc_s, lget_c, fX1_begin_0, ↓ex_iconst, fX1_begin_1, ↓ex_istore_n, ↓s1I_c, ↓lsto_e, ↓lrmK_n, ↓lrmK_f, ct_i, ct_l, ct_r, fX1_begin_2, ↓ex_iload_n, ↓xI_i, ↓xIg_c, fX1_begin_3, ↓ex_bipush, fX1_begin_5, ↓ex_if_icmp_ge, ↓s2I_c, fX1_begin_8, ↓ex_aload_n, ↓xR_r, ↓xRg_c, fX1_begin_9, ↓ex_getfield, ↓s1R_c, ↓fv_1_0, fX1_begin_12, fX1_begin_13, fX1_begin_14, fX1_begin_15, ↓ex_ishr, fX1_begin_16, fX1_begin_17, ↓ex_iand, fX1_begin_18, fX1_begin_19, ↓ex_if_icmp_ne, fX1_begin_22, fX1_begin_23, ↓ex_goto, fX1_begin_26, fX1_begin_28, ↓ex_iastore, ↓sRII_c, fX1_begin_29, ↓ex_iinc, fX1_begin_32, fX1_begin_35, ↓ex_return_, ↓rt_v, p8, p9, q8, q9, bit1 (m := m) (e := i) (by omega) (by omega), leI, nI_toInt (n := i) (by omega), tI_m5, tI_m4, tI_m3, tI_m2, tI_m1, tI_0, tI_1, tI_2, tI_3, tI_4, tI_5, tI_7, tI_8, tI_10, tI_12, tI_30, tI_31, tI_32, tI_47, tI_48, tI_57, tI_59, tI_42, tI_43, tI_45, tI_61, tI_62, tI_100, tI_120, tI_255, tI_1000, clampN (n := i) (by omega), add1N]
        have hv : vp_in (nI i) 8 := vp_inN (by omega) (by omega)
        have fin : ∀ x : Int32, x = nI (t0 m i) → R 2 [(0, .ref 8), (1, .int (nI m)), (2, .int (nI (i + 1)))] [] (sI Y 9 i x) := fun x hx => ih (i + 1) _ (by omega) (Fr.pI (P := fun k => k = 9) hF rfl _ _) (fun v hv => by
          by_cases e : v = i
          · simp [sI_1, upd_a, e, hx]
          · simp [sI_1, upd_a, e, hV v (by omega)])
        refine ⟨fun z => absurd z (by omega), fun _ => ⟨fun z => ⟨hv, fin _ ?_⟩, fun z => ⟨hv, fin _ ?_⟩⟩⟩
        · unfold t0; rw [if_neg z]; rfl
        · unfold t0; rw [if_pos z]; rfl
    refine go hR [(2, [0, 1, 2])] 60 ?_
    simp only [lv_args, ↓reduceIte, Nat.reduceEqDiff, Nat.reduceAdd, Nat.reduceLeDiff, reduceCtorEq, and_true, true_and, false_and, and_false, true_or, or_true, or_false, false_or, true_implies, false_implies, implies_true, not_true_eq_false, not_false_eq_true, eq_self, fx_s, ↓run_s, run_0, ↓rs_n, ↓rs_c, as_s, ls_n, ls_c, lc_s, lget_c, fX1_begin_0, ↓ex_iconst, fX1_begin_1, ↓ex_istore_n, ↓s1I_c, ↓lsto_e, ↓lrmK_n, ↓lrmK_f, ct_i, ct_l, ct_r, fX1_begin_2, ↓ex_iload_n, ↓xI_i, ↓xIg_c, fX1_begin_3, ↓ex_bipush, fX1_begin_5, ↓ex_if_icmp_ge, ↓s2I_c, fX1_begin_8, ↓ex_aload_n, ↓xR_r, ↓xRg_c, fX1_begin_9, ↓ex_getfield, ↓s1R_c, ↓fv_1_0, fX1_begin_12, fX1_begin_13, fX1_begin_14, fX1_begin_15, ↓ex_ishr, fX1_begin_16, fX1_begin_17, ↓ex_iand, fX1_begin_18, fX1_begin_19, ↓ex_if_icmp_ne, fX1_begin_22, fX1_begin_23, ↓ex_goto, fX1_begin_26, fX1_begin_28, ↓ex_iastore, ↓sRII_c, fX1_begin_29, ↓ex_iinc, fX1_begin_32, fX1_begin_35, ↓ex_return_, ↓rt_v]
    exact key 8 0 X (by omega) (Fr.rf _ _) (fun v hv => absurd hv (by omega))
  next => exact hC.elim)
/-- what the edges' ends and numbers must be -/
def WE (s : SV) : Prop := s.n ≤ 12 ∧ (∀ e, e < s.n → s.F e < 8 ∧ s.T e < 8 ∧ s.W e ≤ 10 ∧ 1 ≤ s.D e ∧ s.D e ≤ 5) ∧ s.H ≤ 30
theorem WF.we {s : SV} (h : WF s) : WE s := ⟨h.1, fun e he => by obtain ⟨a1, a2, a3, a4, a5, a6⟩ := h.2.1 e he; exact ⟨a1, a2, a4, a5, a6⟩, h.2.2.2.1⟩
/-- when the rumour comes along edge e -/
def arr (s : SV) (t : Nat → Nat) (e : Nat) : Nat := if t (s.F e) = 31 then 31 else if t (s.F e) + s.D e ≤ s.H then t (s.F e) + s.D e else 31
theorem arr_le {s : SV} (h : s.H ≤ 30) (t : Nat → Nat) (e : Nat) : arr s t e ≤ 31 := by
  unfold arr
  split
  · omega
  · split <;> omega
def C_X1_arrivalBy : CT := fun As X K => match As with
  | [.ref b, .ref o, .int e] => ∃ (s : SV) (t : Nat → Nat) (k : Nat), (b = 8 ∧ o = 1 ∧ RS X 1 s ∧ WE s ∧ TM X t ∧ e = nI k ∧ k < s.n) ∧ K (some (.int (nI (arr s t k)))) X
  | _ => False
set_option maxRecDepth 20000 in
set_option maxHeartbeats 4000000 in
theorem d_X1_arrivalBy (l : Launch) : Does l yX1_arrivalBy (wY yX1_arrivalBy cX1_arrivalBy 5 (retT 0)) (rmF 1) C_X1_arrivalBy := does_of (rt := 0) (by decide +kernel) tkX1_arrivalBy (calls := [(43, true, 1, 3, C_X3_isNode)]) (List.forall_mem_cons.mpr ⟨cr_NS (d_X3_isNode l) (by decide +kernel) (by decide +kernel) (by decide +kernel) ⟨rfl, rfl⟩ ⟨Nat.le_of_ble_eq_true rfl, Nat.le_of_ble_eq_true rfl⟩, fun _ h => absurd h List.not_mem_nil⟩) (by
  intro As X post hC
  unfold C_X1_arrivalBy at hC
  split at hC
  next b o e =>
    obtain ⟨s, t, k, ⟨rfl, rfl, ⟨d1, d2, d3, d4, d5⟩, ⟨w1, w2, w3⟩, ht, rfl, hk⟩, hpost⟩ := hC
    refine ⟨Nat.le_of_ble_eq_true rfl, fun R hR => ?_⟩
    obtain ⟨⟨p8, p9, p10, p11⟩, q8, q9, q10, q11⟩ := sh_sp
    obtain ⟨⟨p0, p1, p2, p3, p4, p5, p6⟩, q0, q1, q2, q3, q4, q5, q6⟩ := sh_base
    obtain ⟨e1, e2, e3, e4⟩ := d2 k hk
    obtain ⟨f1, f2, f3, f4, f5⟩ := w2 k hk
    obtain ⟨g1, g2⟩ := ht (s.F k) f1
    refine go hR [] 80 ?_
    simp only [lv_args, ↓reduceIte, Nat.reduceEqDiff, Nat.reduceAdd, Nat.reduceLeDiff, reduceCtorEq, and_true, true_and, false_and, and_false, true_or, or_true, or_false, false_or, true_implies, false_implies, implies_true, not_true_eq_false, not_false_eq_true, eq_self, fx_s, ↓run_s, run_0, ↓rs_n, ↓rs_c, as_s, ls_n, ls_c, lc_s, lget_c, fX1_arrivalBy_0, ↓ex_aload_n, ↓xR_r, ↓xRg_c, fX1_arrivalBy_1, ↓ex_getfield, ↓s1R_c, ↓fv_0_0, fX1_arrivalBy_4, ↓ex_iload_n, ↓xI_i, ↓xIg_c, fX1_arrivalBy_5, ↓ex_iaload, ↓sRI_c, ↓scrR_n, fX1_arrivalBy_6, ↓ex_istore_n, ↓s1I_c, ↓lsto_e, ↓lrmK_n, ↓lrmK_f, ct_i, ct_l, ct_r, fX1_arrivalBy_7, fX1_arrivalBy_8, ↓ex_invokestatic, ↓xc_0, ↓xc_s, ↓xc_1, ↓pk_s, ↓k_s, ↓k_n, catS_n, catS_c, rOk_c, ↓pk_t, fX1_arrivalBy_11, ↓ex_ifCond_eq, fX1_arrivalBy_14, fX1_arrivalBy_15, ↓fv_1_0, fX1_arrivalBy_18, fX1_arrivalBy_19, fX1_arrivalBy_20, ↓ex_bipush, fX1_arrivalBy_22, ↓ex_if_icmp_ne, ↓s2I_c, fX1_arrivalBy_25, fX1_arrivalBy_27, ↓ex_ireturn, ↓rt_i, fX1_arrivalBy_28, fX1_arrivalBy_29, fX1_arrivalBy_32, fX1_arrivalBy_33, fX1_arrivalBy_34, fX1_arrivalBy_35, ↓fv_0_3, fX1_arrivalBy_38, fX1_arrivalBy_39, fX1_arrivalBy_40, ↓ex_iadd, fX1_arrivalBy_41, ↓ex_istore, fX1_arrivalBy_43, ↓ex_iload, fX1_arrivalBy_45, fX1_arrivalBy_46, ↓fv_0_5, fX1_arrivalBy_49, ↓ex_if_icmp_gt, fX1_arrivalBy_52, fX1_arrivalBy_54, ↓ex_goto, fX1_arrivalBy_57, fX1_arrivalBy_59, p1, p2, p5, p8, p9, q1, q2, q5, q8, q9, ↓C_X3_isNode, b2i_0, clampN (n := k) (by omega), e1, e4, clampN (n := s.F k) (by omega), g1, d3, nI_add, inR_n f1, show (31 : Int32) = nI 31 from rfl, eqN (a := t (s.F k)) (b := 31) (by omega) (by omega), ltN (a := s.H) (b := t (s.F k) + s.D k) (by omega) (by omega), ↓reduceIte, not_true_eq_false, not_false_eq_true, false_implies, true_implies, implies_true, and_true, true_and, and_false, false_and, or_true, true_or, or_false, false_or, Classical.not_not, ite_true, ite_false]
    have hv1 : vp_in (nI k) 12 := vp_inN (by omega) (by omega)
    have hv2 : vp_in (nI (s.F k)) 8 := vp_inN (by omega) f1
    unfold arr at hpost
    refine ⟨hv1, hv2, fun z => ?_, fun z => ?_⟩
    · rw [if_neg z] at hpost
      refine ⟨hv2, hv1, fun y => ?_, fun y => ?_⟩
      · rw [if_neg (by omega)] at hpost; exact hpost
      · rw [if_pos (by omega)] at hpost; exact hpost
    · rw [if_pos z] at hpost; exact hpost
  next => exact hC.elim)
end SPREAD
end
section
section SPREAD2
/-- an edge tells the rumour; a round of all; the times after seven rounds -/
def relax (s : SV) (o : Nat) (t : Nat → Nat) (e : Nat) : Nat → Nat := if o.testBit e = true ∧ arr s t e < t (s.T e) then updN t (s.T e) (arr s t e) else t
def rnd (s : SV) (o : Nat) (t : Nat → Nat) : Nat → (Nat → Nat)
  | 0 => t
  | k + 1 => relax s o (rnd s o t k) k
def folR (s : SV) (m o : Nat) : Nat → (Nat → Nat)
  | 0 => t0 m
  | r + 1 => rnd s o (folR s m o r) s.n
def tau (s : SV) (m o : Nat) : Nat → Nat := folR s m o 7
def C_X1_follow : CT := fun As X K => match As with
  | [.ref b, .ref c, .int st, .int o] => ∃ (s : SV) (m om : Nat), (b = 8 ∧ c = 1 ∧ RS X 1 s ∧ WE s ∧ st = nI m ∧ m ≤ 255 ∧ o = nI om ∧ om < 4096) ∧ ∀ X', Fr (fun k => k = 9) X X' → TM X' (tau s m om) → K none X'
  | _ => False
set_option maxRecDepth 20000 in
set_option maxHeartbeats 4000000 in
theorem d_X1_follow (l : Launch) : Does l yX1_follow (wY yX1_follow cX1_follow 8 (retT 3)) (rmF 2) C_X1_follow := does_of (rt := 3) (by decide +kernel) tkX1_follow (calls := [(52, false, 2, 1, C_X1_begin), (62, false, 3, 1, C_X1_arrivalBy), (43, true, 1, 3, C_X3_isNode)]) (List.forall_mem_cons.mpr ⟨cr_V (d_X1_begin l) rfl (by decide +kernel) (by decide +kernel) ⟨rfl, rfl⟩ ⟨Nat.le_of_ble_eq_true rfl, Nat.le_of_ble_eq_true rfl⟩, List.forall_mem_cons.mpr ⟨cr_V (d_X1_arrivalBy l) rfl (by decide +kernel) (by decide +kernel) ⟨rfl, rfl⟩ ⟨Nat.le_of_ble_eq_true rfl, Nat.le_of_ble_eq_true rfl⟩, List.forall_mem_cons.mpr ⟨cr_NS (d_X3_isNode l) (by decide +kernel) (by decide +kernel) (by decide +kernel) ⟨rfl, rfl⟩ ⟨Nat.le_of_ble_eq_true rfl, Nat.le_of_ble_eq_true rfl⟩, fun _ h => absurd h List.not_mem_nil⟩⟩⟩) (by
  intro As X post hC
  unfold C_X1_follow at hC
  split at hC
  next b c st o =>
    obtain ⟨s, m, om, ⟨rfl, rfl, hRS, hW, rfl, hm, rfl, ho⟩, hpost⟩ := hC
    obtain ⟨w1, w2, w3⟩ := id hW
    obtain ⟨d1, d2, d3, d4, d5⟩ := id hRS
    refine ⟨Nat.le_of_ble_eq_true rfl, fun R hR => ?_⟩
    obtain ⟨⟨p8, p9, p10, p11⟩, q8, q9, q10, q11⟩ := sh_sp
    obtain ⟨⟨p0, p1, p2, p3, p4, p5, p6⟩, q0, q1, q2, q3, q4, q5, q6⟩ := sh_base
    have fS : ∀ Y, Fr (fun k => k = 9) X Y → RS Y 1 s := fun Y hF => hRS.fr hF (fun k hk z => by unfold scn at hk; omega)
    have inner : ∀ (r : Nat) (tt : Nat → Nat), r ≤ 7 → (∀ Y, Fr (fun k => k = 9) X Y → TM Y (rnd s om tt s.n) → R 8 [(0, .ref 8), (1, .ref 1), (3, .int (nI om)), (4, .int (nI (r + 1)))] [] Y) →
        ∀ k i Y, i + k = s.n → Fr (fun k => k = 9) X Y → TM Y (rnd s om tt i) → R 18 [(0, .ref 8), (1, .ref 1), (3, .int (nI om)), (4, .int (nI r)), (5, .int (nI i))] [] Y := by
      intro r tt hr hout k
      induction k with
      | zero =>
        intro i Y hi hF hT
        obtain ⟨y1, -⟩ := fS Y hF
        refine go hR [(8, [0, 1, 3, 4]), (18, [0, 1, 3, 4, 5])] 3 ?_
        simp only [↓reduceIte, Nat.reduceEqDiff, Nat.reduceAdd, Nat.reduceLeDiff, reduceCtorEq, and_true, true_and, false_and, and_false, true_or, or_true, or_false, false_or, true_implies, false_implies, implies_true, not_true_eq_false, not_false_eq_true, eq_self, fx_s, ↓run_s, run_0, ↓rs_n, ↓rs_c, as_s, ls_n, ls_c, lc_s, lget_c, fX1_follow_0, ↓ex_aload_n, ↓xR_r, ↓xRg_c, fX1_follow_1, ↓ex_iload_n, ↓xI_i, ↓xIg_c, fX1_follow_2, ↓ex_invokevirtual, ↓xc_0, ↓xc_s, ↓xc_1, ↓pk_s, ↓k_s, ↓k_n, catS_n, catS_c, rOk_c, ct_i, ct_l, ct_r, ↓pk_f, fX1_follow_5, ↓ex_iconst, fX1_follow_6, ↓ex_istore, ↓s1I_c, ↓lsto_e, ↓lrmK_n, ↓lrmK_f, fX1_follow_8, ↓ex_iload, fX1_follow_10, ↓ex_bipush, fX1_follow_12, ↓ex_if_icmp_ge, ↓s2I_c, fX1_follow_15, fX1_follow_16, fX1_follow_18, fX1_follow_20, fX1_follow_21, ↓ex_getfield, ↓s1R_c, ↓fv_0_4, fX1_follow_24, fX1_follow_27, fX1_follow_28, ↓fv_0_1, fX1_follow_31, fX1_follow_33, ↓ex_iaload, ↓sRI_c, ↓scrR_n, fX1_follow_34, fX1_follow_36, fX1_follow_37, fX1_follow_39, ↓ex_ishr, fX1_follow_40, fX1_follow_41, ↓ex_iand, fX1_follow_42, fX1_follow_43, ↓ex_if_icmp_ne, fX1_follow_46, fX1_follow_47, fX1_follow_48, fX1_follow_50, fX1_follow_53, ↓ex_goto, fX1_follow_56, fX1_follow_58, fX1_follow_60, fX1_follow_62, ↓ex_invokestatic, ↓pk_t, fX1_follow_65, ↓ex_ifCond_eq, fX1_follow_68, fX1_follow_70, fX1_follow_71, ↓fv_1_0, fX1_follow_74, fX1_follow_76, fX1_follow_77, fX1_follow_80, fX1_follow_81, fX1_follow_84, fX1_follow_86, fX1_follow_88, ↓ex_iastore, ↓sRII_c, fX1_follow_89, ↓ex_iinc, fX1_follow_92, fX1_follow_95, fX1_follow_98, fX1_follow_101, ↓ex_return_, ↓rt_v, p1, q1, y1, leN (a := s.n) (b := i) (by omega) (by omega), add1N]
        refine ⟨fun _ => ?_, fun z => absurd (by omega) z⟩
        refine go hR [(8, [0, 1, 3, 4]), (18, [0, 1, 3, 4, 5])] 3 ?_
        simp only [↓reduceIte, Nat.reduceEqDiff, Nat.reduceAdd, Nat.reduceLeDiff, reduceCtorEq, and_true, true_and, false_and, and_false, true_or, or_true, or_false, false_or, true_implies, false_implies, implies_true, not_true_eq_false, not_false_eq_true, eq_self, fx_s, ↓run_s, run_0, ↓rs_n, ↓rs_c, as_s, ls_n, ls_c, lc_s, lget_c, fX1_follow_0, ↓ex_aload_n, ↓xR_r, ↓xRg_c, fX1_follow_1, ↓ex_iload_n, ↓xI_i, ↓xIg_c, fX1_follow_2, ↓ex_invokevirtual, ↓xc_0, ↓xc_s, ↓xc_1, ↓pk_s, ↓k_s, ↓k_n, catS_n, catS_c, rOk_c, ct_i, ct_l, ct_r, ↓pk_f, fX1_follow_5, ↓ex_iconst, fX1_follow_6, ↓ex_istore, ↓s1I_c, ↓lsto_e, ↓lrmK_n, ↓lrmK_f, fX1_follow_8, ↓ex_iload, fX1_follow_10, ↓ex_bipush, fX1_follow_12, ↓ex_if_icmp_ge, ↓s2I_c, fX1_follow_15, fX1_follow_16, fX1_follow_18, fX1_follow_20, fX1_follow_21, ↓ex_getfield, ↓s1R_c, ↓fv_0_4, fX1_follow_24, fX1_follow_27, fX1_follow_28, ↓fv_0_1, fX1_follow_31, fX1_follow_33, ↓ex_iaload, ↓sRI_c, ↓scrR_n, fX1_follow_34, fX1_follow_36, fX1_follow_37, fX1_follow_39, ↓ex_ishr, fX1_follow_40, fX1_follow_41, ↓ex_iand, fX1_follow_42, fX1_follow_43, ↓ex_if_icmp_ne, fX1_follow_46, fX1_follow_47, fX1_follow_48, fX1_follow_50, fX1_follow_53, ↓ex_goto, fX1_follow_56, fX1_follow_58, fX1_follow_60, fX1_follow_62, ↓ex_invokestatic, ↓pk_t, fX1_follow_65, ↓ex_ifCond_eq, fX1_follow_68, fX1_follow_70, fX1_follow_71, ↓fv_1_0, fX1_follow_74, fX1_follow_76, fX1_follow_77, fX1_follow_80, fX1_follow_81, fX1_follow_84, fX1_follow_86, fX1_follow_88, ↓ex_iastore, ↓sRII_c, fX1_follow_89, ↓ex_iinc, fX1_follow_92, fX1_follow_95, fX1_follow_98, fX1_follow_101, ↓ex_return_, ↓rt_v, add1N]
        refine hout Y hF ?_
        rw [show s.n = i by omega]; exact hT
      | succ k ih =>
        intro i Y hi hF hT
        obtain ⟨y1, y2, y3, y4, y5⟩ := fS Y hF
        obtain ⟨e1, e2, e3, e4⟩ := y2 i (by omega)
        obtain ⟨f1, f2, f3, f4, f5⟩ := w2 i (by omega)
        obtain ⟨g1, g2⟩ := hT (s.T i) f2
        refine go hR [(8, [0, 1, 3, 4]), (18, [0, 1, 3, 4, 5])] 3 ?_
        simp only [↓reduceIte, Nat.reduceEqDiff, Nat.reduceAdd, Nat.reduceLeDiff, reduceCtorEq, and_true, true_and, false_and, and_false, true_or, or_true, or_false, false_or, true_implies, false_implies, implies_true, not_true_eq_false, not_false_eq_true, eq_self, fx_s, ↓run_s, run_0, ↓rs_n, ↓rs_c, as_s, ls_n, ls_c, lc_s, lget_c, fX1_follow_0, ↓ex_aload_n, ↓xR_r, ↓xRg_c, fX1_follow_1, ↓ex_iload_n, ↓xI_i, ↓xIg_c, fX1_follow_2, ↓ex_invokevirtual, ↓xc_0, ↓xc_s, ↓xc_1, ↓pk_s, ↓k_s, ↓k_n, catS_n, catS_c, rOk_c, ct_i, ct_l, ct_r, ↓pk_f, fX1_follow_5, ↓ex_iconst, fX1_follow_6, ↓ex_istore, ↓s1I_c, ↓lsto_e, ↓lrmK_n, ↓lrmK_f, fX1_follow_8, ↓ex_iload, fX1_follow_10, ↓ex_bipush, fX1_follow_12, ↓ex_if_icmp_ge, ↓s2I_c, fX1_follow_15, fX1_follow_16, fX1_follow_18, fX1_follow_20, fX1_follow_21, ↓ex_getfield, ↓s1R_c, ↓fv_0_4, fX1_follow_24, fX1_follow_27, fX1_follow_28, ↓fv_0_1, fX1_follow_31, fX1_follow_33, ↓ex_iaload, ↓sRI_c, ↓scrR_n, fX1_follow_34, fX1_follow_36, fX1_follow_37, fX1_follow_39, ↓ex_ishr, fX1_follow_40, fX1_follow_41, ↓ex_iand, fX1_follow_42, fX1_follow_43, ↓ex_if_icmp_ne, fX1_follow_46, fX1_follow_47, fX1_follow_48, fX1_follow_50, fX1_follow_53, ↓ex_goto, fX1_follow_56, fX1_follow_58, fX1_follow_60, fX1_follow_62, ↓ex_invokestatic, ↓pk_t, fX1_follow_65, ↓ex_ifCond_eq, fX1_follow_68, fX1_follow_70, fX1_follow_71, ↓fv_1_0, fX1_follow_74, fX1_follow_76, fX1_follow_77, fX1_follow_80, fX1_follow_81, fX1_follow_84, fX1_follow_86, fX1_follow_88, ↓ex_iastore, ↓sRII_c, fX1_follow_89, ↓ex_iinc, fX1_follow_92, fX1_follow_95, fX1_follow_98, fX1_follow_101, ↓ex_return_, ↓rt_v, p1, q1, y1, leN (a := s.n) (b := i) (by omega) (by omega)]
        refine ⟨fun z => absurd z (by omega), fun _ => ?_⟩
        refine go hR [(8, [0, 1, 3, 4]), (18, [0, 1, 3, 4, 5])] 60 ?_
        simp only [↓reduceIte, Nat.reduceEqDiff, Nat.reduceAdd, Nat.reduceLeDiff, reduceCtorEq, and_true, true_and, false_and, and_false, true_or, or_true, or_false, false_or, true_implies, false_implies, implies_true, not_true_eq_false, not_false_eq_true, eq_self, fx_s, ↓run_s, run_0, ↓rs_n, ↓rs_c, as_s, ls_n, ls_c, lc_s, lget_c, fX1_follow_0, ↓ex_aload_n, ↓xR_r, ↓xRg_c, fX1_follow_1, ↓ex_iload_n, ↓xI_i, ↓xIg_c, fX1_follow_2, ↓ex_invokevirtual, ↓xc_0, ↓xc_s, ↓xc_1, ↓pk_s, ↓k_s, ↓k_n, catS_n, catS_c, rOk_c, ct_i, ct_l, ct_r, ↓pk_f, fX1_follow_5, ↓ex_iconst, fX1_follow_6, ↓ex_istore, ↓s1I_c, ↓lsto_e, ↓lrmK_n, ↓lrmK_f, fX1_follow_8, ↓ex_iload, fX1_follow_10, ↓ex_bipush, fX1_follow_12, ↓ex_if_icmp_ge, ↓s2I_c, fX1_follow_15, fX1_follow_16, fX1_follow_18, fX1_follow_20, fX1_follow_21, ↓ex_getfield, ↓s1R_c, ↓fv_0_4, fX1_follow_24, fX1_follow_27, fX1_follow_28, ↓fv_0_1, fX1_follow_31, fX1_follow_33, ↓ex_iaload, ↓sRI_c, ↓scrR_n, fX1_follow_34, fX1_follow_36, fX1_follow_37, fX1_follow_39, ↓ex_ishr, fX1_follow_40, fX1_follow_41, ↓ex_iand, fX1_follow_42, fX1_follow_43, ↓ex_if_icmp_ne, fX1_follow_46, fX1_follow_47, fX1_follow_48, fX1_follow_50, fX1_follow_53, ↓ex_goto, fX1_follow_56, fX1_follow_58, fX1_follow_60, fX1_follow_62, ↓ex_invokestatic, ↓pk_t, fX1_follow_65, ↓ex_ifCond_eq, fX1_follow_68, fX1_follow_70, fX1_follow_71, ↓fv_1_0, fX1_follow_74, fX1_follow_76, fX1_follow_77, fX1_follow_80, fX1_follow_81, fX1_follow_84, fX1_follow_86, fX1_follow_88, ↓ex_iastore, ↓sRII_c, fX1_follow_89, ↓ex_iinc, fX1_follow_92, fX1_follow_95, fX1_follow_98, fX1_follow_101, ↓ex_return_, ↓rt_v, p1, p3, p8, p9, q1, q3, q8, q9, clampN (n := i) (by omega), e2, bit1 (m := om) (e := i) (by omega) (by omega), ↓C_X3_isNode, ↓C_X1_arrivalBy, b2i_0, inR_n f2, clampN (n := s.T i) (by omega), g1, add1N, ↓reduceIte, not_true_eq_false, not_false_eq_true, false_implies, true_implies, implies_true, and_true, true_and, and_false, false_and, or_true, true_or, or_false, false_or, Classical.not_not, ite_true, ite_false]
        have hv1 : vp_in (nI i) 12 := vp_inN (by omega) (by omega)
        have hv2 : vp_in (nI (s.T i)) 8 := vp_inN (by omega) f2
        have hal := arr_le w3 (rnd s om tt i) i
        have next : ∀ a : Nat, a = (if om.testBit i = true then arr s (rnd s om tt i) i else 31) → a ≤ 31 → ((vp_in (nI (s.T i)) 8 ∧ (nI ((rnd s om tt i) (s.T i)) ≤ nI a → R 18 [(0, .ref 8), (1, .ref 1), (3, .int (nI om)), (4, .int (nI r)), (5, .int (nI (i + 1)))] [] Y) ∧ (¬ nI ((rnd s om tt i) (s.T i)) ≤ nI a → vp_in (nI (s.T i)) 8 ∧ R 18 [(0, .ref 8), (1, .ref 1), (3, .int (nI om)), (4, .int (nI r)), (5, .int (nI (i + 1)))] [] (sI Y 9 (s.T i) (nI a))))) := by
          intro a ha ha31
          refine ⟨hv2, fun z => ih (i + 1) Y (by omega) hF ?_, fun z => ⟨hv2, ih (i + 1) _ (by omega) (Fr.pI (P := fun k => k = 9) hF rfl _ _) ?_⟩⟩
          · have z' := (leN (by omega) (by omega)).mp z
            show TM Y (relax s om (rnd s om tt i) i)
            unfold relax
            rw [if_neg]
            · exact hT
            · rintro ⟨y1, y2⟩
              rw [if_pos y1] at ha
              omega
          · have z' : ¬ _ := fun y => z ((leN (by omega) (by omega)).mpr y)
            show TM _ (relax s om (rnd s om tt i) i)
            unfold relax
            have hb : om.testBit i = true := by
              cases h : om.testBit i with
              | true => rfl
              | false =>
                rw [h, if_neg (by decide)] at ha
                omega
            rw [if_pos hb] at ha
            rw [if_pos ⟨hb, by omega⟩]
            intro v hv
            rw [updN_a]
            by_cases e : v = s.T i
            · rw [if_pos e, ← ha]
              exact ⟨by simp [sI_1, upd_a, e], ha31⟩
            · rw [if_neg e]
              obtain ⟨h1, h2⟩ := hT v hv
              exact ⟨by simp [sI_1, upd_a, e, h1], h2⟩
        refine ⟨hv1, fun z => ?_, fun z => ⟨s, rnd s om tt i, i, ⟨fS Y hF, hW, hT, rfl, by omega⟩, ?_⟩⟩
        · exact next 31 (by rw [if_neg z]) (by omega)
        · exact next (arr s (rnd s om tt i) i) (by rw [if_pos z]) hal
    have outer : ∀ k r Y, r + k = 8 → 1 ≤ r → Fr (fun k => k = 9) X Y → TM Y (folR s m om (r - 1)) → R 8 [(0, .ref 8), (1, .ref 1), (3, .int (nI om)), (4, .int (nI r))] [] Y := by
      intro k
      induction k with
      | zero =>
        intro r Y hr h1 hF hT
        refine go hR [(8, [0, 1, 3, 4]), (18, [0, 1, 3, 4, 5])] 2 ?_
        simp only [↓reduceIte, Nat.reduceEqDiff, Nat.reduceAdd, Nat.reduceLeDiff, reduceCtorEq, and_true, true_and, false_and, and_false, true_or, or_true, or_false, false_or, true_implies, false_implies, implies_true, not_true_eq_false, not_false_eq_true, eq_self, fx_s, ↓run_s, run_0, ↓rs_n, ↓rs_c, as_s, ls_n, ls_c, lc_s, lget_c, fX1_follow_0, ↓ex_aload_n, ↓xR_r, ↓xRg_c, fX1_follow_1, ↓ex_iload_n, ↓xI_i, ↓xIg_c, fX1_follow_2, ↓ex_invokevirtual, ↓xc_0, ↓xc_s, ↓xc_1, ↓pk_s, ↓k_s, ↓k_n, catS_n, catS_c, rOk_c, ct_i, ct_l, ct_r, ↓pk_f, fX1_follow_5, ↓ex_iconst, fX1_follow_6, ↓ex_istore, ↓s1I_c, ↓lsto_e, ↓lrmK_n, ↓lrmK_f, fX1_follow_8, ↓ex_iload, fX1_follow_10, ↓ex_bipush, fX1_follow_12, ↓ex_if_icmp_ge, ↓s2I_c, fX1_follow_15, fX1_follow_16, fX1_follow_18, fX1_follow_20, fX1_follow_21, ↓ex_getfield, ↓s1R_c, ↓fv_0_4, fX1_follow_24, fX1_follow_27, fX1_follow_28, ↓fv_0_1, fX1_follow_31, fX1_follow_33, ↓ex_iaload, ↓sRI_c, ↓scrR_n, fX1_follow_34, fX1_follow_36, fX1_follow_37, fX1_follow_39, ↓ex_ishr, fX1_follow_40, fX1_follow_41, ↓ex_iand, fX1_follow_42, fX1_follow_43, ↓ex_if_icmp_ne, fX1_follow_46, fX1_follow_47, fX1_follow_48, fX1_follow_50, fX1_follow_53, ↓ex_goto, fX1_follow_56, fX1_follow_58, fX1_follow_60, fX1_follow_62, ↓ex_invokestatic, ↓pk_t, fX1_follow_65, ↓ex_ifCond_eq, fX1_follow_68, fX1_follow_70, fX1_follow_71, ↓fv_1_0, fX1_follow_74, fX1_follow_76, fX1_follow_77, fX1_follow_80, fX1_follow_81, fX1_follow_84, fX1_follow_86, fX1_follow_88, ↓ex_iastore, ↓sRII_c, fX1_follow_89, ↓ex_iinc, fX1_follow_92, fX1_follow_95, fX1_follow_98, fX1_follow_101, ↓ex_return_, ↓rt_v, leI, nI_toInt (n := r) (by omega), tI_m5, tI_m4, tI_m3, tI_m2, tI_m1, tI_0, tI_1, tI_2, tI_3, tI_4, tI_5, tI_7, tI_8, tI_10, tI_12, tI_30, tI_31, tI_32, tI_47, tI_48, tI_57, tI_59, tI_42, tI_43, tI_45, tI_61, tI_62, tI_100, tI_120, tI_255, tI_1000]
        refine ⟨fun _ => ?_, fun z => absurd (by omega) z⟩
        refine go hR [] 2 ?_
        simp only [↓reduceIte, Nat.reduceEqDiff, Nat.reduceAdd, Nat.reduceLeDiff, reduceCtorEq, and_true, true_and, false_and, and_false, true_or, or_true, or_false, false_or, true_implies, false_implies, implies_true, not_true_eq_false, not_false_eq_true, eq_self, fx_s, ↓run_s, run_0, ↓rs_n, ↓rs_c, as_s, ls_n, ls_c, lc_s, lget_c, fX1_follow_0, ↓ex_aload_n, ↓xR_r, ↓xRg_c, fX1_follow_1, ↓ex_iload_n, ↓xI_i, ↓xIg_c, fX1_follow_2, ↓ex_invokevirtual, ↓xc_0, ↓xc_s, ↓xc_1, ↓pk_s, ↓k_s, ↓k_n, catS_n, catS_c, rOk_c, ct_i, ct_l, ct_r, ↓pk_f, fX1_follow_5, ↓ex_iconst, fX1_follow_6, ↓ex_istore, ↓s1I_c, ↓lsto_e, ↓lrmK_n, ↓lrmK_f, fX1_follow_8, ↓ex_iload, fX1_follow_10, ↓ex_bipush, fX1_follow_12, ↓ex_if_icmp_ge, ↓s2I_c, fX1_follow_15, fX1_follow_16, fX1_follow_18, fX1_follow_20, fX1_follow_21, ↓ex_getfield, ↓s1R_c, ↓fv_0_4, fX1_follow_24, fX1_follow_27, fX1_follow_28, ↓fv_0_1, fX1_follow_31, fX1_follow_33, ↓ex_iaload, ↓sRI_c, ↓scrR_n, fX1_follow_34, fX1_follow_36, fX1_follow_37, fX1_follow_39, ↓ex_ishr, fX1_follow_40, fX1_follow_41, ↓ex_iand, fX1_follow_42, fX1_follow_43, ↓ex_if_icmp_ne, fX1_follow_46, fX1_follow_47, fX1_follow_48, fX1_follow_50, fX1_follow_53, ↓ex_goto, fX1_follow_56, fX1_follow_58, fX1_follow_60, fX1_follow_62, ↓ex_invokestatic, ↓pk_t, fX1_follow_65, ↓ex_ifCond_eq, fX1_follow_68, fX1_follow_70, fX1_follow_71, ↓fv_1_0, fX1_follow_74, fX1_follow_76, fX1_follow_77, fX1_follow_80, fX1_follow_81, fX1_follow_84, fX1_follow_86, fX1_follow_88, ↓ex_iastore, ↓sRII_c, fX1_follow_89, ↓ex_iinc, fX1_follow_92, fX1_follow_95, fX1_follow_98, fX1_follow_101, ↓ex_return_, ↓rt_v]
        refine hpost Y hF ?_
        have e : r - 1 = 7 := by omega
        rw [e] at hT
        exact hT
      | succ k ih =>
        intro r Y hr h1 hF hT
        refine go hR [(8, [0, 1, 3, 4]), (18, [0, 1, 3, 4, 5])] 2 ?_
        simp only [↓reduceIte, Nat.reduceEqDiff, Nat.reduceAdd, Nat.reduceLeDiff, reduceCtorEq, and_true, true_and, false_and, and_false, true_or, or_true, or_false, false_or, true_implies, false_implies, implies_true, not_true_eq_false, not_false_eq_true, eq_self, fx_s, ↓run_s, run_0, ↓rs_n, ↓rs_c, as_s, ls_n, ls_c, lc_s, lget_c, fX1_follow_0, ↓ex_aload_n, ↓xR_r, ↓xRg_c, fX1_follow_1, ↓ex_iload_n, ↓xI_i, ↓xIg_c, fX1_follow_2, ↓ex_invokevirtual, ↓xc_0, ↓xc_s, ↓xc_1, ↓pk_s, ↓k_s, ↓k_n, catS_n, catS_c, rOk_c, ct_i, ct_l, ct_r, ↓pk_f, fX1_follow_5, ↓ex_iconst, fX1_follow_6, ↓ex_istore, ↓s1I_c, ↓lsto_e, ↓lrmK_n, ↓lrmK_f, fX1_follow_8, ↓ex_iload, fX1_follow_10, ↓ex_bipush, fX1_follow_12, ↓ex_if_icmp_ge, ↓s2I_c, fX1_follow_15, fX1_follow_16, fX1_follow_18, fX1_follow_20, fX1_follow_21, ↓ex_getfield, ↓s1R_c, ↓fv_0_4, fX1_follow_24, fX1_follow_27, fX1_follow_28, ↓fv_0_1, fX1_follow_31, fX1_follow_33, ↓ex_iaload, ↓sRI_c, ↓scrR_n, fX1_follow_34, fX1_follow_36, fX1_follow_37, fX1_follow_39, ↓ex_ishr, fX1_follow_40, fX1_follow_41, ↓ex_iand, fX1_follow_42, fX1_follow_43, ↓ex_if_icmp_ne, fX1_follow_46, fX1_follow_47, fX1_follow_48, fX1_follow_50, fX1_follow_53, ↓ex_goto, fX1_follow_56, fX1_follow_58, fX1_follow_60, fX1_follow_62, ↓ex_invokestatic, ↓pk_t, fX1_follow_65, ↓ex_ifCond_eq, fX1_follow_68, fX1_follow_70, fX1_follow_71, ↓fv_1_0, fX1_follow_74, fX1_follow_76, fX1_follow_77, fX1_follow_80, fX1_follow_81, fX1_follow_84, fX1_follow_86, fX1_follow_88, ↓ex_iastore, ↓sRII_c, fX1_follow_89, ↓ex_iinc, fX1_follow_92, fX1_follow_95, fX1_follow_98, fX1_follow_101, ↓ex_return_, ↓rt_v, leI, nI_toInt (n := r) (by omega), tI_m5, tI_m4, tI_m3, tI_m2, tI_m1, tI_0, tI_1, tI_2, tI_3, tI_4, tI_5, tI_7, tI_8, tI_10, tI_12, tI_30, tI_31, tI_32, tI_47, tI_48, tI_57, tI_59, tI_42, tI_43, tI_45, tI_61, tI_62, tI_100, tI_120, tI_255, tI_1000]
        refine ⟨fun z => absurd z (by omega), fun _ => ?_⟩
        refine go hR [(8, [0, 1, 3, 4]), (18, [0, 1, 3, 4, 5])] 4 ?_
        simp only [↓reduceIte, Nat.reduceEqDiff, Nat.reduceAdd, Nat.reduceLeDiff, reduceCtorEq, and_true, true_and, false_and, and_false, true_or, or_true, or_false, false_or, true_implies, false_implies, implies_true, not_true_eq_false, not_false_eq_true, eq_self, fx_s, ↓run_s, run_0, ↓rs_n, ↓rs_c, as_s, ls_n, ls_c, lc_s, lget_c, fX1_follow_0, ↓ex_aload_n, ↓xR_r, ↓xRg_c, fX1_follow_1, ↓ex_iload_n, ↓xI_i, ↓xIg_c, fX1_follow_2, ↓ex_invokevirtual, ↓xc_0, ↓xc_s, ↓xc_1, ↓pk_s, ↓k_s, ↓k_n, catS_n, catS_c, rOk_c, ct_i, ct_l, ct_r, ↓pk_f, fX1_follow_5, ↓ex_iconst, fX1_follow_6, ↓ex_istore, ↓s1I_c, ↓lsto_e, ↓lrmK_n, ↓lrmK_f, fX1_follow_8, ↓ex_iload, fX1_follow_10, ↓ex_bipush, fX1_follow_12, ↓ex_if_icmp_ge, ↓s2I_c, fX1_follow_15, fX1_follow_16, fX1_follow_18, fX1_follow_20, fX1_follow_21, ↓ex_getfield, ↓s1R_c, ↓fv_0_4, fX1_follow_24, fX1_follow_27, fX1_follow_28, ↓fv_0_1, fX1_follow_31, fX1_follow_33, ↓ex_iaload, ↓sRI_c, ↓scrR_n, fX1_follow_34, fX1_follow_36, fX1_follow_37, fX1_follow_39, ↓ex_ishr, fX1_follow_40, fX1_follow_41, ↓ex_iand, fX1_follow_42, fX1_follow_43, ↓ex_if_icmp_ne, fX1_follow_46, fX1_follow_47, fX1_follow_48, fX1_follow_50, fX1_follow_53, ↓ex_goto, fX1_follow_56, fX1_follow_58, fX1_follow_60, fX1_follow_62, ↓ex_invokestatic, ↓pk_t, fX1_follow_65, ↓ex_ifCond_eq, fX1_follow_68, fX1_follow_70, fX1_follow_71, ↓fv_1_0, fX1_follow_74, fX1_follow_76, fX1_follow_77, fX1_follow_80, fX1_follow_81, fX1_follow_84, fX1_follow_86, fX1_follow_88, ↓ex_iastore, ↓sRII_c, fX1_follow_89, ↓ex_iinc, fX1_follow_92, fX1_follow_95, fX1_follow_98, fX1_follow_101, ↓ex_return_, ↓rt_v]
        refine (inner r (folR s m om (r - 1)) (by omega) (fun Z hZ hTZ => ih (r + 1) Z (by omega) (by omega) hZ ?_) s.n 0 Y (by omega) hF hT)
        have e : r + 1 - 1 = (r - 1) + 1 := by omega
        rw [e]
        exact hTZ
    refine go hR [(8, [0, 1, 3, 4])] 60 ?_
    simp only [lv_args, ↓reduceIte, Nat.reduceEqDiff, Nat.reduceAdd, Nat.reduceLeDiff, reduceCtorEq, and_true, true_and, false_and, and_false, true_or, or_true, or_false, false_or, true_implies, false_implies, implies_true, not_true_eq_false, not_false_eq_true, eq_self, fx_s, ↓run_s, run_0, ↓rs_n, ↓rs_c, as_s, ls_n, ls_c, lc_s, lget_c, fX1_follow_0, ↓ex_aload_n, ↓xR_r, ↓xRg_c, fX1_follow_1, ↓ex_iload_n, ↓xI_i, ↓xIg_c, fX1_follow_2, ↓ex_invokevirtual, ↓xc_0, ↓xc_s, ↓xc_1, ↓pk_s, ↓k_s, ↓k_n, catS_n, catS_c, rOk_c, ct_i, ct_l, ct_r, ↓pk_f, fX1_follow_5, ↓ex_iconst, fX1_follow_6, ↓ex_istore, ↓s1I_c, ↓lsto_e, ↓lrmK_n, ↓lrmK_f, fX1_follow_8, ↓ex_iload, fX1_follow_10, ↓ex_bipush, fX1_follow_12, ↓ex_if_icmp_ge, ↓s2I_c, fX1_follow_15, fX1_follow_16, fX1_follow_18, fX1_follow_20, fX1_follow_21, ↓ex_getfield, ↓s1R_c, ↓fv_0_4, fX1_follow_24, fX1_follow_27, fX1_follow_28, ↓fv_0_1, fX1_follow_31, fX1_follow_33, ↓ex_iaload, ↓sRI_c, ↓scrR_n, fX1_follow_34, fX1_follow_36, fX1_follow_37, fX1_follow_39, ↓ex_ishr, fX1_follow_40, fX1_follow_41, ↓ex_iand, fX1_follow_42, fX1_follow_43, ↓ex_if_icmp_ne, fX1_follow_46, fX1_follow_47, fX1_follow_48, fX1_follow_50, fX1_follow_53, ↓ex_goto, fX1_follow_56, fX1_follow_58, fX1_follow_60, fX1_follow_62, ↓ex_invokestatic, ↓pk_t, fX1_follow_65, ↓ex_ifCond_eq, fX1_follow_68, fX1_follow_70, fX1_follow_71, ↓fv_1_0, fX1_follow_74, fX1_follow_76, fX1_follow_77, fX1_follow_80, fX1_follow_81, fX1_follow_84, fX1_follow_86, fX1_follow_88, ↓ex_iastore, ↓sRII_c, fX1_follow_89, ↓ex_iinc, fX1_follow_92, fX1_follow_95, fX1_follow_98, fX1_follow_101, ↓ex_return_, ↓rt_v, p8, q8, ↓C_X1_begin, ↓reduceIte, not_true_eq_false, not_false_eq_true, false_implies, true_implies, implies_true, and_true, true_and, and_false, false_and, or_true, true_or, or_false, false_or, Classical.not_not, ite_true, ite_false]
    exact ⟨m, ⟨rfl, hm⟩, fun Y hF hT => outer 7 1 Y (by omega) (by omega) hF hT⟩
  next => exact hC.elim)
/-- can the times still become as wanted, where those yet to change will not lie before nx? -/
def canN (w t : Nat → Nat) (nx : Nat) : Prop := ∀ v, v < 8 → w v = 100 ∨ ¬ (t v < w v ∨ (w v < t v ∧ w v < nx))
noncomputable def C_X1_canBeAsWanted : CT := fun As X K => match As with
  | [.ref b, .int x] => ∃ (w t : Nat → Nat) (nx : Nat), (b = 8 ∧ WN X w ∧ TM X t ∧ x = nI nx ∧ nx ≤ 31) ∧ K (some (.int (b2i (canN w t nx)))) X
  | _ => False
set_option maxRecDepth 20000 in
set_option maxHeartbeats 4000000 in
theorem d_X1_canBeAsWanted (l : Launch) : Does l yX1_canBeAsWanted (wY yX1_canBeAsWanted cX1_canBeAsWanted 5 (retT 1)) (rmF 0) C_X1_canBeAsWanted := does_of (rt := 1) (by decide +kernel) tkX1_canBeAsWanted (calls := []) (fun _ h => absurd h List.not_mem_nil) (by
  intro As X post hC
  unfold C_X1_canBeAsWanted at hC
  split at hC
  next b x =>
    obtain ⟨w, t, nx, ⟨rfl, hw, ht, rfl, hn⟩, hC⟩ := hC
    refine ⟨Nat.le_of_ble_eq_true rfl, fun R hR => ?_⟩
    obtain ⟨⟨p8, p9, p10, p11⟩, q8, q9, q10, q11⟩ := sh_sp
    have f0 : ¬ canN w t nx → post (some (.int 0)) X := fun h => by rw [b2i_f h] at hC; exact hC
    have f1 : canN w t nx → post (some (.int 1)) X := fun h => by rw [b2i_t h] at hC; exact hC
    have key : ∀ k i, i + k = 8 → (∀ v, v < i → w v = 100 ∨ ¬ (t v < w v ∨ (w v < t v ∧ w v < nx))) → R 2 [(0, .ref 8), (1, .int (nI nx)), (2, .int (nI i))] [] X := by
      intro k
      induction k with
      | zero =>
        intro i hi hV
        refine go hR [(2, [0, 1, 2])] 2 ?_
        simp only [↓reduceIte, Nat.reduceEqDiff, Nat.reduceAdd, Nat.reduceLeDiff, reduceCtorEq, and_true, true_and, false_and, and_false, true_or, or_true, or_false, false_or, true_implies, false_implies, implies_true, not_true_eq_false, not_false_eq_true, eq_self, fx_s, ↓run_s, run_0, ↓rs_n, ↓rs_c, as_s, ls_n, ls_c, lc_s, lget_c, fX1_canBeAsWanted_0, ↓ex_iconst, fX1_canBeAsWanted_1, ↓ex_istore_n, ↓s1I_c, ↓lsto_e, ↓lrmK_n, ↓lrmK_f, ct_i, ct_l, ct_r, fX1_canBeAsWanted_2, ↓ex_iload_n, ↓xI_i, ↓xIg_c, fX1_canBeAsWanted_3, ↓ex_bipush, fX1_canBeAsWanted_5, ↓ex_if_icmp_ge, ↓s2I_c, fX1_canBeAsWanted_8, ↓ex_aload_n, ↓xR_r, ↓xRg_c, fX1_canBeAsWanted_9, ↓ex_getfield, ↓s1R_c, ↓fv_1_1, fX1_canBeAsWanted_12, fX1_canBeAsWanted_13, ↓ex_iaload, ↓sRI_c, ↓scrR_n, fX1_canBeAsWanted_14, fX1_canBeAsWanted_15, fX1_canBeAsWanted_16, fX1_canBeAsWanted_18, ↓ex_if_icmp_ne, fX1_canBeAsWanted_21, ↓ex_goto, fX1_canBeAsWanted_24, fX1_canBeAsWanted_25, ↓fv_1_0, fX1_canBeAsWanted_28, fX1_canBeAsWanted_29, fX1_canBeAsWanted_30, ↓ex_istore, fX1_canBeAsWanted_32, ↓ex_iload, fX1_canBeAsWanted_34, fX1_canBeAsWanted_35, ↓ex_if_icmp_lt, fX1_canBeAsWanted_38, fX1_canBeAsWanted_40, fX1_canBeAsWanted_41, ↓ex_if_icmp_le, fX1_canBeAsWanted_44, fX1_canBeAsWanted_45, fX1_canBeAsWanted_46, fX1_canBeAsWanted_49, fX1_canBeAsWanted_50, ↓ex_ireturn, ↓rt_i, fX1_canBeAsWanted_51, ↓ex_iinc, fX1_canBeAsWanted_54, fX1_canBeAsWanted_57, fX1_canBeAsWanted_58, leI, nI_toInt (n := i) (by omega), tI_m5, tI_m4, tI_m3, tI_m2, tI_m1, tI_0, tI_1, tI_2, tI_3, tI_4, tI_5, tI_7, tI_8, tI_10, tI_12, tI_30, tI_31, tI_32, tI_47, tI_48, tI_57, tI_59, tI_42, tI_43, tI_45, tI_61, tI_62, tI_100, tI_120, tI_255, tI_1000]
        refine ⟨fun _ => ?_, fun z => absurd (by omega) z⟩
        refine go hR [] 3 ?_
        simp only [↓reduceIte, Nat.reduceEqDiff, Nat.reduceAdd, Nat.reduceLeDiff, reduceCtorEq, and_true, true_and, false_and, and_false, true_or, or_true, or_false, false_or, true_implies, false_implies, implies_true, not_true_eq_false, not_false_eq_true, eq_self, fx_s, ↓run_s, run_0, ↓rs_n, ↓rs_c, as_s, ls_n, ls_c, lc_s, lget_c, fX1_canBeAsWanted_0, ↓ex_iconst, fX1_canBeAsWanted_1, ↓ex_istore_n, ↓s1I_c, ↓lsto_e, ↓lrmK_n, ↓lrmK_f, ct_i, ct_l, ct_r, fX1_canBeAsWanted_2, ↓ex_iload_n, ↓xI_i, ↓xIg_c, fX1_canBeAsWanted_3, ↓ex_bipush, fX1_canBeAsWanted_5, ↓ex_if_icmp_ge, ↓s2I_c, fX1_canBeAsWanted_8, ↓ex_aload_n, ↓xR_r, ↓xRg_c, fX1_canBeAsWanted_9, ↓ex_getfield, ↓s1R_c, ↓fv_1_1, fX1_canBeAsWanted_12, fX1_canBeAsWanted_13, ↓ex_iaload, ↓sRI_c, ↓scrR_n, fX1_canBeAsWanted_14, fX1_canBeAsWanted_15, fX1_canBeAsWanted_16, fX1_canBeAsWanted_18, ↓ex_if_icmp_ne, fX1_canBeAsWanted_21, ↓ex_goto, fX1_canBeAsWanted_24, fX1_canBeAsWanted_25, ↓fv_1_0, fX1_canBeAsWanted_28, fX1_canBeAsWanted_29, fX1_canBeAsWanted_30, ↓ex_istore, fX1_canBeAsWanted_32, ↓ex_iload, fX1_canBeAsWanted_34, fX1_canBeAsWanted_35, ↓ex_if_icmp_lt, fX1_canBeAsWanted_38, fX1_canBeAsWanted_40, fX1_canBeAsWanted_41, ↓ex_if_icmp_le, fX1_canBeAsWanted_44, fX1_canBeAsWanted_45, fX1_canBeAsWanted_46, fX1_canBeAsWanted_49, fX1_canBeAsWanted_50, ↓ex_ireturn, ↓rt_i, fX1_canBeAsWanted_51, ↓ex_iinc, fX1_canBeAsWanted_54, fX1_canBeAsWanted_57, fX1_canBeAsWanted_58]
        exact ⟨bl_1, f1 (fun v hv => hV v (by omega))⟩
      | succ k ih =>
        intro i hi hV
        refine go hR [(2, [0, 1, 2])] 60 ?_
        obtain ⟨a1, a2⟩ := hw i (by omega)
        obtain ⟨b1, b2⟩ := ht i (by omega)
        simp only [↓reduceIte, Nat.reduceEqDiff, Nat.reduceAdd, Nat.reduceLeDiff, reduceCtorEq, and_true, true_and, false_and, and_false, true_or, or_true, or_false, false_or, true_implies, false_implies, implies_true, not_true_eq_false, not_false_eq_true, eq_self, fx_s, ↓run_s, run_0, ↓rs_n, ↓rs_c, as_s, ls_n, ls_c, lc_s, lget_c, fX1_canBeAsWanted_0, ↓ex_iconst, fX1_canBeAsWanted_1, ↓ex_istore_n, ↓s1I_c, ↓lsto_e, ↓lrmK_n, ↓lrmK_f, ct_i, ct_l, ct_r, fX1_canBeAsWanted_2, ↓ex_iload_n, ↓xI_i, ↓xIg_c, fX1_canBeAsWanted_3, ↓ex_bipush, fX1_canBeAsWanted_5, ↓ex_if_icmp_ge, ↓s2I_c, fX1_canBeAsWanted_8, ↓ex_aload_n, ↓xR_r, ↓xRg_c, fX1_canBeAsWanted_9, ↓ex_getfield, ↓s1R_c, ↓fv_1_1, fX1_canBeAsWanted_12, fX1_canBeAsWanted_13, ↓ex_iaload, ↓sRI_c, ↓scrR_n, fX1_canBeAsWanted_14, fX1_canBeAsWanted_15, fX1_canBeAsWanted_16, fX1_canBeAsWanted_18, ↓ex_if_icmp_ne, fX1_canBeAsWanted_21, ↓ex_goto, fX1_canBeAsWanted_24, fX1_canBeAsWanted_25, ↓fv_1_0, fX1_canBeAsWanted_28, fX1_canBeAsWanted_29, fX1_canBeAsWanted_30, ↓ex_istore, fX1_canBeAsWanted_32, ↓ex_iload, fX1_canBeAsWanted_34, fX1_canBeAsWanted_35, ↓ex_if_icmp_lt, fX1_canBeAsWanted_38, fX1_canBeAsWanted_40, fX1_canBeAsWanted_41, ↓ex_if_icmp_le, fX1_canBeAsWanted_44, fX1_canBeAsWanted_45, fX1_canBeAsWanted_46, fX1_canBeAsWanted_49, fX1_canBeAsWanted_50, ↓ex_ireturn, ↓rt_i, fX1_canBeAsWanted_51, ↓ex_iinc, fX1_canBeAsWanted_54, fX1_canBeAsWanted_57, fX1_canBeAsWanted_58, p8, p9, p10, q8, q9, q10, show (8 : Int32) = nI 8 from rfl, show (100 : Int32) = nI 100 from rfl, clampN (n := i) (by omega), add1N, a1, b1, leN (a := 8) (b := i) (by omega) (by omega), eqN (a := w i) (b := 100) (by omega) (by omega), ltN (a := t i) (b := w i) (by omega) (by omega), leN (a := t i) (b := w i) (by omega) (by omega), leN (a := nx) (b := w i) (by omega) (by omega)]
        have hv : vp_in (nI i) 8 := vp_inN (by omega) (by omega)
        have nxt : (w i = 100 ∨ ¬ (t i < w i ∨ (w i < t i ∧ w i < nx))) → R 2 [(0, .ref 8), (1, .int (nI nx)), (2, .int (nI (i + 1)))] [] X := fun h => ih (i + 1) (by omega) (fun v hv => by
          by_cases e : v = i
          · rw [e]; exact h
          · exact hV v (by omega))
        have bad : ¬ (w i = 100 ∨ ¬ (t i < w i ∨ (w i < t i ∧ w i < nx))) → post (some (.int 0)) X := fun h => f0 (fun z => h (z i (by omega)))
        have hb0 := bl_0
        refine ⟨fun z => absurd z (by omega), fun _ => ⟨hv, ?_⟩⟩
        repeat' (first | exact hv | apply And.intro | intro _)
        all_goals first | exact hb0 | exact nxt (by omega) | exact bad (by omega)
    refine go hR [(2, [0, 1, 2])] 60 ?_
    simp only [lv_args, ↓reduceIte, Nat.reduceEqDiff, Nat.reduceAdd, Nat.reduceLeDiff, reduceCtorEq, and_true, true_and, false_and, and_false, true_or, or_true, or_false, false_or, true_implies, false_implies, implies_true, not_true_eq_false, not_false_eq_true, eq_self, fx_s, ↓run_s, run_0, ↓rs_n, ↓rs_c, as_s, ls_n, ls_c, lc_s, lget_c, fX1_canBeAsWanted_0, ↓ex_iconst, fX1_canBeAsWanted_1, ↓ex_istore_n, ↓s1I_c, ↓lsto_e, ↓lrmK_n, ↓lrmK_f, ct_i, ct_l, ct_r, fX1_canBeAsWanted_2, ↓ex_iload_n, ↓xI_i, ↓xIg_c, fX1_canBeAsWanted_3, ↓ex_bipush, fX1_canBeAsWanted_5, ↓ex_if_icmp_ge, ↓s2I_c, fX1_canBeAsWanted_8, ↓ex_aload_n, ↓xR_r, ↓xRg_c, fX1_canBeAsWanted_9, ↓ex_getfield, ↓s1R_c, ↓fv_1_1, fX1_canBeAsWanted_12, fX1_canBeAsWanted_13, ↓ex_iaload, ↓sRI_c, ↓scrR_n, fX1_canBeAsWanted_14, fX1_canBeAsWanted_15, fX1_canBeAsWanted_16, fX1_canBeAsWanted_18, ↓ex_if_icmp_ne, fX1_canBeAsWanted_21, ↓ex_goto, fX1_canBeAsWanted_24, fX1_canBeAsWanted_25, ↓fv_1_0, fX1_canBeAsWanted_28, fX1_canBeAsWanted_29, fX1_canBeAsWanted_30, ↓ex_istore, fX1_canBeAsWanted_32, ↓ex_iload, fX1_canBeAsWanted_34, fX1_canBeAsWanted_35, ↓ex_if_icmp_lt, fX1_canBeAsWanted_38, fX1_canBeAsWanted_40, fX1_canBeAsWanted_41, ↓ex_if_icmp_le, fX1_canBeAsWanted_44, fX1_canBeAsWanted_45, fX1_canBeAsWanted_46, fX1_canBeAsWanted_49, fX1_canBeAsWanted_50, ↓ex_ireturn, ↓rt_i, fX1_canBeAsWanted_51, ↓ex_iinc, fX1_canBeAsWanted_54, fX1_canBeAsWanted_57, fX1_canBeAsWanted_58]
    exact key 8 0 (by omega) (fun v hv => absurd hv (by omega))
  next => exact hC.elim)
noncomputable def C_X1_isAsWanted : CT := fun As X K => match As with
  | [.ref b] => ∃ (w t : Nat → Nat), (b = 8 ∧ WN X w ∧ TM X t) ∧ K (some (.int (b2i (canN w t 31)))) X
  | _ => False
set_option maxRecDepth 20000 in
set_option maxHeartbeats 4000000 in
theorem d_X1_isAsWanted (l : Launch) : Does l yX1_isAsWanted (wY yX1_isAsWanted cX1_isAsWanted 1 (retT 1)) (rmF 1) C_X1_isAsWanted := does_of (rt := 1) (by decide +kernel) tkX1_isAsWanted (calls := [(75, false, 2, 1, C_X1_canBeAsWanted)]) (List.forall_mem_cons.mpr ⟨cr_V (d_X1_canBeAsWanted l) rfl (by decide +kernel) (by decide +kernel) ⟨rfl, rfl⟩ ⟨Nat.le_of_ble_eq_true rfl, Nat.le_of_ble_eq_true rfl⟩, fun _ h => absurd h List.not_mem_nil⟩) (by
  intro As X post hC
  unfold C_X1_isAsWanted at hC
  split at hC
  next b =>
    obtain ⟨w, t, ⟨rfl, hw, ht⟩, hC⟩ := hC
    refine ⟨Nat.le_of_ble_eq_true rfl, fun R hR => ?_⟩
    obtain ⟨⟨p8, p9, p10, p11⟩, q8, q9, q10, q11⟩ := sh_sp
    refine go hR [] 60 ?_
    simp only [lv_args, ↓reduceIte, Nat.reduceEqDiff, Nat.reduceAdd, Nat.reduceLeDiff, reduceCtorEq, and_true, true_and, false_and, and_false, true_or, or_true, or_false, false_or, true_implies, false_implies, implies_true, not_true_eq_false, not_false_eq_true, eq_self, fx_s, ↓run_s, run_0, ↓rs_n, ↓rs_c, as_s, ls_n, ls_c, lc_s, lget_c, fX1_isAsWanted_0, ↓ex_aload_n, ↓xR_r, ↓xRg_c, fX1_isAsWanted_1, ↓ex_bipush, fX1_isAsWanted_3, ↓ex_invokevirtual, ↓xc_0, ↓xc_s, ↓xc_1, ↓pk_s, ↓k_s, ↓k_n, catS_n, catS_c, rOk_c, ct_i, ct_l, ct_r, ↓pk_f, fX1_isAsWanted_6, ↓ex_ireturn, ↓rt_i, p8, q8, ↓C_X1_canBeAsWanted, ↓reduceIte, not_true_eq_false, not_false_eq_true, false_implies, true_implies, implies_true, and_true, true_and, and_false, false_and, or_true, true_or, or_false, false_or, Classical.not_not, ite_true, ite_false]
    exact ⟨w, t, 31, ⟨hw, ht, rfl, by omega⟩, bl_b2i _, hC⟩
  next => exact hC.elim)
end SPREAD2
end
section
section SPREAD3
/-- the edge by which a node that hasn't heard could hear it first, and when -/
def nxE (s : SV) (t : Nat → Nat) (d : Nat) : Nat → Option Nat × Nat
  | 0 => (none, 31)
  | k + 1 => if d.testBit k = false ∧ t (s.T k) = 31 ∧ arr s t k < (nxE s t d k).2 then (some k, arr s t k) else nxE s t d k
theorem nxE_le (s : SV) (t : Nat → Nat) (d : Nat) : ∀ k, (nxE s t d k).2 ≤ 31
  | 0 => Nat.le_refl _
  | k + 1 => by
    have h := nxE_le s t d k
    unfold nxE
    split
    next g => exact Nat.le_of_lt (Nat.lt_of_lt_of_le g.2.2 h)
    next => exact h
def C_X1_nextEdge : CT := fun As X K => match As with
  | [.ref b, .ref c, .int d] => ∃ (s : SV) (t : Nat → Nat) (dm : Nat), (b = 8 ∧ c = 1 ∧ RS X 1 s ∧ WE s ∧ TM X t ∧ d = nI dm ∧ dm < 4096) ∧ K (some (.int (oI (nxE s t dm s.n).1))) X
  | _ => False
set_option maxRecDepth 20000 in
set_option maxHeartbeats 4000000 in
theorem d_X1_nextEdge (l : Launch) : Does l yX1_nextEdge (wY yX1_nextEdge cX1_nextEdge 9 (retT 0)) (rmF 2) C_X1_nextEdge := does_of (rt := 0) (by decide +kernel) tkX1_nextEdge (calls := [(43, true, 1, 3, C_X3_isNode), (62, false, 3, 1, C_X1_arrivalBy)]) (List.forall_mem_cons.mpr ⟨cr_NS (d_X3_isNode l) (by decide +kernel) (by decide +kernel) (by decide +kernel) ⟨rfl, rfl⟩ ⟨Nat.le_of_ble_eq_true rfl, Nat.le_of_ble_eq_true rfl⟩, List.forall_mem_cons.mpr ⟨cr_V (d_X1_arrivalBy l) rfl (by decide +kernel) (by decide +kernel) ⟨rfl, rfl⟩ ⟨Nat.le_of_ble_eq_true rfl, Nat.le_of_ble_eq_true rfl⟩, fun _ h => absurd h List.not_mem_nil⟩⟩) (by
  intro As X post hC
  unfold C_X1_nextEdge at hC
  split at hC
  next b c d =>
    obtain ⟨s, t, dm, ⟨rfl, rfl, hRS, hW, ht, rfl, hd⟩, hC⟩ := hC
    obtain ⟨w1, w2, w3⟩ := id hW
    obtain ⟨d1, d2, d3, d4, d5⟩ := id hRS
    refine ⟨Nat.le_of_ble_eq_true rfl, fun R hR => ?_⟩
    obtain ⟨⟨p8, p9, p10, p11⟩, q8, q9, q10, q11⟩ := sh_sp
    obtain ⟨⟨p0, p1, p2, p3, p4, p5, p6⟩, q0, q1, q2, q3, q4, q5, q6⟩ := sh_base
    have key : ∀ k i, i + k = s.n → R 9 [(0, .ref 8), (1, .ref 1), (2, .int (nI dm)), (3, .int (oI (nxE s t dm i).1)), (4, .int (nI (nxE s t dm i).2)), (5, .int (nI i))] [] X := by
      intro k
      induction k with
      | zero =>
        intro i hi
        refine go hR [(9, [0, 1, 2, 3, 4, 5])] 3 ?_
        simp only [↓reduceIte, Nat.reduceEqDiff, Nat.reduceAdd, Nat.reduceLeDiff, reduceCtorEq, and_true, true_and, false_and, and_false, true_or, or_true, or_false, false_or, true_implies, false_implies, implies_true, not_true_eq_false, not_false_eq_true, eq_self, fx_s, ↓run_s, run_0, ↓rs_n, ↓rs_c, as_s, ls_n, ls_c, lc_s, lget_c, fX1_nextEdge_0, ↓ex_iconst, fX1_nextEdge_1, ↓ex_istore_n, ↓s1I_c, ↓lsto_e, ↓lrmK_n, ↓lrmK_f, ct_i, ct_l, ct_r, fX1_nextEdge_2, ↓ex_bipush, fX1_nextEdge_4, ↓ex_istore, fX1_nextEdge_6, fX1_nextEdge_7, fX1_nextEdge_9, ↓ex_iload, ↓xI_i, ↓xIg_c, fX1_nextEdge_11, ↓ex_aload_n, ↓xR_r, ↓xRg_c, fX1_nextEdge_12, ↓ex_getfield, ↓s1R_c, ↓fv_0_4, fX1_nextEdge_15, ↓ex_if_icmp_ge, ↓s2I_c, fX1_nextEdge_18, fX1_nextEdge_19, ↓fv_0_1, fX1_nextEdge_22, fX1_nextEdge_24, ↓ex_iaload, ↓sRI_c, ↓scrR_n, fX1_nextEdge_25, fX1_nextEdge_27, ↓ex_iload_n, fX1_nextEdge_28, fX1_nextEdge_30, ↓ex_ishr, fX1_nextEdge_31, fX1_nextEdge_32, ↓ex_iand, fX1_nextEdge_33, ↓ex_ifCond_ne, fX1_nextEdge_36, fX1_nextEdge_37, ↓ex_goto, fX1_nextEdge_40, fX1_nextEdge_41, fX1_nextEdge_43, fX1_nextEdge_45, ↓ex_ifCond_eq, fX1_nextEdge_48, fX1_nextEdge_50, ↓ex_invokestatic, ↓xc_0, ↓xc_s, ↓xc_1, ↓pk_s, ↓k_s, ↓k_n, catS_n, catS_c, rOk_c, ↓pk_t, fX1_nextEdge_53, fX1_nextEdge_56, fX1_nextEdge_57, ↓fv_1_0, fX1_nextEdge_60, fX1_nextEdge_62, fX1_nextEdge_63, fX1_nextEdge_65, ↓ex_if_icmp_eq, fX1_nextEdge_68, fX1_nextEdge_71, fX1_nextEdge_72, fX1_nextEdge_73, fX1_nextEdge_75, ↓ex_invokevirtual, ↓pk_f, fX1_nextEdge_78, fX1_nextEdge_80, fX1_nextEdge_82, fX1_nextEdge_84, fX1_nextEdge_87, fX1_nextEdge_89, fX1_nextEdge_91, fX1_nextEdge_93, fX1_nextEdge_94, ↓ex_iinc, fX1_nextEdge_97, fX1_nextEdge_100, fX1_nextEdge_101, ↓ex_ireturn, ↓rt_i, p1, q1, d1, leN (a := s.n) (b := i) (by omega) (by omega)]
        refine ⟨fun _ => ?_, fun z => absurd (by omega) z⟩
        rw [show i = s.n by omega]
        refine go hR [] 3 ?_
        simp only [↓reduceIte, Nat.reduceEqDiff, Nat.reduceAdd, Nat.reduceLeDiff, reduceCtorEq, and_true, true_and, false_and, and_false, true_or, or_true, or_false, false_or, true_implies, false_implies, implies_true, not_true_eq_false, not_false_eq_true, eq_self, fx_s, ↓run_s, run_0, ↓rs_n, ↓rs_c, as_s, ls_n, ls_c, lc_s, lget_c, fX1_nextEdge_0, ↓ex_iconst, fX1_nextEdge_1, ↓ex_istore_n, ↓s1I_c, ↓lsto_e, ↓lrmK_n, ↓lrmK_f, ct_i, ct_l, ct_r, fX1_nextEdge_2, ↓ex_bipush, fX1_nextEdge_4, ↓ex_istore, fX1_nextEdge_6, fX1_nextEdge_7, fX1_nextEdge_9, ↓ex_iload, ↓xI_i, ↓xIg_c, fX1_nextEdge_11, ↓ex_aload_n, ↓xR_r, ↓xRg_c, fX1_nextEdge_12, ↓ex_getfield, ↓s1R_c, ↓fv_0_4, fX1_nextEdge_15, ↓ex_if_icmp_ge, ↓s2I_c, fX1_nextEdge_18, fX1_nextEdge_19, ↓fv_0_1, fX1_nextEdge_22, fX1_nextEdge_24, ↓ex_iaload, ↓sRI_c, ↓scrR_n, fX1_nextEdge_25, fX1_nextEdge_27, ↓ex_iload_n, fX1_nextEdge_28, fX1_nextEdge_30, ↓ex_ishr, fX1_nextEdge_31, fX1_nextEdge_32, ↓ex_iand, fX1_nextEdge_33, ↓ex_ifCond_ne, fX1_nextEdge_36, fX1_nextEdge_37, ↓ex_goto, fX1_nextEdge_40, fX1_nextEdge_41, fX1_nextEdge_43, fX1_nextEdge_45, ↓ex_ifCond_eq, fX1_nextEdge_48, fX1_nextEdge_50, ↓ex_invokestatic, ↓xc_0, ↓xc_s, ↓xc_1, ↓pk_s, ↓k_s, ↓k_n, catS_n, catS_c, rOk_c, ↓pk_t, fX1_nextEdge_53, fX1_nextEdge_56, fX1_nextEdge_57, ↓fv_1_0, fX1_nextEdge_60, fX1_nextEdge_62, fX1_nextEdge_63, fX1_nextEdge_65, ↓ex_if_icmp_eq, fX1_nextEdge_68, fX1_nextEdge_71, fX1_nextEdge_72, fX1_nextEdge_73, fX1_nextEdge_75, ↓ex_invokevirtual, ↓pk_f, fX1_nextEdge_78, fX1_nextEdge_80, fX1_nextEdge_82, fX1_nextEdge_84, fX1_nextEdge_87, fX1_nextEdge_89, fX1_nextEdge_91, fX1_nextEdge_93, fX1_nextEdge_94, ↓ex_iinc, fX1_nextEdge_97, fX1_nextEdge_100, fX1_nextEdge_101, ↓ex_ireturn, ↓rt_i]
        exact hC
      | succ k ih =>
        intro i hi
        obtain ⟨e1, e2, e3, e4⟩ := d2 i (by omega)
        obtain ⟨f1, f2, f3, f4, f5⟩ := w2 i (by omega)
        obtain ⟨g1, g2⟩ := ht (s.T i) f2
        have hle := nxE_le s t dm i
        have hal := arr_le w3 t i
        have one : ((1 : Int32) = 0) = False := by decide
        refine go hR [(9, [0, 1, 2, 3, 4, 5])] 80 ?_
        simp only [↓reduceIte, Nat.reduceEqDiff, Nat.reduceAdd, Nat.reduceLeDiff, reduceCtorEq, and_true, true_and, false_and, and_false, true_or, or_true, or_false, false_or, true_implies, false_implies, implies_true, not_true_eq_false, not_false_eq_true, eq_self, fx_s, ↓run_s, run_0, ↓rs_n, ↓rs_c, as_s, ls_n, ls_c, lc_s, lget_c, fX1_nextEdge_0, ↓ex_iconst, fX1_nextEdge_1, ↓ex_istore_n, ↓s1I_c, ↓lsto_e, ↓lrmK_n, ↓lrmK_f, ct_i, ct_l, ct_r, fX1_nextEdge_2, ↓ex_bipush, fX1_nextEdge_4, ↓ex_istore, fX1_nextEdge_6, fX1_nextEdge_7, fX1_nextEdge_9, ↓ex_iload, ↓xI_i, ↓xIg_c, fX1_nextEdge_11, ↓ex_aload_n, ↓xR_r, ↓xRg_c, fX1_nextEdge_12, ↓ex_getfield, ↓s1R_c, ↓fv_0_4, fX1_nextEdge_15, ↓ex_if_icmp_ge, ↓s2I_c, fX1_nextEdge_18, fX1_nextEdge_19, ↓fv_0_1, fX1_nextEdge_22, fX1_nextEdge_24, ↓ex_iaload, ↓sRI_c, ↓scrR_n, fX1_nextEdge_25, fX1_nextEdge_27, ↓ex_iload_n, fX1_nextEdge_28, fX1_nextEdge_30, ↓ex_ishr, fX1_nextEdge_31, fX1_nextEdge_32, ↓ex_iand, fX1_nextEdge_33, ↓ex_ifCond_ne, fX1_nextEdge_36, fX1_nextEdge_37, ↓ex_goto, fX1_nextEdge_40, fX1_nextEdge_41, fX1_nextEdge_43, fX1_nextEdge_45, ↓ex_ifCond_eq, fX1_nextEdge_48, fX1_nextEdge_50, ↓ex_invokestatic, ↓xc_0, ↓xc_s, ↓xc_1, ↓pk_s, ↓k_s, ↓k_n, catS_n, catS_c, rOk_c, ↓pk_t, fX1_nextEdge_53, fX1_nextEdge_56, fX1_nextEdge_57, ↓fv_1_0, fX1_nextEdge_60, fX1_nextEdge_62, fX1_nextEdge_63, fX1_nextEdge_65, ↓ex_if_icmp_eq, fX1_nextEdge_68, fX1_nextEdge_71, fX1_nextEdge_72, fX1_nextEdge_73, fX1_nextEdge_75, ↓ex_invokevirtual, ↓pk_f, fX1_nextEdge_78, fX1_nextEdge_80, fX1_nextEdge_82, fX1_nextEdge_84, fX1_nextEdge_87, fX1_nextEdge_89, fX1_nextEdge_91, fX1_nextEdge_93, fX1_nextEdge_94, ↓ex_iinc, fX1_nextEdge_97, fX1_nextEdge_100, fX1_nextEdge_101, ↓ex_ireturn, ↓rt_i, one, p1, p3, p8, p9, q1, q3, q8, q9, d1, leN (a := s.n) (b := i) (by omega) (by omega), clampN (n := i) (by omega), e2, bit0 (m := dm) (e := i) (by omega) (by omega), ↓C_X3_isNode, ↓C_X1_arrivalBy, b2i_0, inR_n f2, clampN (n := s.T i) (by omega), g1, add1N, eq31N (a := t (s.T i)) (by omega), ↓reduceIte, not_true_eq_false, not_false_eq_true, false_implies, true_implies, implies_true, and_true, true_and, and_false, false_and, or_true, true_or, or_false, false_or, Classical.not_not, ite_true, ite_false]
        have hv1 : vp_in (nI i) 12 := vp_inN (by omega) (by omega)
        have hv2 : vp_in (nI (s.T i)) 8 := vp_inN (by omega) f2
        have hi1 := ih (i + 1) (by omega)
        have no : ¬ (dm.testBit i = false ∧ t (s.T i) = 31 ∧ arr s t i < (nxE s t dm i).2) → R 9 [(0, .ref 8), (1, .ref 1), (2, .int (nI dm)), (3, .int (oI (nxE s t dm i).1)), (4, .int (nI (nxE s t dm i).2)), (5, .int (nI (i + 1)))] [] X := fun h => by
          unfold nxE at hi1
          rw [if_neg h] at hi1
          exact hi1
        have yes : (dm.testBit i = false ∧ t (s.T i) = 31 ∧ arr s t i < (nxE s t dm i).2) → R 9 [(0, .ref 8), (1, .ref 1), (2, .int (nI dm)), (3, .int (nI i)), (4, .int (nI (arr s t i))), (5, .int (nI (i + 1)))] [] X := fun h => by
          unfold nxE at hi1
          rw [if_pos h] at hi1
          exact hi1
        refine ⟨fun z => absurd z (by omega), fun _ => ⟨hv1, ?_⟩⟩
        refine ⟨fun z => no (fun y => z y.1), fun z => ⟨hv2, fun y => ⟨s, t, i, ⟨hRS, hW, ht, rfl, by omega⟩, ?_⟩, fun y => no (fun x => y x.2.1)⟩⟩
        rw [leN (by omega) (by omega)]
        exact ⟨fun x => no (fun u => by have := u.2.2; omega), fun x => yes ⟨z, y, by omega⟩⟩
    refine go hR [(9, [0, 1, 2, 3, 4, 5])] 60 ?_
    simp only [lv_args, ↓reduceIte, Nat.reduceEqDiff, Nat.reduceAdd, Nat.reduceLeDiff, reduceCtorEq, and_true, true_and, false_and, and_false, true_or, or_true, or_false, false_or, true_implies, false_implies, implies_true, not_true_eq_false, not_false_eq_true, eq_self, fx_s, ↓run_s, run_0, ↓rs_n, ↓rs_c, as_s, ls_n, ls_c, lc_s, lget_c, fX1_nextEdge_0, ↓ex_iconst, fX1_nextEdge_1, ↓ex_istore_n, ↓s1I_c, ↓lsto_e, ↓lrmK_n, ↓lrmK_f, ct_i, ct_l, ct_r, fX1_nextEdge_2, ↓ex_bipush, fX1_nextEdge_4, ↓ex_istore, fX1_nextEdge_6, fX1_nextEdge_7, fX1_nextEdge_9, ↓ex_iload, ↓xI_i, ↓xIg_c, fX1_nextEdge_11, ↓ex_aload_n, ↓xR_r, ↓xRg_c, fX1_nextEdge_12, ↓ex_getfield, ↓s1R_c, ↓fv_0_4, fX1_nextEdge_15, ↓ex_if_icmp_ge, ↓s2I_c, fX1_nextEdge_18, fX1_nextEdge_19, ↓fv_0_1, fX1_nextEdge_22, fX1_nextEdge_24, ↓ex_iaload, ↓sRI_c, ↓scrR_n, fX1_nextEdge_25, fX1_nextEdge_27, ↓ex_iload_n, fX1_nextEdge_28, fX1_nextEdge_30, ↓ex_ishr, fX1_nextEdge_31, fX1_nextEdge_32, ↓ex_iand, fX1_nextEdge_33, ↓ex_ifCond_ne, fX1_nextEdge_36, fX1_nextEdge_37, ↓ex_goto, fX1_nextEdge_40, fX1_nextEdge_41, fX1_nextEdge_43, fX1_nextEdge_45, ↓ex_ifCond_eq, fX1_nextEdge_48, fX1_nextEdge_50, ↓ex_invokestatic, ↓xc_0, ↓xc_s, ↓xc_1, ↓pk_s, ↓k_s, ↓k_n, catS_n, catS_c, rOk_c, ↓pk_t, fX1_nextEdge_53, fX1_nextEdge_56, fX1_nextEdge_57, ↓fv_1_0, fX1_nextEdge_60, fX1_nextEdge_62, fX1_nextEdge_63, fX1_nextEdge_65, ↓ex_if_icmp_eq, fX1_nextEdge_68, fX1_nextEdge_71, fX1_nextEdge_72, fX1_nextEdge_73, fX1_nextEdge_75, ↓ex_invokevirtual, ↓pk_f, fX1_nextEdge_78, fX1_nextEdge_80, fX1_nextEdge_82, fX1_nextEdge_84, fX1_nextEdge_87, fX1_nextEdge_89, fX1_nextEdge_91, fX1_nextEdge_93, fX1_nextEdge_94, ↓ex_iinc, fX1_nextEdge_97, fX1_nextEdge_100, fX1_nextEdge_101, ↓ex_ireturn, ↓rt_i]
    exact key s.n 0 (by omega)
  next => exact hC.elim)
end SPREAD3
end
