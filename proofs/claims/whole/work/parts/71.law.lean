section LAWP
theorem goodL {ws : List Cond} (h : ∀ w ∈ ws, w ∈ BW) : GoodIn lw_tbl ws := fun w hw => ⟨(List.mem_filter.mp (h w hw)).1, good_of_word (BW_good (h w hw))⟩
theorem cr_hts {args : Array Value} {s : State} (h : ∀ w ∈ lw_tbl, w.before args s = true) : ∀ w, inB w = true → w.before args s = true := fun w hw => h w (List.mem_filter.mp (inB_BW hw)).1
section CRL
variable {l : Launch} {own : String} {cc cc0 bytes : ByteArray} {nL maxL maxL0 n idx ci : Nat} {R rm : Room} {y y0 : MethodName} {ret ret0 : Option FieldType} {C : CT} {T : u_T} {N : Nat}
theorem cr_L (hD : Does l y (wY y bytes maxL ret) rm C) (hcl : vwCl[ci]? = some (y.cls, T, N)) (hb : cB y bytes maxL ret n = true) (hw : (inB (.methodLink own idx y) && inB (.instanceMethod y) && inB (.selects y.cls y y)) = true) (hr : rm.cells = 0 ∧ rm.slots = 0) (hR : rm.frames + 1 ≤ R.frames ∧ 8 + (maxL + 11) + rm.locals ≤ R.locals) : CallRule l own cc lw_tbl nL R (idx, false, n + 1, ci, C) := by
  intro p e s m args below meth c γ ρ A kc ks Q hfix hK hN hρ hcap pc As rest X K hn hrec hC hcat hdg H locs ls hP hS hsz kk
  obtain ⟨b, As', rfl, hb1, hb2⟩ := zRecv (hrec rfl)
  obtain ⟨b1, b2, b3⟩ := cB_spec hb
  simp only [Bool.and_eq_true] at hw
  have hT : GoodIn lw_tbl (wsV own idx y.cls y (wY y bytes maxL ret)) := goodL (fun w h => by
    rcases List.mem_append.mp h with h | h
    · rcases List.mem_cons.mp h with h | h
      · rw [h]; exact inB_BW hw.1.1
      · rcases List.mem_cons.mp h with h | h
        · rw [h]; exact inB_BW hw.1.2
        · rcases List.mem_cons.mp h with h | h
          · rw [h]; exact inB_BW hw.2
          · rw [List.mem_singleton.mp h]; exact inB_BW b2
    · exact wY_BW b1 w h)
  have hc5 : ci < 5 := (cl_facts ci _ hcl).2.2.2.2
  have hrun := va_runV (As := As'.map (cv ρ)) (b := ρ b) (rest := rest.map (cv ρ)) (H := H) (locs := locs) (cells := kc) (slots := ks) (g := F0 m pc ls ((List.reverse (.ref b :: As') ++ rest).map (cv ρ))) (below := below) (meth := meth) (e := e) hfix (hD γ ρ _ X K (dA_Ar hρ) hC) (cwV n hfix.2.2.2.2 hT rfl hr.1 hr.2 ⟨rfl, b3⟩ hR) ⟨Hd.blind γ ρ X _, va_recv hK hP (ci := ci) (q0 := b) hcl ((cells_at γ ρ X hb1).trans (by rw [cellE_obj γ ρ X hb2 hc5])), fun U hU hW => ⟨rfl, Hd.of hP hK hN hU hW⟩⟩ rfl (by rw [List.length_map]; exact Nat.succ.inj hn) hsz (by simp [cv]) (lv_room (rest := []) (m := m) (pc := pc) (ls := ls) (by rw [catS_cv]; exact hcat)) hdg ⟨hcap.1, hcap.2⟩
  refine xrun hrun hS (Ar_A hρ) (fun v X' H1 locs1 h1 h2 h3 => ?_)
  rw [toL_map]
  exact kk v X' H1 locs1 h1 h2 h3
end CRL
theorem scrR_s (xs : Nat → Int32) (L : Nat) (i : Int32) (κ : Int32 → Prop) (o : Prop) : scrR (some xs) L 999 i κ o = (vp_in i L ∧ κ (xs i.toNatClampNeg)) := (rfl)
theorem scrN_s (xs : Nat → Int32) (L : Nat) (κ : Int32 → Prop) (o : Prop) : scrN (some xs) L 999 κ o = κ (Int32.ofNat L) := (rfl)
def postL : Option Value → XT → Prop := fun v _ => v = some (.int 1)
theorem RelM.frM {X X' : XT} {g : SG} (h : RelM X g) (hF : FrM X X') : RelM X' g := by
  obtain ⟨w, m1, m2, m3, m4, m5, m6⟩ := h
  unfold RelM
  rw [(hF 52 (by decide)).1, (hF 51 (by decide)).1, (hF 56 (by decide)).1, (hF 54 (by decide)).2]
  exact ⟨w, m1, m2, m3, m4, m5, m6⟩
theorem RelC.frC {X X' : XT} {g : SG} (h : RelC X g) (hF : FrC X X') : RelC X' g := by
  obtain ⟨w, h1, h2, ⟨r, h3, h4⟩, h5, h6⟩ := h
  refine ⟨w, h1.fr1 (fun k hk => (hF.1 k (by unfold scn at hk; omega)).1), ?_, ⟨r, fun j hj => by rw [hF.2]; exact h3 j hj, fun j hj => (h4 j hj).fr1 (fun k hk => (hF.1 k ?_).1)⟩, ?_, fun i hi => ?_⟩
  · rw [(hF.1 0 (by decide)).1]; exact h2
  · have := pastR_hi r j
    unfold scn at hk
    omega
  · rw [(hF.1 12 (by decide)).1]; exact h5
  · rw [(hF.1 13 (by decide)).1]; exact h6 i hi
theorem a2N (a : Nat) : nI a + 2 = nI (a + 2) := nI_add a 2
theorem a3N (a : Nat) : nI a + 3 = nI (a + 3) := nI_add a 3
theorem a4N (a : Nat) : nI a + 4 = nI (a + 4) := nI_add a 4
theorem a5N (a : Nat) : nI a + 5 = nI (a + 5) := nI_add a 5
def both (X : XT) : Prop := ∃ g, RelC X g ∧ RelM X g
abbrev lvL (i : Nat) : List (Nat × Value) := [(0, .ref 999), (1, .ref 0), (2, .ref 51), (3, .int (nI i))]
theorem sh_law : (shp 0 = (3, 0) ∧ shp 51 = (4, 0)) ∧ 0 < NC ∧ 51 < NC := by decide
theorem and31 (x : Int32) : ∃ q : Nat, q < 32 ∧ x &&& 31 = nI q := by
  have e : x = nI x.toBitVec.toNat := by
    apply Int32.toBitVec_inj.1
    show x.toBitVec = BitVec.ofNat 32 x.toBitVec.toNat
    simp
  refine ⟨x.toBitVec.toNat % 32, Nat.mod_lt _ (by decide), ?_⟩
  have h := pk_andN (n := x.toBitVec.toNat) x.toBitVec.isLt (m := 31) 5 rfl
  rw [← e] at h
  exact h
set_option maxHeartbeats 4000000 in
set_option maxRecDepth 20000 in
theorem case_0 {xs : Nat → Int32} {L i : Nat} {X : XT} {R : KT} (hR : Clo tL_c0 1 [(13, false, 5, 3, C_X3_addEdge), (17, false, 5, 4, C_X4_addEdge)] (some xs) L postL R) (hL : L ≤ 2560) (hi : i + 5 ≤ L) (hB : both X) (hout : ∀ X2, both X2 → R 950 (lvL i) [] X2) : R 172 (lvL i) [] X := by
  obtain ⟨g, hC, hM⟩ := hB
  obtain ⟨⟨p0, p51⟩, q0, q51⟩ := sh_law
  have v1 : vp_in (nI (i + 1)) L = True := eq_true (vp_inN (by omega) (by omega))
  have v2 : vp_in (nI (i + 2)) L = True := eq_true (vp_inN (by omega) (by omega))
  have v3 : vp_in (nI (i + 3)) L = True := eq_true (vp_inN (by omega) (by omega))
  have v4 : vp_in (nI (i + 4)) L = True := eq_true (vp_inN (by omega) (by omega))
  refine go hR [(950, [0, 1, 2, 3])] 80 ?_
  simp only [lvL, ↓reduceIte, Nat.reduceEqDiff, Nat.reduceAdd, Nat.reduceLeDiff, reduceCtorEq, and_true, true_and, false_and, and_false, true_or, or_true, or_false, false_or, true_implies, false_implies, implies_true, not_true_eq_false, not_false_eq_true, eq_self, fx_s, ↓run_s, run_0, ↓rs_n, ↓rs_c, as_s, ls_n, ls_c, lc_s, lget_c, fL_c0_172, ↓ex_aload_n, ↓xR_r, ↓xRg_c, fL_c0_173, fL_c0_174, ↓ex_iload_n, ↓xI_i, ↓xIg_c, fL_c0_175, ↓ex_iconst, fL_c0_176, ↓ex_iadd, ↓s2I_c, fL_c0_177, ↓ex_iaload, ↓sRI_c, ↓scrR_n, fL_c0_178, fL_c0_179, fL_c0_180, fL_c0_181, fL_c0_182, fL_c0_183, fL_c0_184, fL_c0_185, fL_c0_186, fL_c0_187, fL_c0_188, fL_c0_189, fL_c0_190, fL_c0_191, fL_c0_192, fL_c0_193, ↓ex_invokevirtual, ↓xc_0, ↓xc_s, ↓xc_1, ↓pk_s, ↓k_s, ↓k_n, catS_n, catS_c, rOk_c, ct_i, ct_l, ct_r, ↓pk_f, fL_c0_196, fL_c0_197, fL_c0_198, fL_c0_199, fL_c0_200, fL_c0_201, fL_c0_202, fL_c0_203, fL_c0_204, fL_c0_205, fL_c0_206, fL_c0_207, fL_c0_208, fL_c0_209, fL_c0_210, fL_c0_211, fL_c0_212, fL_c0_213, fL_c0_214, fL_c0_215, fL_c0_216, fL_c0_217, fL_c0_220, ↓ex_if_icmp_eq, fL_c0_223, fL_c0_224, ↓ex_ireturn, ↓rt_i, p0, p51, q0, q51, scrR_s, scrN_s, add1N, a2N, a3N, a4N, v1, v2, v3, v4, ↓C_X3_addEdge, ↓C_X4_addEdge, PubI, PubL, PubMI, PubML, lg_cmp_eq, ↓reduceIte, not_true_eq_false, not_false_eq_true, false_implies, true_implies, implies_true, and_true, true_and, and_false, false_and, or_true, true_or, or_false, false_or, Classical.not_not, ite_true, ite_false]
  exact ⟨g, hC, fun X1 h1 f1 => ⟨g, hM.frM f1, fun X2 h2 f2 => ⟨fun _ => hout X2 ⟨_, h1.frC f2, h2⟩, fun z => absurd rfl z⟩⟩⟩
set_option maxHeartbeats 4000000 in
set_option maxRecDepth 20000 in
theorem case_1 {xs : Nat → Int32} {L i : Nat} {X : XT} {R : KT} (hR : Clo tL_c1 1 [(18, false, 4, 3, C_X3_setEdge), (22, false, 4, 4, C_X4_setEdge)] (some xs) L postL R) (hL : L ≤ 2560) (hi : i + 5 ≤ L) (hB : both X) (hout : ∀ X2, both X2 → R 950 (lvL i) [] X2) : R 225 (lvL i) [] X := by
  obtain ⟨g, hC, hM⟩ := hB
  obtain ⟨⟨p0, p51⟩, q0, q51⟩ := sh_law
  have v1 : vp_in (nI (i + 1)) L = True := eq_true (vp_inN (by omega) (by omega))
  have v2 : vp_in (nI (i + 2)) L = True := eq_true (vp_inN (by omega) (by omega))
  have v3 : vp_in (nI (i + 3)) L = True := eq_true (vp_inN (by omega) (by omega))
  have v4 : vp_in (nI (i + 4)) L = True := eq_true (vp_inN (by omega) (by omega))
  refine go hR [(950, [0, 1, 2, 3])] 80 ?_
  simp only [lvL, ↓reduceIte, Nat.reduceEqDiff, Nat.reduceAdd, Nat.reduceLeDiff, reduceCtorEq, and_true, true_and, false_and, and_false, true_or, or_true, or_false, false_or, true_implies, false_implies, implies_true, not_true_eq_false, not_false_eq_true, eq_self, fx_s, ↓run_s, run_0, ↓rs_n, ↓rs_c, as_s, ls_n, ls_c, lc_s, lget_c, fL_c1_225, ↓ex_aload_n, ↓xR_r, ↓xRg_c, fL_c1_226, fL_c1_227, ↓ex_iload_n, ↓xI_i, ↓xIg_c, fL_c1_228, ↓ex_iconst, fL_c1_229, ↓ex_iadd, ↓s2I_c, fL_c1_230, ↓ex_iaload, ↓sRI_c, ↓scrR_n, fL_c1_231, fL_c1_232, fL_c1_233, fL_c1_234, fL_c1_235, fL_c1_236, fL_c1_237, fL_c1_238, fL_c1_239, fL_c1_240, fL_c1_241, ↓ex_invokevirtual, ↓xc_0, ↓xc_s, ↓xc_1, ↓pk_s, ↓k_s, ↓k_n, catS_n, catS_c, rOk_c, ct_i, ct_l, ct_r, ↓pk_f, fL_c1_244, fL_c1_245, fL_c1_246, fL_c1_247, fL_c1_248, fL_c1_249, fL_c1_250, fL_c1_251, fL_c1_252, fL_c1_253, fL_c1_254, fL_c1_255, fL_c1_256, fL_c1_257, fL_c1_258, fL_c1_259, fL_c1_260, fL_c1_263, ↓ex_if_icmp_eq, fL_c1_266, fL_c1_267, ↓ex_ireturn, ↓rt_i, p0, p51, q0, q51, scrR_s, scrN_s, add1N, a2N, a3N, a4N, v1, v2, v3, v4, ↓C_X3_setEdge, ↓C_X4_setEdge, PubI, PubL, PubMI, PubML, lg_cmp_eq, ↓reduceIte, not_true_eq_false, not_false_eq_true, false_implies, true_implies, implies_true, and_true, true_and, and_false, false_and, or_true, true_or, or_false, false_or, Classical.not_not, ite_true, ite_false]
  exact ⟨g, hC, fun X1 h1 f1 => ⟨g, hM.frM f1, fun X2 h2 f2 => ⟨fun _ => hout X2 ⟨_, h1.frC f2, h2⟩, fun z => absurd rfl z⟩⟩⟩
set_option maxHeartbeats 4000000 in
set_option maxRecDepth 20000 in
theorem case_2 {xs : Nat → Int32} {L i : Nat} {X : XT} {R : KT} (hR : Clo tL_c2 1 [(23, false, 2, 3, C_X3_removeEdge), (27, false, 2, 4, C_X4_removeEdge)] (some xs) L postL R) (hL : L ≤ 2560) (hi : i + 5 ≤ L) (hB : both X) (hout : ∀ X2, both X2 → R 950 (lvL i) [] X2) : R 268 (lvL i) [] X := by
  obtain ⟨g, hC, hM⟩ := hB
  obtain ⟨⟨p0, p51⟩, q0, q51⟩ := sh_law
  have v1 : vp_in (nI (i + 1)) L = True := eq_true (vp_inN (by omega) (by omega))
  have v2 : vp_in (nI (i + 2)) L = True := eq_true (vp_inN (by omega) (by omega))
  have v3 : vp_in (nI (i + 3)) L = True := eq_true (vp_inN (by omega) (by omega))
  have v4 : vp_in (nI (i + 4)) L = True := eq_true (vp_inN (by omega) (by omega))
  refine go hR [(950, [0, 1, 2, 3])] 80 ?_
  simp only [lvL, ↓reduceIte, Nat.reduceEqDiff, Nat.reduceAdd, Nat.reduceLeDiff, reduceCtorEq, and_true, true_and, false_and, and_false, true_or, or_true, or_false, false_or, true_implies, false_implies, implies_true, not_true_eq_false, not_false_eq_true, eq_self, fx_s, ↓run_s, run_0, ↓rs_n, ↓rs_c, as_s, ls_n, ls_c, lc_s, lget_c, fL_c2_268, ↓ex_aload_n, ↓xR_r, ↓xRg_c, fL_c2_269, fL_c2_270, ↓ex_iload_n, ↓xI_i, ↓xIg_c, fL_c2_271, ↓ex_iconst, fL_c2_272, ↓ex_iadd, ↓s2I_c, fL_c2_273, ↓ex_iaload, ↓sRI_c, ↓scrR_n, fL_c2_274, ↓ex_invokevirtual, ↓xc_0, ↓xc_s, ↓xc_1, ↓pk_s, ↓k_s, ↓k_n, catS_n, catS_c, rOk_c, ct_i, ct_l, ct_r, ↓pk_f, fL_c2_277, fL_c2_278, fL_c2_279, fL_c2_280, fL_c2_281, fL_c2_282, fL_c2_283, fL_c2_286, ↓ex_if_icmp_eq, fL_c2_289, fL_c2_290, ↓ex_ireturn, ↓rt_i, p0, p51, q0, q51, scrR_s, scrN_s, add1N, a2N, a3N, a4N, v1, v2, v3, v4, ↓C_X3_removeEdge, ↓C_X4_removeEdge, PubI, PubL, PubMI, PubML, lg_cmp_eq, ↓reduceIte, not_true_eq_false, not_false_eq_true, false_implies, true_implies, implies_true, and_true, true_and, and_false, false_and, or_true, true_or, or_false, false_or, Classical.not_not, ite_true, ite_false]
  exact ⟨g, hC, fun X1 h1 f1 => ⟨g, hM.frM f1, fun X2 h2 f2 => ⟨fun _ => hout X2 ⟨_, h1.frC f2, h2⟩, fun z => absurd rfl z⟩⟩⟩
set_option maxHeartbeats 4000000 in
set_option maxRecDepth 20000 in
theorem case_3 {xs : Nat → Int32} {L i : Nat} {X : XT} {R : KT} (hR : Clo tL_c3 1 [(28, false, 1, 3, C_X3_edges), (32, false, 1, 4, C_X4_edges)] (some xs) L postL R) (hL : L ≤ 2560) (hi : i + 5 ≤ L) (hB : both X) (hout : ∀ X2, both X2 → R 950 (lvL i) [] X2) : R 291 (lvL i) [] X := by
  obtain ⟨g, hC, hM⟩ := hB
  obtain ⟨⟨p0, p51⟩, q0, q51⟩ := sh_law
  have v1 : vp_in (nI (i + 1)) L = True := eq_true (vp_inN (by omega) (by omega))
  have v2 : vp_in (nI (i + 2)) L = True := eq_true (vp_inN (by omega) (by omega))
  have v3 : vp_in (nI (i + 3)) L = True := eq_true (vp_inN (by omega) (by omega))
  have v4 : vp_in (nI (i + 4)) L = True := eq_true (vp_inN (by omega) (by omega))
  refine go hR [(950, [0, 1, 2, 3])] 80 ?_
  simp only [lvL, ↓reduceIte, Nat.reduceEqDiff, Nat.reduceAdd, Nat.reduceLeDiff, reduceCtorEq, and_true, true_and, false_and, and_false, true_or, or_true, or_false, false_or, true_implies, false_implies, implies_true, not_true_eq_false, not_false_eq_true, eq_self, fx_s, ↓run_s, run_0, ↓rs_n, ↓rs_c, as_s, ls_n, ls_c, lc_s, lget_c, fL_c3_291, ↓ex_aload_n, ↓xR_r, ↓xRg_c, fL_c3_292, ↓ex_invokevirtual, ↓xc_0, ↓xc_s, ↓xc_1, ↓pk_s, ↓k_s, ↓k_n, catS_n, catS_c, rOk_c, ct_i, ct_l, ct_r, ↓pk_f, fL_c3_295, fL_c3_296, fL_c3_299, ↓ex_if_icmp_eq, ↓s2I_c, fL_c3_302, ↓ex_iconst, fL_c3_303, ↓ex_ireturn, ↓rt_i, p0, p51, q0, q51, scrR_s, scrN_s, add1N, a2N, a3N, a4N, v1, v2, v3, v4, ↓C_X3_edges, ↓C_X4_edges, PubI, PubL, PubMI, PubML, lg_cmp_eq, ↓reduceIte, not_true_eq_false, not_false_eq_true, false_implies, true_implies, implies_true, and_true, true_and, and_false, false_and, or_true, true_or, or_false, false_or, Classical.not_not, ite_true, ite_false]
  exact ⟨g, hC, fun X1 h1 f1 => ⟨g, hM.frM f1, fun X2 h2 f2 => ⟨fun _ => hout X2 ⟨_, h1.frC f2, h2⟩, fun z => absurd rfl z⟩⟩⟩
set_option maxHeartbeats 4000000 in
set_option maxRecDepth 20000 in
theorem case_4 {xs : Nat → Int32} {L i : Nat} {X : XT} {R : KT} (hR : Clo tL_c4 1 [(33, false, 3, 3, C_X3_edge), (37, false, 3, 4, C_X4_edge)] (some xs) L postL R) (hL : L ≤ 2560) (hi : i + 5 ≤ L) (hB : both X) (hout : ∀ X2, both X2 → R 950 (lvL i) [] X2) : R 304 (lvL i) [] X := by
  obtain ⟨g, hC, hM⟩ := hB
  obtain ⟨⟨p0, p51⟩, q0, q51⟩ := sh_law
  have v1 : vp_in (nI (i + 1)) L = True := eq_true (vp_inN (by omega) (by omega))
  have v2 : vp_in (nI (i + 2)) L = True := eq_true (vp_inN (by omega) (by omega))
  have v3 : vp_in (nI (i + 3)) L = True := eq_true (vp_inN (by omega) (by omega))
  have v4 : vp_in (nI (i + 4)) L = True := eq_true (vp_inN (by omega) (by omega))
  refine go hR [(950, [0, 1, 2, 3])] 80 ?_
  simp only [lvL, ↓reduceIte, Nat.reduceEqDiff, Nat.reduceAdd, Nat.reduceLeDiff, reduceCtorEq, and_true, true_and, false_and, and_false, true_or, or_true, or_false, false_or, true_implies, false_implies, implies_true, not_true_eq_false, not_false_eq_true, eq_self, fx_s, ↓run_s, run_0, ↓rs_n, ↓rs_c, as_s, ls_n, ls_c, lc_s, lget_c, fL_c4_304, ↓ex_aload_n, ↓xR_r, ↓xRg_c, fL_c4_305, fL_c4_306, ↓ex_iload_n, ↓xI_i, ↓xIg_c, fL_c4_307, ↓ex_iconst, fL_c4_308, ↓ex_iadd, ↓s2I_c, fL_c4_309, ↓ex_iaload, ↓sRI_c, ↓scrR_n, fL_c4_310, fL_c4_311, fL_c4_312, fL_c4_313, fL_c4_314, fL_c4_315, ↓ex_invokevirtual, ↓xc_0, ↓xc_s, ↓xc_1, ↓pk_s, ↓k_s, ↓k_n, catS_n, catS_c, rOk_c, ct_i, ct_l, ct_r, ↓pk_f, fL_c4_318, fL_c4_319, fL_c4_320, fL_c4_321, fL_c4_322, fL_c4_323, fL_c4_324, fL_c4_325, fL_c4_326, fL_c4_327, fL_c4_328, fL_c4_329, fL_c4_332, ↓ex_if_icmp_eq, fL_c4_335, fL_c4_336, ↓ex_ireturn, ↓rt_i, p0, p51, q0, q51, scrR_s, scrN_s, add1N, a2N, a3N, a4N, v1, v2, v3, v4, ↓C_X3_edge, ↓C_X4_edge, PubI, PubL, PubMI, PubML, lg_cmp_eq, ↓reduceIte, not_true_eq_false, not_false_eq_true, false_implies, true_implies, implies_true, and_true, true_and, and_false, false_and, or_true, true_or, or_false, false_or, Classical.not_not, ite_true, ite_false]
  exact ⟨g, hC, fun X1 h1 f1 => ⟨g, hM.frM f1, fun X2 h2 f2 => ⟨fun _ => hout X2 ⟨_, h1.frC f2, h2⟩, fun z => absurd rfl z⟩⟩⟩
set_option maxHeartbeats 4000000 in
set_option maxRecDepth 20000 in
theorem case_5 {xs : Nat → Int32} {L i : Nat} {X : XT} {R : KT} (hR : Clo tL_c5 1 [(38, false, 3, 3, C_X3_edgeBetween), (41, false, 3, 4, C_X4_edgeBetween)] (some xs) L postL R) (hL : L ≤ 2560) (hi : i + 5 ≤ L) (hB : both X) (hout : ∀ X2, both X2 → R 950 (lvL i) [] X2) : R 337 (lvL i) [] X := by
  obtain ⟨g, hC, hM⟩ := hB
  obtain ⟨⟨p0, p51⟩, q0, q51⟩ := sh_law
  have v1 : vp_in (nI (i + 1)) L = True := eq_true (vp_inN (by omega) (by omega))
  have v2 : vp_in (nI (i + 2)) L = True := eq_true (vp_inN (by omega) (by omega))
  have v3 : vp_in (nI (i + 3)) L = True := eq_true (vp_inN (by omega) (by omega))
  have v4 : vp_in (nI (i + 4)) L = True := eq_true (vp_inN (by omega) (by omega))
  refine go hR [(950, [0, 1, 2, 3])] 80 ?_
  simp only [lvL, ↓reduceIte, Nat.reduceEqDiff, Nat.reduceAdd, Nat.reduceLeDiff, reduceCtorEq, and_true, true_and, false_and, and_false, true_or, or_true, or_false, false_or, true_implies, false_implies, implies_true, not_true_eq_false, not_false_eq_true, eq_self, fx_s, ↓run_s, run_0, ↓rs_n, ↓rs_c, as_s, ls_n, ls_c, lc_s, lget_c, fL_c5_337, ↓ex_aload_n, ↓xR_r, ↓xRg_c, fL_c5_338, fL_c5_339, ↓ex_iload_n, ↓xI_i, ↓xIg_c, fL_c5_340, ↓ex_iconst, fL_c5_341, ↓ex_iadd, ↓s2I_c, fL_c5_342, ↓ex_iaload, ↓sRI_c, ↓scrR_n, fL_c5_343, fL_c5_344, fL_c5_345, fL_c5_346, fL_c5_347, fL_c5_348, ↓ex_invokevirtual, ↓xc_0, ↓xc_s, ↓xc_1, ↓pk_s, ↓k_s, ↓k_n, catS_n, catS_c, rOk_c, ct_i, ct_l, ct_r, ↓pk_f, fL_c5_351, fL_c5_352, fL_c5_353, fL_c5_354, fL_c5_355, fL_c5_356, fL_c5_357, fL_c5_358, fL_c5_359, fL_c5_360, fL_c5_361, fL_c5_362, fL_c5_365, ↓ex_if_icmp_eq, fL_c5_368, fL_c5_369, ↓ex_ireturn, ↓rt_i, p0, p51, q0, q51, scrR_s, scrN_s, add1N, a2N, a3N, a4N, v1, v2, v3, v4, ↓C_X3_edgeBetween, ↓C_X4_edgeBetween, PubI, PubL, PubMI, PubML, lg_cmp_eq, ↓reduceIte, not_true_eq_false, not_false_eq_true, false_implies, true_implies, implies_true, and_true, true_and, and_false, false_and, or_true, true_or, or_false, false_or, Classical.not_not, ite_true, ite_false]
  exact ⟨g, hC, fun X1 h1 f1 => ⟨g, hM.frM f1, fun X2 h2 f2 => ⟨fun _ => hout X2 ⟨_, h1.frC f2, h2⟩, fun z => absurd rfl z⟩⟩⟩
set_option maxHeartbeats 4000000 in
set_option maxRecDepth 20000 in
theorem case_6 {xs : Nat → Int32} {L i : Nat} {X : XT} {R : KT} (hR : Clo tL_c6 1 [(42, false, 2, 3, C_X3_setHorizon), (45, false, 2, 4, C_X4_setHorizon)] (some xs) L postL R) (hL : L ≤ 2560) (hi : i + 5 ≤ L) (hB : both X) (hout : ∀ X2, both X2 → R 950 (lvL i) [] X2) : R 370 (lvL i) [] X := by
  obtain ⟨g, hC, hM⟩ := hB
  obtain ⟨⟨p0, p51⟩, q0, q51⟩ := sh_law
  have v1 : vp_in (nI (i + 1)) L = True := eq_true (vp_inN (by omega) (by omega))
  have v2 : vp_in (nI (i + 2)) L = True := eq_true (vp_inN (by omega) (by omega))
  have v3 : vp_in (nI (i + 3)) L = True := eq_true (vp_inN (by omega) (by omega))
  have v4 : vp_in (nI (i + 4)) L = True := eq_true (vp_inN (by omega) (by omega))
  refine go hR [(950, [0, 1, 2, 3])] 80 ?_
  simp only [lvL, ↓reduceIte, Nat.reduceEqDiff, Nat.reduceAdd, Nat.reduceLeDiff, reduceCtorEq, and_true, true_and, false_and, and_false, true_or, or_true, or_false, false_or, true_implies, false_implies, implies_true, not_true_eq_false, not_false_eq_true, eq_self, fx_s, ↓run_s, run_0, ↓rs_n, ↓rs_c, as_s, ls_n, ls_c, lc_s, lget_c, fL_c6_370, ↓ex_aload_n, ↓xR_r, ↓xRg_c, fL_c6_371, fL_c6_372, ↓ex_iload_n, ↓xI_i, ↓xIg_c, fL_c6_373, ↓ex_iconst, fL_c6_374, ↓ex_iadd, ↓s2I_c, fL_c6_375, ↓ex_iaload, ↓sRI_c, ↓scrR_n, fL_c6_376, ↓ex_invokevirtual, ↓xc_0, ↓xc_s, ↓xc_1, ↓pk_s, ↓k_s, ↓k_n, catS_n, catS_c, rOk_c, ct_i, ct_l, ct_r, ↓pk_f, fL_c6_379, fL_c6_380, fL_c6_381, fL_c6_382, fL_c6_383, fL_c6_384, fL_c6_385, fL_c6_388, ↓ex_if_icmp_eq, fL_c6_391, fL_c6_392, ↓ex_ireturn, ↓rt_i, p0, p51, q0, q51, scrR_s, scrN_s, add1N, a2N, a3N, a4N, v1, v2, v3, v4, ↓C_X3_setHorizon, ↓C_X4_setHorizon, PubI, PubL, PubMI, PubML, lg_cmp_eq, ↓reduceIte, not_true_eq_false, not_false_eq_true, false_implies, true_implies, implies_true, and_true, true_and, and_false, false_and, or_true, true_or, or_false, false_or, Classical.not_not, ite_true, ite_false]
  exact ⟨g, hC, fun X1 h1 f1 => ⟨g, hM.frM f1, fun X2 h2 f2 => ⟨fun _ => hout X2 ⟨_, h1.frC f2, h2⟩, fun z => absurd rfl z⟩⟩⟩
set_option maxHeartbeats 4000000 in
set_option maxRecDepth 20000 in
theorem case_7 {xs : Nat → Int32} {L i : Nat} {X : XT} {R : KT} (hR : Clo tL_c7 1 [(46, false, 3, 3, C_X3_observe), (49, false, 3, 4, C_X4_observe)] (some xs) L postL R) (hL : L ≤ 2560) (hi : i + 5 ≤ L) (hB : both X) (hout : ∀ X2, both X2 → R 950 (lvL i) [] X2) : R 393 (lvL i) [] X := by
  obtain ⟨g, hC, hM⟩ := hB
  obtain ⟨⟨p0, p51⟩, q0, q51⟩ := sh_law
  have v1 : vp_in (nI (i + 1)) L = True := eq_true (vp_inN (by omega) (by omega))
  have v2 : vp_in (nI (i + 2)) L = True := eq_true (vp_inN (by omega) (by omega))
  have v3 : vp_in (nI (i + 3)) L = True := eq_true (vp_inN (by omega) (by omega))
  have v4 : vp_in (nI (i + 4)) L = True := eq_true (vp_inN (by omega) (by omega))
  refine go hR [(950, [0, 1, 2, 3])] 80 ?_
  simp only [lvL, ↓reduceIte, Nat.reduceEqDiff, Nat.reduceAdd, Nat.reduceLeDiff, reduceCtorEq, and_true, true_and, false_and, and_false, true_or, or_true, or_false, false_or, true_implies, false_implies, implies_true, not_true_eq_false, not_false_eq_true, eq_self, fx_s, ↓run_s, run_0, ↓rs_n, ↓rs_c, as_s, ls_n, ls_c, lc_s, lget_c, fL_c7_393, ↓ex_aload_n, ↓xR_r, ↓xRg_c, fL_c7_394, fL_c7_395, ↓ex_iload_n, ↓xI_i, ↓xIg_c, fL_c7_396, ↓ex_iconst, fL_c7_397, ↓ex_iadd, ↓s2I_c, fL_c7_398, ↓ex_iaload, ↓sRI_c, ↓scrR_n, fL_c7_399, fL_c7_400, fL_c7_401, fL_c7_402, fL_c7_403, fL_c7_404, ↓ex_invokevirtual, ↓xc_0, ↓xc_s, ↓xc_1, ↓pk_s, ↓k_s, ↓k_n, catS_n, catS_c, rOk_c, ct_i, ct_l, ct_r, ↓pk_f, fL_c7_407, fL_c7_408, fL_c7_409, fL_c7_410, fL_c7_411, fL_c7_412, fL_c7_413, fL_c7_414, fL_c7_415, fL_c7_416, fL_c7_417, fL_c7_418, fL_c7_421, ↓ex_if_icmp_eq, fL_c7_424, fL_c7_425, ↓ex_ireturn, ↓rt_i, p0, p51, q0, q51, scrR_s, scrN_s, add1N, a2N, a3N, a4N, v1, v2, v3, v4, ↓C_X3_observe, ↓C_X4_observe, PubI, PubL, PubMI, PubML, lg_cmp_eq, ↓reduceIte, not_true_eq_false, not_false_eq_true, false_implies, true_implies, implies_true, and_true, true_and, and_false, false_and, or_true, true_or, or_false, false_or, Classical.not_not, ite_true, ite_false]
  exact ⟨g, hC, fun X1 h1 f1 => ⟨g, hM.frM f1, fun X2 h2 f2 => ⟨fun _ => hout X2 ⟨_, h1.frC f2, h2⟩, fun z => absurd rfl z⟩⟩⟩
set_option maxHeartbeats 4000000 in
set_option maxRecDepth 20000 in
theorem case_8 {xs : Nat → Int32} {L i : Nat} {X : XT} {R : KT} (hR : Clo tL_c8 1 [(50, false, 2, 3, C_X3_forget), (53, false, 2, 4, C_X4_forget)] (some xs) L postL R) (hL : L ≤ 2560) (hi : i + 5 ≤ L) (hB : both X) (hout : ∀ X2, both X2 → R 950 (lvL i) [] X2) : R 426 (lvL i) [] X := by
  obtain ⟨g, hC, hM⟩ := hB
  obtain ⟨⟨p0, p51⟩, q0, q51⟩ := sh_law
  have v1 : vp_in (nI (i + 1)) L = True := eq_true (vp_inN (by omega) (by omega))
  have v2 : vp_in (nI (i + 2)) L = True := eq_true (vp_inN (by omega) (by omega))
  have v3 : vp_in (nI (i + 3)) L = True := eq_true (vp_inN (by omega) (by omega))
  have v4 : vp_in (nI (i + 4)) L = True := eq_true (vp_inN (by omega) (by omega))
  refine go hR [(950, [0, 1, 2, 3])] 80 ?_
  simp only [lvL, ↓reduceIte, Nat.reduceEqDiff, Nat.reduceAdd, Nat.reduceLeDiff, reduceCtorEq, and_true, true_and, false_and, and_false, true_or, or_true, or_false, false_or, true_implies, false_implies, implies_true, not_true_eq_false, not_false_eq_true, eq_self, fx_s, ↓run_s, run_0, ↓rs_n, ↓rs_c, as_s, ls_n, ls_c, lc_s, lget_c, fL_c8_426, ↓ex_aload_n, ↓xR_r, ↓xRg_c, fL_c8_427, fL_c8_428, ↓ex_iload_n, ↓xI_i, ↓xIg_c, fL_c8_429, ↓ex_iconst, fL_c8_430, ↓ex_iadd, ↓s2I_c, fL_c8_431, ↓ex_iaload, ↓sRI_c, ↓scrR_n, fL_c8_432, ↓ex_invokevirtual, ↓xc_0, ↓xc_s, ↓xc_1, ↓pk_s, ↓k_s, ↓k_n, catS_n, catS_c, rOk_c, ct_i, ct_l, ct_r, ↓pk_f, fL_c8_435, fL_c8_436, fL_c8_437, fL_c8_438, fL_c8_439, fL_c8_440, fL_c8_441, fL_c8_444, ↓ex_if_icmp_eq, fL_c8_447, fL_c8_448, ↓ex_ireturn, ↓rt_i, p0, p51, q0, q51, scrR_s, scrN_s, add1N, a2N, a3N, a4N, v1, v2, v3, v4, ↓C_X3_forget, ↓C_X4_forget, PubI, PubL, PubMI, PubML, lg_cmp_eq, ↓reduceIte, not_true_eq_false, not_false_eq_true, false_implies, true_implies, implies_true, and_true, true_and, and_false, false_and, or_true, true_or, or_false, false_or, Classical.not_not, ite_true, ite_false]
  exact ⟨g, hC, fun X1 h1 f1 => ⟨g, hM.frM f1, fun X2 h2 f2 => ⟨fun _ => hout X2 ⟨_, h1.frC f2, h2⟩, fun z => absurd rfl z⟩⟩⟩
set_option maxHeartbeats 4000000 in
set_option maxRecDepth 20000 in
theorem case_9 {xs : Nat → Int32} {L i : Nat} {X : XT} {R : KT} (hR : Clo tL_c9 1 [(54, false, 2, 3, C_X3_observed), (57, false, 2, 4, C_X4_observed)] (some xs) L postL R) (hL : L ≤ 2560) (hi : i + 5 ≤ L) (hB : both X) (hout : ∀ X2, both X2 → R 950 (lvL i) [] X2) : R 449 (lvL i) [] X := by
  obtain ⟨g, hC, hM⟩ := hB
  obtain ⟨⟨p0, p51⟩, q0, q51⟩ := sh_law
  have v1 : vp_in (nI (i + 1)) L = True := eq_true (vp_inN (by omega) (by omega))
  have v2 : vp_in (nI (i + 2)) L = True := eq_true (vp_inN (by omega) (by omega))
  have v3 : vp_in (nI (i + 3)) L = True := eq_true (vp_inN (by omega) (by omega))
  have v4 : vp_in (nI (i + 4)) L = True := eq_true (vp_inN (by omega) (by omega))
  refine go hR [(950, [0, 1, 2, 3])] 80 ?_
  simp only [lvL, ↓reduceIte, Nat.reduceEqDiff, Nat.reduceAdd, Nat.reduceLeDiff, reduceCtorEq, and_true, true_and, false_and, and_false, true_or, or_true, or_false, false_or, true_implies, false_implies, implies_true, not_true_eq_false, not_false_eq_true, eq_self, fx_s, ↓run_s, run_0, ↓rs_n, ↓rs_c, as_s, ls_n, ls_c, lc_s, lget_c, fL_c9_449, ↓ex_aload_n, ↓xR_r, ↓xRg_c, fL_c9_450, fL_c9_451, ↓ex_iload_n, ↓xI_i, ↓xIg_c, fL_c9_452, ↓ex_iconst, fL_c9_453, ↓ex_iadd, ↓s2I_c, fL_c9_454, ↓ex_iaload, ↓sRI_c, ↓scrR_n, fL_c9_455, ↓ex_invokevirtual, ↓xc_0, ↓xc_s, ↓xc_1, ↓pk_s, ↓k_s, ↓k_n, catS_n, catS_c, rOk_c, ct_i, ct_l, ct_r, ↓pk_f, fL_c9_458, fL_c9_459, fL_c9_460, fL_c9_461, fL_c9_462, fL_c9_463, fL_c9_464, fL_c9_467, ↓ex_if_icmp_eq, fL_c9_470, fL_c9_471, ↓ex_ireturn, ↓rt_i, p0, p51, q0, q51, scrR_s, scrN_s, add1N, a2N, a3N, a4N, v1, v2, v3, v4, ↓C_X3_observed, ↓C_X4_observed, PubI, PubL, PubMI, PubML, lg_cmp_eq, ↓reduceIte, not_true_eq_false, not_false_eq_true, false_implies, true_implies, implies_true, and_true, true_and, and_false, false_and, or_true, true_or, or_false, false_or, Classical.not_not, ite_true, ite_false]
  exact ⟨g, hC, fun X1 h1 f1 => ⟨g, hM.frM f1, fun X2 h2 f2 => ⟨fun _ => hout X2 ⟨_, h1.frC f2, h2⟩, fun z => absurd rfl z⟩⟩⟩
set_option maxHeartbeats 4000000 in
set_option maxRecDepth 20000 in
theorem case_10 {xs : Nat → Int32} {L i : Nat} {X : XT} {R : KT} (hR : Clo tL_c10 1 [(58, false, 2, 3, C_X3_setSensors), (61, false, 2, 4, C_X4_setSensors)] (some xs) L postL R) (hL : L ≤ 2560) (hi : i + 5 ≤ L) (hB : both X) (hout : ∀ X2, both X2 → R 950 (lvL i) [] X2) : R 472 (lvL i) [] X := by
  obtain ⟨g, hC, hM⟩ := hB
  obtain ⟨⟨p0, p51⟩, q0, q51⟩ := sh_law
  have v1 : vp_in (nI (i + 1)) L = True := eq_true (vp_inN (by omega) (by omega))
  have v2 : vp_in (nI (i + 2)) L = True := eq_true (vp_inN (by omega) (by omega))
  have v3 : vp_in (nI (i + 3)) L = True := eq_true (vp_inN (by omega) (by omega))
  have v4 : vp_in (nI (i + 4)) L = True := eq_true (vp_inN (by omega) (by omega))
  refine go hR [(950, [0, 1, 2, 3])] 80 ?_
  simp only [lvL, ↓reduceIte, Nat.reduceEqDiff, Nat.reduceAdd, Nat.reduceLeDiff, reduceCtorEq, and_true, true_and, false_and, and_false, true_or, or_true, or_false, false_or, true_implies, false_implies, implies_true, not_true_eq_false, not_false_eq_true, eq_self, fx_s, ↓run_s, run_0, ↓rs_n, ↓rs_c, as_s, ls_n, ls_c, lc_s, lget_c, fL_c10_472, ↓ex_aload_n, ↓xR_r, ↓xRg_c, fL_c10_473, fL_c10_474, ↓ex_iload_n, ↓xI_i, ↓xIg_c, fL_c10_475, ↓ex_iconst, fL_c10_476, ↓ex_iadd, ↓s2I_c, fL_c10_477, ↓ex_iaload, ↓sRI_c, ↓scrR_n, fL_c10_478, ↓ex_invokevirtual, ↓xc_0, ↓xc_s, ↓xc_1, ↓pk_s, ↓k_s, ↓k_n, catS_n, catS_c, rOk_c, ct_i, ct_l, ct_r, ↓pk_f, fL_c10_481, fL_c10_482, fL_c10_483, fL_c10_484, fL_c10_485, fL_c10_486, fL_c10_487, fL_c10_490, ↓ex_if_icmp_eq, fL_c10_493, fL_c10_494, ↓ex_ireturn, ↓rt_i, p0, p51, q0, q51, scrR_s, scrN_s, add1N, a2N, a3N, a4N, v1, v2, v3, v4, ↓C_X3_setSensors, ↓C_X4_setSensors, PubI, PubL, PubMI, PubML, lg_cmp_eq, ↓reduceIte, not_true_eq_false, not_false_eq_true, false_implies, true_implies, implies_true, and_true, true_and, and_false, false_and, or_true, true_or, or_false, false_or, Classical.not_not, ite_true, ite_false]
  exact ⟨g, hC, fun X1 h1 f1 => ⟨g, hM.frM f1, fun X2 h2 f2 => ⟨fun _ => hout X2 ⟨_, h1.frC f2, h2⟩, fun z => absurd rfl z⟩⟩⟩
set_option maxHeartbeats 4000000 in
set_option maxRecDepth 20000 in
theorem case_11 {xs : Nat → Int32} {L i : Nat} {X : XT} {R : KT} (hR : Clo tL_c11 1 [(62, false, 3, 3, C_X3_simulate), (65, false, 3, 4, C_X4_simulate)] (some xs) L postL R) (hL : L ≤ 2560) (hi : i + 5 ≤ L) (hB : both X) (hout : ∀ X2, both X2 → R 950 (lvL i) [] X2) : R 495 (lvL i) [] X := by
  obtain ⟨g, hC, hM⟩ := hB
  obtain ⟨⟨p0, p51⟩, q0, q51⟩ := sh_law
  have v1 : vp_in (nI (i + 1)) L = True := eq_true (vp_inN (by omega) (by omega))
  have v2 : vp_in (nI (i + 2)) L = True := eq_true (vp_inN (by omega) (by omega))
  have v3 : vp_in (nI (i + 3)) L = True := eq_true (vp_inN (by omega) (by omega))
  have v4 : vp_in (nI (i + 4)) L = True := eq_true (vp_inN (by omega) (by omega))
  refine go hR [(950, [0, 1, 2, 3])] 80 ?_
  simp only [lvL, ↓reduceIte, Nat.reduceEqDiff, Nat.reduceAdd, Nat.reduceLeDiff, reduceCtorEq, and_true, true_and, false_and, and_false, true_or, or_true, or_false, false_or, true_implies, false_implies, implies_true, not_true_eq_false, not_false_eq_true, eq_self, fx_s, ↓run_s, run_0, ↓rs_n, ↓rs_c, as_s, ls_n, ls_c, lc_s, lget_c, fL_c11_495, ↓ex_aload_n, ↓xR_r, ↓xRg_c, fL_c11_496, fL_c11_497, ↓ex_iload_n, ↓xI_i, ↓xIg_c, fL_c11_498, ↓ex_iconst, fL_c11_499, ↓ex_iadd, ↓s2I_c, fL_c11_500, ↓ex_iaload, ↓sRI_c, ↓scrR_n, fL_c11_501, fL_c11_502, fL_c11_503, fL_c11_504, fL_c11_505, fL_c11_506, ↓ex_invokevirtual, ↓xc_0, ↓xc_s, ↓xc_1, ↓pk_s, ↓k_s, ↓k_n, catS_n, catS_c, rOk_c, ct_i, ct_l, ct_r, ↓pk_f, fL_c11_509, fL_c11_510, fL_c11_511, fL_c11_512, fL_c11_513, fL_c11_514, fL_c11_515, fL_c11_516, fL_c11_517, fL_c11_518, fL_c11_519, fL_c11_520, fL_c11_523, ↓ex_if_icmp_eq, fL_c11_526, fL_c11_527, ↓ex_ireturn, ↓rt_i, p0, p51, q0, q51, scrR_s, scrN_s, add1N, a2N, a3N, a4N, v1, v2, v3, v4, ↓C_X3_simulate, ↓C_X4_simulate, PubI, PubL, PubMI, PubML, lg_cmp_eq, ↓reduceIte, not_true_eq_false, not_false_eq_true, false_implies, true_implies, implies_true, and_true, true_and, and_false, false_and, or_true, true_or, or_false, false_or, Classical.not_not, ite_true, ite_false]
  exact ⟨g, hC, fun X1 h1 f1 => ⟨g, hM.frM f1, fun X2 h2 f2 => ⟨fun _ => hout X2 ⟨_, h1.frC f2, h2⟩, fun z => absurd rfl z⟩⟩⟩
set_option maxHeartbeats 4000000 in
set_option maxRecDepth 20000 in
theorem case_12 {xs : Nat → Int32} {L i : Nat} {X : XT} {R : KT} (hR : Clo tL_c12 1 [(66, false, 4, 3, C_X3_timeBy), (69, false, 4, 4, C_X4_timeBy)] (some xs) L postL R) (hL : L ≤ 2560) (hi : i + 5 ≤ L) (hB : both X) (hout : ∀ X2, both X2 → R 950 (lvL i) [] X2) : R 528 (lvL i) [] X := by
  obtain ⟨g, hC, hM⟩ := hB
  obtain ⟨⟨p0, p51⟩, q0, q51⟩ := sh_law
  have v1 : vp_in (nI (i + 1)) L = True := eq_true (vp_inN (by omega) (by omega))
  have v2 : vp_in (nI (i + 2)) L = True := eq_true (vp_inN (by omega) (by omega))
  have v3 : vp_in (nI (i + 3)) L = True := eq_true (vp_inN (by omega) (by omega))
  have v4 : vp_in (nI (i + 4)) L = True := eq_true (vp_inN (by omega) (by omega))
  refine go hR [(950, [0, 1, 2, 3])] 80 ?_
  simp only [lvL, ↓reduceIte, Nat.reduceEqDiff, Nat.reduceAdd, Nat.reduceLeDiff, reduceCtorEq, and_true, true_and, false_and, and_false, true_or, or_true, or_false, false_or, true_implies, false_implies, implies_true, not_true_eq_false, not_false_eq_true, eq_self, fx_s, ↓run_s, run_0, ↓rs_n, ↓rs_c, as_s, ls_n, ls_c, lc_s, lget_c, fL_c12_528, ↓ex_aload_n, ↓xR_r, ↓xRg_c, fL_c12_529, fL_c12_530, ↓ex_iload_n, ↓xI_i, ↓xIg_c, fL_c12_531, ↓ex_iconst, fL_c12_532, ↓ex_iadd, ↓s2I_c, fL_c12_533, ↓ex_iaload, ↓sRI_c, ↓scrR_n, fL_c12_534, fL_c12_535, fL_c12_536, fL_c12_537, fL_c12_538, fL_c12_539, fL_c12_540, fL_c12_541, fL_c12_542, fL_c12_543, fL_c12_544, ↓ex_invokevirtual, ↓xc_0, ↓xc_s, ↓xc_1, ↓pk_s, ↓k_s, ↓k_n, catS_n, catS_c, rOk_c, ct_i, ct_l, ct_r, ↓pk_f, fL_c12_547, fL_c12_548, fL_c12_549, fL_c12_550, fL_c12_551, fL_c12_552, fL_c12_553, fL_c12_554, fL_c12_555, fL_c12_556, fL_c12_557, fL_c12_558, fL_c12_559, fL_c12_560, fL_c12_561, fL_c12_562, fL_c12_563, fL_c12_566, ↓ex_if_icmp_eq, fL_c12_569, fL_c12_570, ↓ex_ireturn, ↓rt_i, p0, p51, q0, q51, scrR_s, scrN_s, add1N, a2N, a3N, a4N, v1, v2, v3, v4, ↓C_X3_timeBy, ↓C_X4_timeBy, PubI, PubL, PubMI, PubML, lg_cmp_eq, ↓reduceIte, not_true_eq_false, not_false_eq_true, false_implies, true_implies, implies_true, and_true, true_and, and_false, false_and, or_true, true_or, or_false, false_or, Classical.not_not, ite_true, ite_false]
  exact ⟨g, hC, fun X1 h1 f1 => ⟨g, hM.frM f1, fun X2 h2 f2 => ⟨fun _ => hout X2 ⟨_, h1.frC f2, h2⟩, fun z => absurd rfl z⟩⟩⟩
set_option maxHeartbeats 4000000 in
set_option maxRecDepth 20000 in
theorem case_13 {xs : Nat → Int32} {L i : Nat} {X : XT} {R : KT} (hR : Clo tL_c13 1 [(70, false, 2, 3, C_X3_weight), (74, false, 2, 4, C_X4_weight)] (some xs) L postL R) (hL : L ≤ 2560) (hi : i + 5 ≤ L) (hB : both X) (hout : ∀ X2, both X2 → R 950 (lvL i) [] X2) : R 571 (lvL i) [] X := by
  obtain ⟨g, hC, hM⟩ := hB
  obtain ⟨⟨p0, p51⟩, q0, q51⟩ := sh_law
  have v1 : vp_in (nI (i + 1)) L = True := eq_true (vp_inN (by omega) (by omega))
  have v2 : vp_in (nI (i + 2)) L = True := eq_true (vp_inN (by omega) (by omega))
  have v3 : vp_in (nI (i + 3)) L = True := eq_true (vp_inN (by omega) (by omega))
  have v4 : vp_in (nI (i + 4)) L = True := eq_true (vp_inN (by omega) (by omega))
  refine go hR [(950, [0, 1, 2, 3])] 80 ?_
  simp only [lvL, ↓reduceIte, Nat.reduceEqDiff, Nat.reduceAdd, Nat.reduceLeDiff, reduceCtorEq, and_true, true_and, false_and, and_false, true_or, or_true, or_false, false_or, true_implies, false_implies, implies_true, not_true_eq_false, not_false_eq_true, eq_self, fx_s, ↓run_s, run_0, ↓rs_n, ↓rs_c, as_s, ls_n, ls_c, lc_s, lget_c, fL_c13_571, ↓ex_aload_n, ↓xR_r, ↓xRg_c, fL_c13_572, fL_c13_573, ↓ex_iload_n, ↓xI_i, ↓xIg_c, fL_c13_574, ↓ex_iconst, fL_c13_575, ↓ex_iadd, ↓s2I_c, fL_c13_576, ↓ex_iaload, ↓sRI_c, ↓scrR_n, fL_c13_577, ↓ex_invokevirtual, ↓xc_0, ↓xc_s, ↓xc_1, ↓pk_s, ↓k_s, ↓k_n, catS_n, catS_c, rOk_c, ct_i, ct_l, ct_r, ↓pk_f, fL_c13_580, fL_c13_581, fL_c13_582, fL_c13_583, fL_c13_584, fL_c13_585, fL_c13_586, fL_c13_589, ↓ex_lcmp, ↓s2L_c, fL_c13_590, ↓ex_ifCond_eq, ↓s1I_c, fL_c13_593, fL_c13_594, ↓ex_ireturn, ↓rt_i, p0, p51, q0, q51, scrR_s, scrN_s, add1N, a2N, a3N, a4N, v1, v2, v3, v4, ↓C_X3_weight, ↓C_X4_weight, PubI, PubL, PubMI, PubML, lg_cmp_eq, ↓reduceIte, not_true_eq_false, not_false_eq_true, false_implies, true_implies, implies_true, and_true, true_and, and_false, false_and, or_true, true_or, or_false, false_or, Classical.not_not, ite_true, ite_false]
  exact ⟨g, hC, fun X1 h1 f1 => ⟨g, hM.frM f1, fun X2 h2 f2 => ⟨fun _ => hout X2 ⟨_, h1.frC f2, h2⟩, fun z => absurd rfl z⟩⟩⟩
set_option maxHeartbeats 4000000 in
set_option maxRecDepth 20000 in
theorem case_14 {xs : Nat → Int32} {L i : Nat} {X : XT} {R : KT} (hR : Clo tL_c14 1 [(75, false, 3, 3, C_X3_fits), (78, false, 3, 4, C_X4_fits)] (some xs) L postL R) (hL : L ≤ 2560) (hi : i + 5 ≤ L) (hB : both X) (hout : ∀ X2, both X2 → R 950 (lvL i) [] X2) : R 595 (lvL i) [] X := by
  obtain ⟨g, hC, hM⟩ := hB
  obtain ⟨⟨p0, p51⟩, q0, q51⟩ := sh_law
  have v1 : vp_in (nI (i + 1)) L = True := eq_true (vp_inN (by omega) (by omega))
  have v2 : vp_in (nI (i + 2)) L = True := eq_true (vp_inN (by omega) (by omega))
  have v3 : vp_in (nI (i + 3)) L = True := eq_true (vp_inN (by omega) (by omega))
  have v4 : vp_in (nI (i + 4)) L = True := eq_true (vp_inN (by omega) (by omega))
  refine go hR [(950, [0, 1, 2, 3])] 80 ?_
  simp only [lvL, ↓reduceIte, Nat.reduceEqDiff, Nat.reduceAdd, Nat.reduceLeDiff, reduceCtorEq, and_true, true_and, false_and, and_false, true_or, or_true, or_false, false_or, true_implies, false_implies, implies_true, not_true_eq_false, not_false_eq_true, eq_self, fx_s, ↓run_s, run_0, ↓rs_n, ↓rs_c, as_s, ls_n, ls_c, lc_s, lget_c, fL_c14_595, ↓ex_aload_n, ↓xR_r, ↓xRg_c, fL_c14_596, fL_c14_597, ↓ex_iload_n, ↓xI_i, ↓xIg_c, fL_c14_598, ↓ex_iconst, fL_c14_599, ↓ex_iadd, ↓s2I_c, fL_c14_600, ↓ex_iaload, ↓sRI_c, ↓scrR_n, fL_c14_601, fL_c14_602, fL_c14_603, fL_c14_604, fL_c14_605, fL_c14_606, ↓ex_invokevirtual, ↓xc_0, ↓xc_s, ↓xc_1, ↓pk_s, ↓k_s, ↓k_n, catS_n, catS_c, rOk_c, ct_i, ct_l, ct_r, ↓pk_f, fL_c14_609, fL_c14_610, fL_c14_611, fL_c14_612, fL_c14_613, fL_c14_614, fL_c14_615, fL_c14_616, fL_c14_617, fL_c14_618, fL_c14_619, fL_c14_620, fL_c14_623, ↓ex_if_icmp_eq, fL_c14_626, fL_c14_627, ↓ex_ireturn, ↓rt_i, p0, p51, q0, q51, scrR_s, scrN_s, add1N, a2N, a3N, a4N, v1, v2, v3, v4, ↓C_X3_fits, ↓C_X4_fits, PubI, PubL, PubMI, PubML, lg_cmp_eq, ↓reduceIte, not_true_eq_false, not_false_eq_true, false_implies, true_implies, implies_true, and_true, true_and, and_false, false_and, or_true, true_or, or_false, false_or, Classical.not_not, ite_true, ite_false]
  exact ⟨g, hC, fun X1 h1 f1 => ⟨g, hM.frM f1, fun X2 h2 f2 => ⟨fun _ => hout X2 ⟨_, h1.frC f2, h2⟩, fun z => absurd rfl z⟩⟩⟩
set_option maxHeartbeats 4000000 in
set_option maxRecDepth 20000 in
theorem case_15 {xs : Nat → Int32} {L i : Nat} {X : XT} {R : KT} (hR : Clo tL_c15 1 [(79, false, 4, 3, C_X3_timeWeight), (83, false, 4, 4, C_X4_timeWeight)] (some xs) L postL R) (hL : L ≤ 2560) (hi : i + 5 ≤ L) (hB : both X) (hout : ∀ X2, both X2 → R 950 (lvL i) [] X2) : R 628 (lvL i) [] X := by
  obtain ⟨g, hC, hM⟩ := hB
  obtain ⟨⟨p0, p51⟩, q0, q51⟩ := sh_law
  have v1 : vp_in (nI (i + 1)) L = True := eq_true (vp_inN (by omega) (by omega))
  have v2 : vp_in (nI (i + 2)) L = True := eq_true (vp_inN (by omega) (by omega))
  have v3 : vp_in (nI (i + 3)) L = True := eq_true (vp_inN (by omega) (by omega))
  have v4 : vp_in (nI (i + 4)) L = True := eq_true (vp_inN (by omega) (by omega))
  refine go hR [(950, [0, 1, 2, 3])] 80 ?_
  simp only [lvL, ↓reduceIte, Nat.reduceEqDiff, Nat.reduceAdd, Nat.reduceLeDiff, reduceCtorEq, and_true, true_and, false_and, and_false, true_or, or_true, or_false, false_or, true_implies, false_implies, implies_true, not_true_eq_false, not_false_eq_true, eq_self, fx_s, ↓run_s, run_0, ↓rs_n, ↓rs_c, as_s, ls_n, ls_c, lc_s, lget_c, fL_c15_628, ↓ex_aload_n, ↓xR_r, ↓xRg_c, fL_c15_629, fL_c15_630, ↓ex_iload_n, ↓xI_i, ↓xIg_c, fL_c15_631, ↓ex_iconst, fL_c15_632, ↓ex_iadd, ↓s2I_c, fL_c15_633, ↓ex_iaload, ↓sRI_c, ↓scrR_n, fL_c15_634, fL_c15_635, fL_c15_636, fL_c15_637, fL_c15_638, fL_c15_639, fL_c15_640, fL_c15_641, fL_c15_642, fL_c15_643, fL_c15_644, ↓ex_invokevirtual, ↓xc_0, ↓xc_s, ↓xc_1, ↓pk_s, ↓k_s, ↓k_n, catS_n, catS_c, rOk_c, ct_i, ct_l, ct_r, ↓pk_f, fL_c15_647, fL_c15_648, fL_c15_649, fL_c15_650, fL_c15_651, fL_c15_652, fL_c15_653, fL_c15_654, fL_c15_655, fL_c15_656, fL_c15_657, fL_c15_658, fL_c15_659, fL_c15_660, fL_c15_661, fL_c15_662, fL_c15_663, fL_c15_666, ↓ex_lcmp, ↓s2L_c, fL_c15_667, ↓ex_ifCond_eq, ↓s1I_c, fL_c15_670, fL_c15_671, ↓ex_ireturn, ↓rt_i, p0, p51, q0, q51, scrR_s, scrN_s, add1N, a2N, a3N, a4N, v1, v2, v3, v4, ↓C_X3_timeWeight, ↓C_X4_timeWeight, PubI, PubL, PubMI, PubML, lg_cmp_eq, ↓reduceIte, not_true_eq_false, not_false_eq_true, false_implies, true_implies, implies_true, and_true, true_and, and_false, false_and, or_true, true_or, or_false, false_or, Classical.not_not, ite_true, ite_false]
  exact ⟨g, hC, fun X1 h1 f1 => ⟨g, hM.frM f1, fun X2 h2 f2 => ⟨fun _ => hout X2 ⟨_, h1.frC f2, h2⟩, fun z => absurd rfl z⟩⟩⟩
set_option maxHeartbeats 4000000 in
set_option maxRecDepth 20000 in
theorem case_16 {xs : Nat → Int32} {L i : Nat} {X : XT} {R : KT} (hR : Clo tL_c16 1 [(84, false, 2, 3, C_X3_reach), (87, false, 2, 4, C_X4_reach)] (some xs) L postL R) (hL : L ≤ 2560) (hi : i + 5 ≤ L) (hB : both X) (hout : ∀ X2, both X2 → R 950 (lvL i) [] X2) : R 672 (lvL i) [] X := by
  obtain ⟨g, hC, hM⟩ := hB
  obtain ⟨⟨p0, p51⟩, q0, q51⟩ := sh_law
  have v1 : vp_in (nI (i + 1)) L = True := eq_true (vp_inN (by omega) (by omega))
  have v2 : vp_in (nI (i + 2)) L = True := eq_true (vp_inN (by omega) (by omega))
  have v3 : vp_in (nI (i + 3)) L = True := eq_true (vp_inN (by omega) (by omega))
  have v4 : vp_in (nI (i + 4)) L = True := eq_true (vp_inN (by omega) (by omega))
  refine go hR [(950, [0, 1, 2, 3])] 80 ?_
  simp only [lvL, ↓reduceIte, Nat.reduceEqDiff, Nat.reduceAdd, Nat.reduceLeDiff, reduceCtorEq, and_true, true_and, false_and, and_false, true_or, or_true, or_false, false_or, true_implies, false_implies, implies_true, not_true_eq_false, not_false_eq_true, eq_self, fx_s, ↓run_s, run_0, ↓rs_n, ↓rs_c, as_s, ls_n, ls_c, lc_s, lget_c, fL_c16_672, ↓ex_aload_n, ↓xR_r, ↓xRg_c, fL_c16_673, fL_c16_674, ↓ex_iload_n, ↓xI_i, ↓xIg_c, fL_c16_675, ↓ex_iconst, fL_c16_676, ↓ex_iadd, ↓s2I_c, fL_c16_677, ↓ex_iaload, ↓sRI_c, ↓scrR_n, fL_c16_678, ↓ex_invokevirtual, ↓xc_0, ↓xc_s, ↓xc_1, ↓pk_s, ↓k_s, ↓k_n, catS_n, catS_c, rOk_c, ct_i, ct_l, ct_r, ↓pk_f, fL_c16_681, fL_c16_682, fL_c16_683, fL_c16_684, fL_c16_685, fL_c16_686, fL_c16_687, fL_c16_690, ↓ex_lcmp, ↓s2L_c, fL_c16_691, ↓ex_ifCond_eq, ↓s1I_c, fL_c16_694, fL_c16_695, ↓ex_ireturn, ↓rt_i, p0, p51, q0, q51, scrR_s, scrN_s, add1N, a2N, a3N, a4N, v1, v2, v3, v4, ↓C_X3_reach, ↓C_X4_reach, PubI, PubL, PubMI, PubML, lg_cmp_eq, ↓reduceIte, not_true_eq_false, not_false_eq_true, false_implies, true_implies, implies_true, and_true, true_and, and_false, false_and, or_true, true_or, or_false, false_or, Classical.not_not, ite_true, ite_false]
  exact ⟨g, hC, fun X1 h1 f1 => ⟨g, hM.frM f1, fun X2 h2 f2 => ⟨fun _ => hout X2 ⟨_, h1.frC f2, h2⟩, fun z => absurd rfl z⟩⟩⟩
set_option maxHeartbeats 4000000 in
set_option maxRecDepth 20000 in
theorem case_17 {xs : Nat → Int32} {L i : Nat} {X : XT} {R : KT} (hR : Clo tL_c17 1 [(88, false, 2, 3, C_X3_likelihood), (91, false, 2, 4, C_X4_likelihood)] (some xs) L postL R) (hL : L ≤ 2560) (hi : i + 5 ≤ L) (hB : both X) (hout : ∀ X2, both X2 → R 950 (lvL i) [] X2) : R 696 (lvL i) [] X := by
  obtain ⟨g, hC, hM⟩ := hB
  obtain ⟨⟨p0, p51⟩, q0, q51⟩ := sh_law
  have v1 : vp_in (nI (i + 1)) L = True := eq_true (vp_inN (by omega) (by omega))
  have v2 : vp_in (nI (i + 2)) L = True := eq_true (vp_inN (by omega) (by omega))
  have v3 : vp_in (nI (i + 3)) L = True := eq_true (vp_inN (by omega) (by omega))
  have v4 : vp_in (nI (i + 4)) L = True := eq_true (vp_inN (by omega) (by omega))
  refine go hR [(950, [0, 1, 2, 3])] 80 ?_
  simp only [lvL, ↓reduceIte, Nat.reduceEqDiff, Nat.reduceAdd, Nat.reduceLeDiff, reduceCtorEq, and_true, true_and, false_and, and_false, true_or, or_true, or_false, false_or, true_implies, false_implies, implies_true, not_true_eq_false, not_false_eq_true, eq_self, fx_s, ↓run_s, run_0, ↓rs_n, ↓rs_c, as_s, ls_n, ls_c, lc_s, lget_c, fL_c17_696, ↓ex_aload_n, ↓xR_r, ↓xRg_c, fL_c17_697, fL_c17_698, ↓ex_iload_n, ↓xI_i, ↓xIg_c, fL_c17_699, ↓ex_iconst, fL_c17_700, ↓ex_iadd, ↓s2I_c, fL_c17_701, ↓ex_iaload, ↓sRI_c, ↓scrR_n, fL_c17_702, ↓ex_invokevirtual, ↓xc_0, ↓xc_s, ↓xc_1, ↓pk_s, ↓k_s, ↓k_n, catS_n, catS_c, rOk_c, ct_i, ct_l, ct_r, ↓pk_f, fL_c17_705, fL_c17_706, fL_c17_707, fL_c17_708, fL_c17_709, fL_c17_710, fL_c17_711, fL_c17_714, ↓ex_lcmp, ↓s2L_c, fL_c17_715, ↓ex_ifCond_eq, ↓s1I_c, fL_c17_718, fL_c17_719, ↓ex_ireturn, ↓rt_i, p0, p51, q0, q51, scrR_s, scrN_s, add1N, a2N, a3N, a4N, v1, v2, v3, v4, ↓C_X3_likelihood, ↓C_X4_likelihood, PubI, PubL, PubMI, PubML, lg_cmp_eq, ↓reduceIte, not_true_eq_false, not_false_eq_true, false_implies, true_implies, implies_true, and_true, true_and, and_false, false_and, or_true, true_or, or_false, false_or, Classical.not_not, ite_true, ite_false]
  exact ⟨g, hC, fun X1 h1 f1 => ⟨g, hM.frM f1, fun X2 h2 f2 => ⟨fun _ => hout X2 ⟨_, h1.frC f2, h2⟩, fun z => absurd rfl z⟩⟩⟩
set_option maxHeartbeats 4000000 in
set_option maxRecDepth 20000 in
theorem case_18 {xs : Nat → Int32} {L i : Nat} {X : XT} {R : KT} (hR : Clo tL_c18 1 [(92, false, 1, 3, C_X3_candidates), (95, false, 1, 4, C_X4_candidates)] (some xs) L postL R) (hL : L ≤ 2560) (hi : i + 5 ≤ L) (hB : both X) (hout : ∀ X2, both X2 → R 950 (lvL i) [] X2) : R 720 (lvL i) [] X := by
  obtain ⟨g, hC, hM⟩ := hB
  obtain ⟨⟨p0, p51⟩, q0, q51⟩ := sh_law
  have v1 : vp_in (nI (i + 1)) L = True := eq_true (vp_inN (by omega) (by omega))
  have v2 : vp_in (nI (i + 2)) L = True := eq_true (vp_inN (by omega) (by omega))
  have v3 : vp_in (nI (i + 3)) L = True := eq_true (vp_inN (by omega) (by omega))
  have v4 : vp_in (nI (i + 4)) L = True := eq_true (vp_inN (by omega) (by omega))
  refine go hR [(950, [0, 1, 2, 3])] 80 ?_
  simp only [lvL, ↓reduceIte, Nat.reduceEqDiff, Nat.reduceAdd, Nat.reduceLeDiff, reduceCtorEq, and_true, true_and, false_and, and_false, true_or, or_true, or_false, false_or, true_implies, false_implies, implies_true, not_true_eq_false, not_false_eq_true, eq_self, fx_s, ↓run_s, run_0, ↓rs_n, ↓rs_c, as_s, ls_n, ls_c, lc_s, lget_c, fL_c18_720, ↓ex_aload_n, ↓xR_r, ↓xRg_c, fL_c18_721, ↓ex_invokevirtual, ↓xc_0, ↓xc_s, ↓xc_1, ↓pk_s, ↓k_s, ↓k_n, catS_n, catS_c, rOk_c, ct_i, ct_l, ct_r, ↓pk_f, fL_c18_724, fL_c18_725, fL_c18_728, ↓ex_if_icmp_eq, ↓s2I_c, fL_c18_731, ↓ex_iconst, fL_c18_732, ↓ex_ireturn, ↓rt_i, p0, p51, q0, q51, scrR_s, scrN_s, add1N, a2N, a3N, a4N, v1, v2, v3, v4, ↓C_X3_candidates, ↓C_X4_candidates, PubI, PubL, PubMI, PubML, lg_cmp_eq, ↓reduceIte, not_true_eq_false, not_false_eq_true, false_implies, true_implies, implies_true, and_true, true_and, and_false, false_and, or_true, true_or, or_false, false_or, Classical.not_not, ite_true, ite_false]
  refine ⟨g, hC, fun X1 f1 => ⟨g, hM.frM (FrM_W f1), fun X2 h2 f2 => ⟨fun _ => hout X2 ⟨_, (scrW hC f1).frC f2, h2⟩, fun z => absurd rfl z⟩⟩⟩
set_option maxHeartbeats 4000000 in
set_option maxRecDepth 20000 in
theorem case_19 {xs : Nat → Int32} {L i : Nat} {X : XT} {R : KT} (hR : Clo tL_c19 1 [(96, false, 2, 3, C_X3_candidate), (99, false, 2, 4, C_X4_candidate)] (some xs) L postL R) (hL : L ≤ 2560) (hi : i + 5 ≤ L) (hB : both X) (hout : ∀ X2, both X2 → R 950 (lvL i) [] X2) : R 733 (lvL i) [] X := by
  obtain ⟨g, hC, hM⟩ := hB
  obtain ⟨⟨p0, p51⟩, q0, q51⟩ := sh_law
  have v1 : vp_in (nI (i + 1)) L = True := eq_true (vp_inN (by omega) (by omega))
  have v2 : vp_in (nI (i + 2)) L = True := eq_true (vp_inN (by omega) (by omega))
  have v3 : vp_in (nI (i + 3)) L = True := eq_true (vp_inN (by omega) (by omega))
  have v4 : vp_in (nI (i + 4)) L = True := eq_true (vp_inN (by omega) (by omega))
  refine go hR [(950, [0, 1, 2, 3])] 80 ?_
  simp only [lvL, ↓reduceIte, Nat.reduceEqDiff, Nat.reduceAdd, Nat.reduceLeDiff, reduceCtorEq, and_true, true_and, false_and, and_false, true_or, or_true, or_false, false_or, true_implies, false_implies, implies_true, not_true_eq_false, not_false_eq_true, eq_self, fx_s, ↓run_s, run_0, ↓rs_n, ↓rs_c, as_s, ls_n, ls_c, lc_s, lget_c, fL_c19_733, ↓ex_aload_n, ↓xR_r, ↓xRg_c, fL_c19_734, fL_c19_735, ↓ex_iload_n, ↓xI_i, ↓xIg_c, fL_c19_736, ↓ex_iconst, fL_c19_737, ↓ex_iadd, ↓s2I_c, fL_c19_738, ↓ex_iaload, ↓sRI_c, ↓scrR_n, fL_c19_739, ↓ex_invokevirtual, ↓xc_0, ↓xc_s, ↓xc_1, ↓pk_s, ↓k_s, ↓k_n, catS_n, catS_c, rOk_c, ct_i, ct_l, ct_r, ↓pk_f, fL_c19_742, fL_c19_743, fL_c19_744, fL_c19_745, fL_c19_746, fL_c19_747, fL_c19_748, fL_c19_751, ↓ex_if_icmp_eq, fL_c19_754, fL_c19_755, ↓ex_ireturn, ↓rt_i, p0, p51, q0, q51, scrR_s, scrN_s, add1N, a2N, a3N, a4N, v1, v2, v3, v4, ↓C_X3_candidate, ↓C_X4_candidate, PubI, PubL, PubMI, PubML, lg_cmp_eq, ↓reduceIte, not_true_eq_false, not_false_eq_true, false_implies, true_implies, implies_true, and_true, true_and, and_false, false_and, or_true, true_or, or_false, false_or, Classical.not_not, ite_true, ite_false]
  exact ⟨g, hC, fun X1 h1 f1 => ⟨g, hM.frM f1, fun X2 h2 f2 => ⟨fun _ => hout X2 ⟨_, h1.frC f2, h2⟩, fun z => absurd rfl z⟩⟩⟩
set_option maxHeartbeats 4000000 in
set_option maxRecDepth 20000 in
theorem case_20 {xs : Nat → Int32} {L i : Nat} {X : XT} {R : KT} (hR : Clo tL_c20 1 [(100, false, 2, 3, C_X3_belief), (103, false, 2, 4, C_X4_belief)] (some xs) L postL R) (hL : L ≤ 2560) (hi : i + 5 ≤ L) (hB : both X) (hout : ∀ X2, both X2 → R 950 (lvL i) [] X2) : R 756 (lvL i) [] X := by
  obtain ⟨g, hC, hM⟩ := hB
  obtain ⟨⟨p0, p51⟩, q0, q51⟩ := sh_law
  have v1 : vp_in (nI (i + 1)) L = True := eq_true (vp_inN (by omega) (by omega))
  have v2 : vp_in (nI (i + 2)) L = True := eq_true (vp_inN (by omega) (by omega))
  have v3 : vp_in (nI (i + 3)) L = True := eq_true (vp_inN (by omega) (by omega))
  have v4 : vp_in (nI (i + 4)) L = True := eq_true (vp_inN (by omega) (by omega))
  refine go hR [(950, [0, 1, 2, 3])] 80 ?_
  simp only [lvL, ↓reduceIte, Nat.reduceEqDiff, Nat.reduceAdd, Nat.reduceLeDiff, reduceCtorEq, and_true, true_and, false_and, and_false, true_or, or_true, or_false, false_or, true_implies, false_implies, implies_true, not_true_eq_false, not_false_eq_true, eq_self, fx_s, ↓run_s, run_0, ↓rs_n, ↓rs_c, as_s, ls_n, ls_c, lc_s, lget_c, fL_c20_756, ↓ex_aload_n, ↓xR_r, ↓xRg_c, fL_c20_757, fL_c20_758, ↓ex_iload_n, ↓xI_i, ↓xIg_c, fL_c20_759, ↓ex_iconst, fL_c20_760, ↓ex_iadd, ↓s2I_c, fL_c20_761, ↓ex_iaload, ↓sRI_c, ↓scrR_n, fL_c20_762, ↓ex_invokevirtual, ↓xc_0, ↓xc_s, ↓xc_1, ↓pk_s, ↓k_s, ↓k_n, catS_n, catS_c, rOk_c, ct_i, ct_l, ct_r, ↓pk_f, fL_c20_765, fL_c20_766, fL_c20_767, fL_c20_768, fL_c20_769, fL_c20_770, fL_c20_771, fL_c20_774, ↓ex_if_icmp_eq, fL_c20_777, fL_c20_778, ↓ex_ireturn, ↓rt_i, p0, p51, q0, q51, scrR_s, scrN_s, add1N, a2N, a3N, a4N, v1, v2, v3, v4, ↓C_X3_belief, ↓C_X4_belief, PubI, PubL, PubMI, PubML, lg_cmp_eq, ↓reduceIte, not_true_eq_false, not_false_eq_true, false_implies, true_implies, implies_true, and_true, true_and, and_false, false_and, or_true, true_or, or_false, false_or, Classical.not_not, ite_true, ite_false]
  exact ⟨g, hC, fun X1 h1 f1 => ⟨g, hM.frM f1, fun X2 h2 f2 => ⟨fun _ => hout X2 ⟨_, h1.frC f2, h2⟩, fun z => absurd rfl z⟩⟩⟩
set_option maxHeartbeats 4000000 in
set_option maxRecDepth 20000 in
theorem case_21 {xs : Nat → Int32} {L i : Nat} {X : XT} {R : KT} (hR : Clo tL_c21 1 [(104, false, 2, 3, C_X3_decoy), (107, false, 2, 4, C_X4_decoy)] (some xs) L postL R) (hL : L ≤ 2560) (hi : i + 5 ≤ L) (hB : both X) (hout : ∀ X2, both X2 → R 950 (lvL i) [] X2) : R 779 (lvL i) [] X := by
  obtain ⟨g, hC, hM⟩ := hB
  obtain ⟨⟨p0, p51⟩, q0, q51⟩ := sh_law
  have v1 : vp_in (nI (i + 1)) L = True := eq_true (vp_inN (by omega) (by omega))
  have v2 : vp_in (nI (i + 2)) L = True := eq_true (vp_inN (by omega) (by omega))
  have v3 : vp_in (nI (i + 3)) L = True := eq_true (vp_inN (by omega) (by omega))
  have v4 : vp_in (nI (i + 4)) L = True := eq_true (vp_inN (by omega) (by omega))
  refine go hR [(950, [0, 1, 2, 3])] 80 ?_
  simp only [lvL, ↓reduceIte, Nat.reduceEqDiff, Nat.reduceAdd, Nat.reduceLeDiff, reduceCtorEq, and_true, true_and, false_and, and_false, true_or, or_true, or_false, false_or, true_implies, false_implies, implies_true, not_true_eq_false, not_false_eq_true, eq_self, fx_s, ↓run_s, run_0, ↓rs_n, ↓rs_c, as_s, ls_n, ls_c, lc_s, lget_c, fL_c21_779, ↓ex_aload_n, ↓xR_r, ↓xRg_c, fL_c21_780, fL_c21_781, ↓ex_iload_n, ↓xI_i, ↓xIg_c, fL_c21_782, ↓ex_iconst, fL_c21_783, ↓ex_iadd, ↓s2I_c, fL_c21_784, ↓ex_iaload, ↓sRI_c, ↓scrR_n, fL_c21_785, ↓ex_invokevirtual, ↓xc_0, ↓xc_s, ↓xc_1, ↓pk_s, ↓k_s, ↓k_n, catS_n, catS_c, rOk_c, ct_i, ct_l, ct_r, ↓pk_f, fL_c21_788, fL_c21_789, fL_c21_790, fL_c21_791, fL_c21_792, fL_c21_793, fL_c21_794, fL_c21_797, ↓ex_if_icmp_eq, fL_c21_800, fL_c21_801, ↓ex_ireturn, ↓rt_i, p0, p51, q0, q51, scrR_s, scrN_s, add1N, a2N, a3N, a4N, v1, v2, v3, v4, ↓C_X3_decoy, ↓C_X4_decoy, PubI, PubL, PubMI, PubML, lg_cmp_eq, ↓reduceIte, not_true_eq_false, not_false_eq_true, false_implies, true_implies, implies_true, and_true, true_and, and_false, false_and, or_true, true_or, or_false, false_or, Classical.not_not, ite_true, ite_false]
  exact ⟨g, hC, fun X1 h1 f1 => ⟨g, hM.frM f1, fun X2 h2 f2 => ⟨fun _ => hout X2 ⟨_, h1.frC f2, h2⟩, fun z => absurd rfl z⟩⟩⟩
set_option maxHeartbeats 4000000 in
set_option maxRecDepth 20000 in
theorem case_22 {xs : Nat → Int32} {L i : Nat} {X : XT} {R : KT} (hR : Clo tL_c22 1 [(108, false, 1, 3, C_X3_possible), (111, false, 1, 4, C_X4_possible)] (some xs) L postL R) (hL : L ≤ 2560) (hi : i + 5 ≤ L) (hB : both X) (hout : ∀ X2, both X2 → R 950 (lvL i) [] X2) : R 802 (lvL i) [] X := by
  obtain ⟨g, hC, hM⟩ := hB
  obtain ⟨⟨p0, p51⟩, q0, q51⟩ := sh_law
  have v1 : vp_in (nI (i + 1)) L = True := eq_true (vp_inN (by omega) (by omega))
  have v2 : vp_in (nI (i + 2)) L = True := eq_true (vp_inN (by omega) (by omega))
  have v3 : vp_in (nI (i + 3)) L = True := eq_true (vp_inN (by omega) (by omega))
  have v4 : vp_in (nI (i + 4)) L = True := eq_true (vp_inN (by omega) (by omega))
  refine go hR [(950, [0, 1, 2, 3])] 80 ?_
  simp only [lvL, ↓reduceIte, Nat.reduceEqDiff, Nat.reduceAdd, Nat.reduceLeDiff, reduceCtorEq, and_true, true_and, false_and, and_false, true_or, or_true, or_false, false_or, true_implies, false_implies, implies_true, not_true_eq_false, not_false_eq_true, eq_self, fx_s, ↓run_s, run_0, ↓rs_n, ↓rs_c, as_s, ls_n, ls_c, lc_s, lget_c, fL_c22_802, ↓ex_aload_n, ↓xR_r, ↓xRg_c, fL_c22_803, ↓ex_invokevirtual, ↓xc_0, ↓xc_s, ↓xc_1, ↓pk_s, ↓k_s, ↓k_n, catS_n, catS_c, rOk_c, ct_i, ct_l, ct_r, ↓pk_f, fL_c22_806, fL_c22_807, fL_c22_810, ↓ex_if_icmp_eq, ↓s2I_c, fL_c22_813, ↓ex_iconst, fL_c22_814, ↓ex_ireturn, ↓rt_i, p0, p51, q0, q51, scrR_s, scrN_s, add1N, a2N, a3N, a4N, v1, v2, v3, v4, ↓C_X3_possible, ↓C_X4_possible, PubI, PubL, PubMI, PubML, lg_cmp_eq, ↓reduceIte, not_true_eq_false, not_false_eq_true, false_implies, true_implies, implies_true, and_true, true_and, and_false, false_and, or_true, true_or, or_false, false_or, Classical.not_not, ite_true, ite_false]
  exact ⟨g, hC, fun X1 h1 f1 => ⟨g, hM.frM f1, fun X2 h2 f2 => ⟨fun _ => hout X2 ⟨_, h1.frC f2, h2⟩, fun z => absurd rfl z⟩⟩⟩
set_option maxHeartbeats 4000000 in
set_option maxRecDepth 20000 in
theorem case_23 {xs : Nat → Int32} {L i : Nat} {X : XT} {R : KT} (hR : Clo tL_c23 1 [(112, false, 2, 3, C_X3_explanation), (115, false, 2, 4, C_X4_explanation)] (some xs) L postL R) (hL : L ≤ 2560) (hi : i + 5 ≤ L) (hB : both X) (hout : ∀ X2, both X2 → R 950 (lvL i) [] X2) : R 815 (lvL i) [] X := by
  obtain ⟨g, hC, hM⟩ := hB
  obtain ⟨⟨p0, p51⟩, q0, q51⟩ := sh_law
  have v1 : vp_in (nI (i + 1)) L = True := eq_true (vp_inN (by omega) (by omega))
  have v2 : vp_in (nI (i + 2)) L = True := eq_true (vp_inN (by omega) (by omega))
  have v3 : vp_in (nI (i + 3)) L = True := eq_true (vp_inN (by omega) (by omega))
  have v4 : vp_in (nI (i + 4)) L = True := eq_true (vp_inN (by omega) (by omega))
  refine go hR [(950, [0, 1, 2, 3])] 80 ?_
  simp only [lvL, ↓reduceIte, Nat.reduceEqDiff, Nat.reduceAdd, Nat.reduceLeDiff, reduceCtorEq, and_true, true_and, false_and, and_false, true_or, or_true, or_false, false_or, true_implies, false_implies, implies_true, not_true_eq_false, not_false_eq_true, eq_self, fx_s, ↓run_s, run_0, ↓rs_n, ↓rs_c, as_s, ls_n, ls_c, lc_s, lget_c, fL_c23_815, ↓ex_aload_n, ↓xR_r, ↓xRg_c, fL_c23_816, fL_c23_817, ↓ex_iload_n, ↓xI_i, ↓xIg_c, fL_c23_818, ↓ex_iconst, fL_c23_819, ↓ex_iadd, ↓s2I_c, fL_c23_820, ↓ex_iaload, ↓sRI_c, ↓scrR_n, fL_c23_821, ↓ex_invokevirtual, ↓xc_0, ↓xc_s, ↓xc_1, ↓pk_s, ↓k_s, ↓k_n, catS_n, catS_c, rOk_c, ct_i, ct_l, ct_r, ↓pk_f, fL_c23_824, fL_c23_825, fL_c23_826, fL_c23_827, fL_c23_828, fL_c23_829, fL_c23_830, fL_c23_833, ↓ex_if_icmp_eq, fL_c23_836, fL_c23_837, ↓ex_ireturn, ↓rt_i, p0, p51, q0, q51, scrR_s, scrN_s, add1N, a2N, a3N, a4N, v1, v2, v3, v4, ↓C_X3_explanation, ↓C_X4_explanation, PubI, PubL, PubMI, PubML, lg_cmp_eq, ↓reduceIte, not_true_eq_false, not_false_eq_true, false_implies, true_implies, implies_true, and_true, true_and, and_false, false_and, or_true, true_or, or_false, false_or, Classical.not_not, ite_true, ite_false]
  exact ⟨g, hC, fun X1 h1 f1 => ⟨g, hM.frM f1, fun X2 h2 f2 => ⟨fun _ => hout X2 ⟨_, h1.frC f2, h2⟩, fun z => absurd rfl z⟩⟩⟩
set_option maxHeartbeats 4000000 in
set_option maxRecDepth 20000 in
theorem case_24 {xs : Nat → Int32} {L i : Nat} {X : XT} {R : KT} (hR : Clo tL_c24 1 [(116, false, 2, 3, C_X3_values), (119, false, 2, 4, C_X4_values)] (some xs) L postL R) (hL : L ≤ 2560) (hi : i + 5 ≤ L) (hB : both X) (hout : ∀ X2, both X2 → R 950 (lvL i) [] X2) : R 838 (lvL i) [] X := by
  obtain ⟨g, hC, hM⟩ := hB
  obtain ⟨⟨p0, p51⟩, q0, q51⟩ := sh_law
  have v1 : vp_in (nI (i + 1)) L = True := eq_true (vp_inN (by omega) (by omega))
  have v2 : vp_in (nI (i + 2)) L = True := eq_true (vp_inN (by omega) (by omega))
  have v3 : vp_in (nI (i + 3)) L = True := eq_true (vp_inN (by omega) (by omega))
  have v4 : vp_in (nI (i + 4)) L = True := eq_true (vp_inN (by omega) (by omega))
  refine go hR [(950, [0, 1, 2, 3])] 80 ?_
  simp only [lvL, ↓reduceIte, Nat.reduceEqDiff, Nat.reduceAdd, Nat.reduceLeDiff, reduceCtorEq, and_true, true_and, false_and, and_false, true_or, or_true, or_false, false_or, true_implies, false_implies, implies_true, not_true_eq_false, not_false_eq_true, eq_self, fx_s, ↓run_s, run_0, ↓rs_n, ↓rs_c, as_s, ls_n, ls_c, lc_s, lget_c, fL_c24_838, ↓ex_aload_n, ↓xR_r, ↓xRg_c, fL_c24_839, fL_c24_840, ↓ex_iload_n, ↓xI_i, ↓xIg_c, fL_c24_841, ↓ex_iconst, fL_c24_842, ↓ex_iadd, ↓s2I_c, fL_c24_843, ↓ex_iaload, ↓sRI_c, ↓scrR_n, fL_c24_844, ↓ex_invokevirtual, ↓xc_0, ↓xc_s, ↓xc_1, ↓pk_s, ↓k_s, ↓k_n, catS_n, catS_c, rOk_c, ct_i, ct_l, ct_r, ↓pk_f, fL_c24_847, fL_c24_848, fL_c24_849, fL_c24_850, fL_c24_851, fL_c24_852, fL_c24_853, fL_c24_856, ↓ex_if_icmp_eq, fL_c24_859, fL_c24_860, ↓ex_ireturn, ↓rt_i, p0, p51, q0, q51, scrR_s, scrN_s, add1N, a2N, a3N, a4N, v1, v2, v3, v4, ↓C_X3_values, ↓C_X4_values, PubI, PubL, PubMI, PubML, lg_cmp_eq, ↓reduceIte, not_true_eq_false, not_false_eq_true, false_implies, true_implies, implies_true, and_true, true_and, and_false, false_and, or_true, true_or, or_false, false_or, Classical.not_not, ite_true, ite_false]
  exact ⟨g, hC, fun X1 h1 f1 => ⟨g, hM.frM f1, fun X2 h2 f2 => ⟨fun _ => hout X2 ⟨_, h1.frC f2, h2⟩, fun z => absurd rfl z⟩⟩⟩
set_option maxHeartbeats 4000000 in
set_option maxRecDepth 20000 in
theorem case_25 {xs : Nat → Int32} {L i : Nat} {X : XT} {R : KT} (hR : Clo tL_c25 1 [(120, false, 1, 3, C_X3_undo), (123, false, 1, 4, C_X4_undo)] (some xs) L postL R) (hL : L ≤ 2560) (hi : i + 5 ≤ L) (hB : both X) (hout : ∀ X2, both X2 → R 950 (lvL i) [] X2) : R 861 (lvL i) [] X := by
  obtain ⟨g, hC, hM⟩ := hB
  obtain ⟨⟨p0, p51⟩, q0, q51⟩ := sh_law
  have v1 : vp_in (nI (i + 1)) L = True := eq_true (vp_inN (by omega) (by omega))
  have v2 : vp_in (nI (i + 2)) L = True := eq_true (vp_inN (by omega) (by omega))
  have v3 : vp_in (nI (i + 3)) L = True := eq_true (vp_inN (by omega) (by omega))
  have v4 : vp_in (nI (i + 4)) L = True := eq_true (vp_inN (by omega) (by omega))
  refine go hR [(950, [0, 1, 2, 3])] 80 ?_
  simp only [lvL, ↓reduceIte, Nat.reduceEqDiff, Nat.reduceAdd, Nat.reduceLeDiff, reduceCtorEq, and_true, true_and, false_and, and_false, true_or, or_true, or_false, false_or, true_implies, false_implies, implies_true, not_true_eq_false, not_false_eq_true, eq_self, fx_s, ↓run_s, run_0, ↓rs_n, ↓rs_c, as_s, ls_n, ls_c, lc_s, lget_c, fL_c25_861, ↓ex_aload_n, ↓xR_r, ↓xRg_c, fL_c25_862, ↓ex_invokevirtual, ↓xc_0, ↓xc_s, ↓xc_1, ↓pk_s, ↓k_s, ↓k_n, catS_n, catS_c, rOk_c, ct_i, ct_l, ct_r, ↓pk_f, fL_c25_865, fL_c25_866, fL_c25_869, ↓ex_if_icmp_eq, ↓s2I_c, fL_c25_872, ↓ex_iconst, fL_c25_873, ↓ex_ireturn, ↓rt_i, p0, p51, q0, q51, scrR_s, scrN_s, add1N, a2N, a3N, a4N, v1, v2, v3, v4, ↓C_X3_undo, ↓C_X4_undo, PubI, PubL, PubMI, PubML, lg_cmp_eq, ↓reduceIte, not_true_eq_false, not_false_eq_true, false_implies, true_implies, implies_true, and_true, true_and, and_false, false_and, or_true, true_or, or_false, false_or, Classical.not_not, ite_true, ite_false]
  exact ⟨g, hC, fun X1 h1 f1 => ⟨g, hM.frM f1, fun X2 h2 f2 => ⟨fun _ => hout X2 ⟨_, h1.frC f2, h2⟩, fun z => absurd rfl z⟩⟩⟩
set_option maxHeartbeats 4000000 in
set_option maxRecDepth 20000 in
theorem case_26 {xs : Nat → Int32} {L i : Nat} {X : XT} {R : KT} (hR : Clo tL_c26 1 [(124, false, 2, 3, C_X3_type), (127, false, 2, 4, C_X4_type)] (some xs) L postL R) (hL : L ≤ 2560) (hi : i + 5 ≤ L) (hB : both X) (hout : ∀ X2, both X2 → R 950 (lvL i) [] X2) : R 874 (lvL i) [] X := by
  obtain ⟨g, hC, hM⟩ := hB
  obtain ⟨⟨p0, p51⟩, q0, q51⟩ := sh_law
  have v1 : vp_in (nI (i + 1)) L = True := eq_true (vp_inN (by omega) (by omega))
  have v2 : vp_in (nI (i + 2)) L = True := eq_true (vp_inN (by omega) (by omega))
  have v3 : vp_in (nI (i + 3)) L = True := eq_true (vp_inN (by omega) (by omega))
  have v4 : vp_in (nI (i + 4)) L = True := eq_true (vp_inN (by omega) (by omega))
  refine go hR [(950, [0, 1, 2, 3])] 80 ?_
  simp only [lvL, ↓reduceIte, Nat.reduceEqDiff, Nat.reduceAdd, Nat.reduceLeDiff, reduceCtorEq, and_true, true_and, false_and, and_false, true_or, or_true, or_false, false_or, true_implies, false_implies, implies_true, not_true_eq_false, not_false_eq_true, eq_self, fx_s, ↓run_s, run_0, ↓rs_n, ↓rs_c, as_s, ls_n, ls_c, lc_s, lget_c, fL_c26_874, ↓ex_aload_n, ↓xR_r, ↓xRg_c, fL_c26_875, fL_c26_876, ↓ex_iload_n, ↓xI_i, ↓xIg_c, fL_c26_877, ↓ex_iconst, fL_c26_878, ↓ex_iadd, ↓s2I_c, fL_c26_879, ↓ex_iaload, ↓sRI_c, ↓scrR_n, fL_c26_880, ↓ex_invokevirtual, ↓xc_0, ↓xc_s, ↓xc_1, ↓pk_s, ↓k_s, ↓k_n, catS_n, catS_c, rOk_c, ct_i, ct_l, ct_r, ↓pk_f, fL_c26_883, fL_c26_884, fL_c26_885, fL_c26_886, fL_c26_887, fL_c26_888, fL_c26_889, fL_c26_892, ↓ex_if_icmp_eq, fL_c26_895, fL_c26_896, ↓ex_ireturn, ↓rt_i, p0, p51, q0, q51, scrR_s, scrN_s, add1N, a2N, a3N, a4N, v1, v2, v3, v4, ↓C_X3_type, ↓C_X4_type, PubI, PubL, PubMI, PubML, lg_cmp_eq, ↓reduceIte, not_true_eq_false, not_false_eq_true, false_implies, true_implies, implies_true, and_true, true_and, and_false, false_and, or_true, true_or, or_false, false_or, Classical.not_not, ite_true, ite_false]
  exact ⟨g, hC, fun X1 h1 f1 => ⟨g, hM.frM f1, fun X2 h2 f2 => ⟨fun _ => hout X2 ⟨_, h1.frC f2, h2⟩, fun z => absurd rfl z⟩⟩⟩
set_option maxHeartbeats 4000000 in
set_option maxRecDepth 20000 in
theorem case_27 {xs : Nat → Int32} {L i : Nat} {X : XT} {R : KT} (hR : Clo tL_c27 1 [(128, false, 1, 3, C_X3_clearText), (131, false, 1, 4, C_X4_clearText)] (some xs) L postL R) (hL : L ≤ 2560) (hi : i + 5 ≤ L) (hB : both X) (hout : ∀ X2, both X2 → R 950 (lvL i) [] X2) : R 897 (lvL i) [] X := by
  obtain ⟨g, hC, hM⟩ := hB
  obtain ⟨⟨p0, p51⟩, q0, q51⟩ := sh_law
  have v1 : vp_in (nI (i + 1)) L = True := eq_true (vp_inN (by omega) (by omega))
  have v2 : vp_in (nI (i + 2)) L = True := eq_true (vp_inN (by omega) (by omega))
  have v3 : vp_in (nI (i + 3)) L = True := eq_true (vp_inN (by omega) (by omega))
  have v4 : vp_in (nI (i + 4)) L = True := eq_true (vp_inN (by omega) (by omega))
  refine go hR [(950, [0, 1, 2, 3])] 80 ?_
  simp only [lvL, ↓reduceIte, Nat.reduceEqDiff, Nat.reduceAdd, Nat.reduceLeDiff, reduceCtorEq, and_true, true_and, false_and, and_false, true_or, or_true, or_false, false_or, true_implies, false_implies, implies_true, not_true_eq_false, not_false_eq_true, eq_self, fx_s, ↓run_s, run_0, ↓rs_n, ↓rs_c, as_s, ls_n, ls_c, lc_s, lget_c, fL_c27_897, ↓ex_aload_n, ↓xR_r, ↓xRg_c, fL_c27_898, ↓ex_invokevirtual, ↓xc_0, ↓xc_s, ↓xc_1, ↓pk_s, ↓k_s, ↓k_n, catS_n, catS_c, rOk_c, ct_i, ct_l, ct_r, ↓pk_f, fL_c27_901, fL_c27_902, fL_c27_905, ↓ex_if_icmp_eq, ↓s2I_c, fL_c27_908, ↓ex_iconst, fL_c27_909, ↓ex_ireturn, ↓rt_i, p0, p51, q0, q51, scrR_s, scrN_s, add1N, a2N, a3N, a4N, v1, v2, v3, v4, ↓C_X3_clearText, ↓C_X4_clearText, PubI, PubL, PubMI, PubML, lg_cmp_eq, ↓reduceIte, not_true_eq_false, not_false_eq_true, false_implies, true_implies, implies_true, and_true, true_and, and_false, false_and, or_true, true_or, or_false, false_or, Classical.not_not, ite_true, ite_false]
  exact ⟨g, hC, fun X1 h1 f1 => ⟨g, hM.frM f1, fun X2 h2 f2 => ⟨fun _ => hout X2 ⟨_, h1.frC f2, h2⟩, fun z => absurd rfl z⟩⟩⟩
set_option maxHeartbeats 4000000 in
set_option maxRecDepth 20000 in
theorem case_28 {xs : Nat → Int32} {L i : Nat} {X : XT} {R : KT} (hR : Clo tL_c28 1 [(132, false, 1, 3, C_X3_textFault), (135, false, 1, 4, C_X4_textFault)] (some xs) L postL R) (hL : L ≤ 2560) (hi : i + 5 ≤ L) (hB : both X) (hout : ∀ X2, both X2 → R 950 (lvL i) [] X2) : R 910 (lvL i) [] X := by
  obtain ⟨g, hC, hM⟩ := hB
  obtain ⟨⟨p0, p51⟩, q0, q51⟩ := sh_law
  have v1 : vp_in (nI (i + 1)) L = True := eq_true (vp_inN (by omega) (by omega))
  have v2 : vp_in (nI (i + 2)) L = True := eq_true (vp_inN (by omega) (by omega))
  have v3 : vp_in (nI (i + 3)) L = True := eq_true (vp_inN (by omega) (by omega))
  have v4 : vp_in (nI (i + 4)) L = True := eq_true (vp_inN (by omega) (by omega))
  refine go hR [(950, [0, 1, 2, 3])] 80 ?_
  simp only [lvL, ↓reduceIte, Nat.reduceEqDiff, Nat.reduceAdd, Nat.reduceLeDiff, reduceCtorEq, and_true, true_and, false_and, and_false, true_or, or_true, or_false, false_or, true_implies, false_implies, implies_true, not_true_eq_false, not_false_eq_true, eq_self, fx_s, ↓run_s, run_0, ↓rs_n, ↓rs_c, as_s, ls_n, ls_c, lc_s, lget_c, fL_c28_910, ↓ex_aload_n, ↓xR_r, ↓xRg_c, fL_c28_911, ↓ex_invokevirtual, ↓xc_0, ↓xc_s, ↓xc_1, ↓pk_s, ↓k_s, ↓k_n, catS_n, catS_c, rOk_c, ct_i, ct_l, ct_r, ↓pk_f, fL_c28_914, fL_c28_915, fL_c28_918, ↓ex_if_icmp_eq, ↓s2I_c, fL_c28_921, ↓ex_iconst, fL_c28_922, ↓ex_ireturn, ↓rt_i, p0, p51, q0, q51, scrR_s, scrN_s, add1N, a2N, a3N, a4N, v1, v2, v3, v4, ↓C_X3_textFault, ↓C_X4_textFault, PubI, PubL, PubMI, PubML, lg_cmp_eq, ↓reduceIte, not_true_eq_false, not_false_eq_true, false_implies, true_implies, implies_true, and_true, true_and, and_false, false_and, or_true, true_or, or_false, false_or, Classical.not_not, ite_true, ite_false]
  exact ⟨g, hC, fun X1 h1 f1 => ⟨g, hM.frM f1, fun X2 h2 f2 => ⟨fun _ => hout X2 ⟨_, h1.frC f2, h2⟩, fun z => absurd rfl z⟩⟩⟩
set_option maxHeartbeats 4000000 in
set_option maxRecDepth 20000 in
theorem case_29 {xs : Nat → Int32} {L i : Nat} {X : XT} {R : KT} (hR : Clo tL_c29 1 [(136, false, 1, 3, C_X3_load), (139, false, 1, 4, C_X4_load)] (some xs) L postL R) (hL : L ≤ 2560) (hi : i + 5 ≤ L) (hB : both X) (hout : ∀ X2, both X2 → R 950 (lvL i) [] X2) : R 923 (lvL i) [] X := by
  obtain ⟨g, hC, hM⟩ := hB
  obtain ⟨⟨p0, p51⟩, q0, q51⟩ := sh_law
  have v1 : vp_in (nI (i + 1)) L = True := eq_true (vp_inN (by omega) (by omega))
  have v2 : vp_in (nI (i + 2)) L = True := eq_true (vp_inN (by omega) (by omega))
  have v3 : vp_in (nI (i + 3)) L = True := eq_true (vp_inN (by omega) (by omega))
  have v4 : vp_in (nI (i + 4)) L = True := eq_true (vp_inN (by omega) (by omega))
  refine go hR [(950, [0, 1, 2, 3])] 80 ?_
  simp only [lvL, ↓reduceIte, Nat.reduceEqDiff, Nat.reduceAdd, Nat.reduceLeDiff, reduceCtorEq, and_true, true_and, false_and, and_false, true_or, or_true, or_false, false_or, true_implies, false_implies, implies_true, not_true_eq_false, not_false_eq_true, eq_self, fx_s, ↓run_s, run_0, ↓rs_n, ↓rs_c, as_s, ls_n, ls_c, lc_s, lget_c, fL_c29_923, ↓ex_aload_n, ↓xR_r, ↓xRg_c, fL_c29_924, ↓ex_invokevirtual, ↓xc_0, ↓xc_s, ↓xc_1, ↓pk_s, ↓k_s, ↓k_n, catS_n, catS_c, rOk_c, ct_i, ct_l, ct_r, ↓pk_f, fL_c29_927, fL_c29_928, fL_c29_931, ↓ex_if_icmp_eq, ↓s2I_c, fL_c29_934, ↓ex_iconst, fL_c29_935, ↓ex_ireturn, ↓rt_i, p0, p51, q0, q51, scrR_s, scrN_s, add1N, a2N, a3N, a4N, v1, v2, v3, v4, ↓C_X3_load, ↓C_X4_load, PubI, PubL, PubMI, PubML, lg_cmp_eq, ↓reduceIte, not_true_eq_false, not_false_eq_true, false_implies, true_implies, implies_true, and_true, true_and, and_false, false_and, or_true, true_or, or_false, false_or, Classical.not_not, ite_true, ite_false]
  exact ⟨g, hC, fun X1 h1 f1 => ⟨g, hM.frM f1, fun X2 h2 f2 => ⟨fun _ => hout X2 ⟨_, h1.frC f2, h2⟩, fun z => absurd rfl z⟩⟩⟩
set_option maxHeartbeats 4000000 in
set_option maxRecDepth 20000 in
theorem case_30 {xs : Nat → Int32} {L i : Nat} {X : XT} {R : KT} (hR : Clo tL_c30 1 [(140, false, 1, 3, C_X3_digest), (144, false, 1, 4, C_X4_digest)] (some xs) L postL R) (hL : L ≤ 2560) (hi : i + 5 ≤ L) (hB : both X) (hout : ∀ X2, both X2 → R 950 (lvL i) [] X2) : R 936 (lvL i) [] X := by
  obtain ⟨g, hC, hM⟩ := hB
  obtain ⟨⟨p0, p51⟩, q0, q51⟩ := sh_law
  have v1 : vp_in (nI (i + 1)) L = True := eq_true (vp_inN (by omega) (by omega))
  have v2 : vp_in (nI (i + 2)) L = True := eq_true (vp_inN (by omega) (by omega))
  have v3 : vp_in (nI (i + 3)) L = True := eq_true (vp_inN (by omega) (by omega))
  have v4 : vp_in (nI (i + 4)) L = True := eq_true (vp_inN (by omega) (by omega))
  refine go hR [(950, [0, 1, 2, 3])] 80 ?_
  simp only [lvL, ↓reduceIte, Nat.reduceEqDiff, Nat.reduceAdd, Nat.reduceLeDiff, reduceCtorEq, and_true, true_and, false_and, and_false, true_or, or_true, or_false, false_or, true_implies, false_implies, implies_true, not_true_eq_false, not_false_eq_true, eq_self, fx_s, ↓run_s, run_0, ↓rs_n, ↓rs_c, as_s, ls_n, ls_c, lc_s, lget_c, fL_c30_936, ↓ex_aload_n, ↓xR_r, ↓xRg_c, fL_c30_937, ↓ex_invokevirtual, ↓xc_0, ↓xc_s, ↓xc_1, ↓pk_s, ↓k_s, ↓k_n, catS_n, catS_c, rOk_c, ct_i, ct_l, ct_r, ↓pk_f, fL_c30_940, fL_c30_941, fL_c30_944, ↓ex_lcmp, ↓s2L_c, fL_c30_945, ↓ex_ifCond_eq, ↓s1I_c, fL_c30_948, ↓ex_iconst, fL_c30_949, ↓ex_ireturn, ↓rt_i, p0, p51, q0, q51, scrR_s, scrN_s, add1N, a2N, a3N, a4N, v1, v2, v3, v4, ↓C_X3_digest, ↓C_X4_digest, PubI, PubL, PubMI, PubML, lg_cmp_eq, ↓reduceIte, not_true_eq_false, not_false_eq_true, false_implies, true_implies, implies_true, and_true, true_and, and_false, false_and, or_true, true_or, or_false, false_or, Classical.not_not, ite_true, ite_false]
  exact ⟨g, hC, fun X1 h1 f1 => ⟨g, hM.frM f1, fun X2 h2 f2 => ⟨fun _ => hout X2 ⟨_, h1.frC f2, h2⟩, fun z => absurd rfl z⟩⟩⟩
set_option maxHeartbeats 4000000 in
theorem law_loop {xs : Nat → Int32} {L : Nat} {R : KT} (hL : L ≤ 2560) (hh : Clo tL_h 1 [] (some xs) L postL R) (h0 : Clo tL_c0 1 [(13, false, 5, 3, C_X3_addEdge), (17, false, 5, 4, C_X4_addEdge)] (some xs) L postL R) (h1 : Clo tL_c1 1 [(18, false, 4, 3, C_X3_setEdge), (22, false, 4, 4, C_X4_setEdge)] (some xs) L postL R) (h2 : Clo tL_c2 1 [(23, false, 2, 3, C_X3_removeEdge), (27, false, 2, 4, C_X4_removeEdge)] (some xs) L postL R) (h3 : Clo tL_c3 1 [(28, false, 1, 3, C_X3_edges), (32, false, 1, 4, C_X4_edges)] (some xs) L postL R) (h4 : Clo tL_c4 1 [(33, false, 3, 3, C_X3_edge), (37, false, 3, 4, C_X4_edge)] (some xs) L postL R) (h5 : Clo tL_c5 1 [(38, false, 3, 3, C_X3_edgeBetween), (41, false, 3, 4, C_X4_edgeBetween)] (some xs) L postL R) (h6 : Clo tL_c6 1 [(42, false, 2, 3, C_X3_setHorizon), (45, false, 2, 4, C_X4_setHorizon)] (some xs) L postL R) (h7 : Clo tL_c7 1 [(46, false, 3, 3, C_X3_observe), (49, false, 3, 4, C_X4_observe)] (some xs) L postL R) (h8 : Clo tL_c8 1 [(50, false, 2, 3, C_X3_forget), (53, false, 2, 4, C_X4_forget)] (some xs) L postL R) (h9 : Clo tL_c9 1 [(54, false, 2, 3, C_X3_observed), (57, false, 2, 4, C_X4_observed)] (some xs) L postL R) (h10 : Clo tL_c10 1 [(58, false, 2, 3, C_X3_setSensors), (61, false, 2, 4, C_X4_setSensors)] (some xs) L postL R) (h11 : Clo tL_c11 1 [(62, false, 3, 3, C_X3_simulate), (65, false, 3, 4, C_X4_simulate)] (some xs) L postL R) (h12 : Clo tL_c12 1 [(66, false, 4, 3, C_X3_timeBy), (69, false, 4, 4, C_X4_timeBy)] (some xs) L postL R) (h13 : Clo tL_c13 1 [(70, false, 2, 3, C_X3_weight), (74, false, 2, 4, C_X4_weight)] (some xs) L postL R) (h14 : Clo tL_c14 1 [(75, false, 3, 3, C_X3_fits), (78, false, 3, 4, C_X4_fits)] (some xs) L postL R) (h15 : Clo tL_c15 1 [(79, false, 4, 3, C_X3_timeWeight), (83, false, 4, 4, C_X4_timeWeight)] (some xs) L postL R) (h16 : Clo tL_c16 1 [(84, false, 2, 3, C_X3_reach), (87, false, 2, 4, C_X4_reach)] (some xs) L postL R) (h17 : Clo tL_c17 1 [(88, false, 2, 3, C_X3_likelihood), (91, false, 2, 4, C_X4_likelihood)] (some xs) L postL R) (h18 : Clo tL_c18 1 [(92, false, 1, 3, C_X3_candidates), (95, false, 1, 4, C_X4_candidates)] (some xs) L postL R) (h19 : Clo tL_c19 1 [(96, false, 2, 3, C_X3_candidate), (99, false, 2, 4, C_X4_candidate)] (some xs) L postL R) (h20 : Clo tL_c20 1 [(100, false, 2, 3, C_X3_belief), (103, false, 2, 4, C_X4_belief)] (some xs) L postL R) (h21 : Clo tL_c21 1 [(104, false, 2, 3, C_X3_decoy), (107, false, 2, 4, C_X4_decoy)] (some xs) L postL R) (h22 : Clo tL_c22 1 [(108, false, 1, 3, C_X3_possible), (111, false, 1, 4, C_X4_possible)] (some xs) L postL R) (h23 : Clo tL_c23 1 [(112, false, 2, 3, C_X3_explanation), (115, false, 2, 4, C_X4_explanation)] (some xs) L postL R) (h24 : Clo tL_c24 1 [(116, false, 2, 3, C_X3_values), (119, false, 2, 4, C_X4_values)] (some xs) L postL R) (h25 : Clo tL_c25 1 [(120, false, 1, 3, C_X3_undo), (123, false, 1, 4, C_X4_undo)] (some xs) L postL R) (h26 : Clo tL_c26 1 [(124, false, 2, 3, C_X3_type), (127, false, 2, 4, C_X4_type)] (some xs) L postL R) (h27 : Clo tL_c27 1 [(128, false, 1, 3, C_X3_clearText), (131, false, 1, 4, C_X4_clearText)] (some xs) L postL R) (h28 : Clo tL_c28 1 [(132, false, 1, 3, C_X3_textFault), (135, false, 1, 4, C_X4_textFault)] (some xs) L postL R) (h29 : Clo tL_c29 1 [(136, false, 1, 3, C_X3_load), (139, false, 1, 4, C_X4_load)] (some xs) L postL R) (h30 : Clo tL_c30 1 [(140, false, 1, 3, C_X3_digest), (144, false, 1, 4, C_X4_digest)] (some xs) L postL R) : ∀ (n i : Nat) (X : XT), L < i + 5 * n → i ≤ L + 5 → both X → R 18 (lvL i) [] X := by
  intro n
  have eL : (Int32.ofNat L - 5 : Int32).toInt = (L : Int) - 5 := pk_sub_toInt (a := L) (b := 5) (by omega) (by omega)
  induction n with
  | zero =>
    intro i X hn hi hB
    refine go hh [(950, [0, 1, 2, 3])] 60 ?_
    simp only [lvL, ↓reduceIte, Nat.reduceEqDiff, Nat.reduceAdd, Nat.reduceLeDiff, reduceCtorEq, and_true, true_and, false_and, and_false, true_or, or_true, or_false, false_or, true_implies, false_implies, implies_true, not_true_eq_false, not_false_eq_true, eq_self, fx_s, ↓run_s, run_0, ↓rs_n, ↓rs_c, as_s, ls_n, ls_c, lc_s, lget_c, fL_h_16, ↓ex_iconst, fL_h_17, ↓ex_istore_n, ↓s1I_c, ↓lsto_e, ↓lrmK_n, ↓lrmK_f, ct_i, ct_l, ct_r, fL_h_18, ↓ex_iload_n, ↓xI_i, ↓xIg_c, fL_h_19, ↓ex_aload_n, ↓xR_r, ↓xRg_c, fL_h_20, ↓ex_arraylength, ↓s1R_c, ↓scrN_n, fL_h_21, fL_h_22, ↓ex_isub, ↓s2I_c, fL_h_23, ↓ex_if_icmp_gt, fL_h_26, fL_h_27, fL_h_28, ↓ex_iaload, ↓sRI_c, ↓scrR_n, fL_h_29, ↓ex_bipush, fL_h_31, ↓ex_iand, fL_h_32, ↓ex_tableswitch, fL_h_950, ↓ex_iinc, fL_h_953, ↓ex_goto, fL_h_956, fL_h_957, ↓ex_ireturn, ↓rt_i, scrR_s, scrN_s, ltI, eL, nI_toInt (n := i) (by omega), ↓reduceIte, not_true_eq_false, not_false_eq_true, false_implies, true_implies, implies_true, and_true, true_and, and_false, false_and, or_true, true_or, or_false, false_or, Classical.not_not, ite_true, ite_false]
    exact ⟨fun _ => ⟨bl_1, rfl⟩, fun z => absurd (by omega) z⟩
  | succ n ih =>
    intro i X hn hi hB
    by_cases hend : L < i + 5
    · refine go hh [(950, [0, 1, 2, 3])] 60 ?_
      simp only [lvL, ↓reduceIte, Nat.reduceEqDiff, Nat.reduceAdd, Nat.reduceLeDiff, reduceCtorEq, and_true, true_and, false_and, and_false, true_or, or_true, or_false, false_or, true_implies, false_implies, implies_true, not_true_eq_false, not_false_eq_true, eq_self, fx_s, ↓run_s, run_0, ↓rs_n, ↓rs_c, as_s, ls_n, ls_c, lc_s, lget_c, fL_h_16, ↓ex_iconst, fL_h_17, ↓ex_istore_n, ↓s1I_c, ↓lsto_e, ↓lrmK_n, ↓lrmK_f, ct_i, ct_l, ct_r, fL_h_18, ↓ex_iload_n, ↓xI_i, ↓xIg_c, fL_h_19, ↓ex_aload_n, ↓xR_r, ↓xRg_c, fL_h_20, ↓ex_arraylength, ↓s1R_c, ↓scrN_n, fL_h_21, fL_h_22, ↓ex_isub, ↓s2I_c, fL_h_23, ↓ex_if_icmp_gt, fL_h_26, fL_h_27, fL_h_28, ↓ex_iaload, ↓sRI_c, ↓scrR_n, fL_h_29, ↓ex_bipush, fL_h_31, ↓ex_iand, fL_h_32, ↓ex_tableswitch, fL_h_950, ↓ex_iinc, fL_h_953, ↓ex_goto, fL_h_956, fL_h_957, ↓ex_ireturn, ↓rt_i, scrR_s, scrN_s, ltI, eL, nI_toInt (n := i) (by omega), ↓reduceIte, not_true_eq_false, not_false_eq_true, false_implies, true_implies, implies_true, and_true, true_and, and_false, false_and, or_true, true_or, or_false, false_or, Classical.not_not, ite_true, ite_false]
      exact ⟨fun _ => ⟨bl_1, rfl⟩, fun z => absurd (by omega) z⟩
    · have hle : i + 5 ≤ L := by omega
      have vi : vp_in (nI i) L = True := eq_true (vp_inN (by omega) (by omega))
      have hout : ∀ X2, both X2 → R 950 (lvL i) [] X2 := by
        intro X2 hB2
        refine go hh [(18, [0, 1, 2, 3])] 20 ?_
        simp only [lvL, ↓reduceIte, Nat.reduceEqDiff, Nat.reduceAdd, Nat.reduceLeDiff, reduceCtorEq, and_true, true_and, false_and, and_false, true_or, or_true, or_false, false_or, true_implies, false_implies, implies_true, not_true_eq_false, not_false_eq_true, eq_self, fx_s, ↓run_s, run_0, ↓rs_n, ↓rs_c, as_s, ls_n, ls_c, lc_s, lget_c, fL_h_16, ↓ex_iconst, fL_h_17, ↓ex_istore_n, ↓s1I_c, ↓lsto_e, ↓lrmK_n, ↓lrmK_f, ct_i, ct_l, ct_r, fL_h_18, ↓ex_iload_n, ↓xI_i, ↓xIg_c, fL_h_19, ↓ex_aload_n, ↓xR_r, ↓xRg_c, fL_h_20, ↓ex_arraylength, ↓s1R_c, ↓scrN_n, fL_h_21, fL_h_22, ↓ex_isub, ↓s2I_c, fL_h_23, ↓ex_if_icmp_gt, fL_h_26, fL_h_27, fL_h_28, ↓ex_iaload, ↓sRI_c, ↓scrR_n, fL_h_29, ↓ex_bipush, fL_h_31, ↓ex_iand, fL_h_32, ↓ex_tableswitch, fL_h_950, ↓ex_iinc, fL_h_953, ↓ex_goto, fL_h_956, fL_h_957, ↓ex_ireturn, ↓rt_i, a5N, ↓reduceIte, not_true_eq_false, not_false_eq_true, false_implies, true_implies, implies_true, and_true, true_and, and_false, false_and, or_true, true_or, or_false, false_or, Classical.not_not, ite_true, ite_false]
        exact ih (i + 5) X2 (by omega) (by omega) hB2
      obtain ⟨q, hq, eq⟩ := and31 (xs i)
      have hcl : (nI i).toNatClampNeg = i := clampN (by omega)
      refine go hh [] 11 ?_
      simp only [lvL, ↓reduceIte, Nat.reduceEqDiff, Nat.reduceAdd, Nat.reduceLeDiff, reduceCtorEq, and_true, true_and, false_and, and_false, true_or, or_true, or_false, false_or, true_implies, false_implies, implies_true, not_true_eq_false, not_false_eq_true, eq_self, fx_s, ↓run_s, run_0, ↓rs_n, ↓rs_c, as_s, ls_n, ls_c, lc_s, lget_c, fL_h_16, ↓ex_iconst, fL_h_17, ↓ex_istore_n, ↓s1I_c, ↓lsto_e, ↓lrmK_n, ↓lrmK_f, ct_i, ct_l, ct_r, fL_h_18, ↓ex_iload_n, ↓xI_i, ↓xIg_c, fL_h_19, ↓ex_aload_n, ↓xR_r, ↓xRg_c, fL_h_20, ↓ex_arraylength, ↓s1R_c, ↓scrN_n, fL_h_21, fL_h_22, ↓ex_isub, ↓s2I_c, fL_h_23, ↓ex_if_icmp_gt, fL_h_26, fL_h_27, fL_h_28, ↓ex_iaload, ↓sRI_c, ↓scrR_n, fL_h_29, ↓ex_bipush, fL_h_31, ↓ex_iand, fL_h_32, ↓ex_tableswitch, fL_h_950, ↓ex_iinc, fL_h_953, ↓ex_goto, fL_h_956, fL_h_957, ↓ex_ireturn, ↓rt_i, scrR_s, scrN_s, ltI, eL, nI_toInt (n := i) (by omega), vi, hcl, eq, ↓reduceIte, not_true_eq_false, not_false_eq_true, false_implies, true_implies, implies_true, and_true, true_and, and_false, false_and, or_true, true_or, or_false, false_or, Classical.not_not, ite_true, ite_false]
      refine ⟨fun z => absurd z (by omega), fun _ => ?_⟩
      have hs : ∀ (pc : Nat), tsw 32 918 0 30 #[140, 193, 236, 259, 272, 305, 338, 361, 394, 417, 440, 463, 496, 539, 563, 596, 640, 664, 688, 701, 724, 747, 770, 783, 806, 829, 842, 865, 878, 891, 904] (nI q) = pc → R pc (lvL i) [] X → R (tsw 32 918 0 30 #[140, 193, 236, 259, 272, 305, 338, 361, 394, 417, 440, 463, 496, 539, 563, 596, 640, 664, 688, 701, 724, 747, 770, 783, 806, 829, 842, 865, 878, 891, 904] (nI q)) (lvL i) [] X := fun pc e h => by rw [e]; exact h
      by_cases e0 : q = 0
      · subst e0; exact hs 172 rfl (case_0 h0 hL hle hB hout)
      by_cases e1 : q = 1
      · subst e1; exact hs 225 rfl (case_1 h1 hL hle hB hout)
      by_cases e2 : q = 2
      · subst e2; exact hs 268 rfl (case_2 h2 hL hle hB hout)
      by_cases e3 : q = 3
      · subst e3; exact hs 291 rfl (case_3 h3 hL hle hB hout)
      by_cases e4 : q = 4
      · subst e4; exact hs 304 rfl (case_4 h4 hL hle hB hout)
      by_cases e5 : q = 5
      · subst e5; exact hs 337 rfl (case_5 h5 hL hle hB hout)
      by_cases e6 : q = 6
      · subst e6; exact hs 370 rfl (case_6 h6 hL hle hB hout)
      by_cases e7 : q = 7
      · subst e7; exact hs 393 rfl (case_7 h7 hL hle hB hout)
      by_cases e8 : q = 8
      · subst e8; exact hs 426 rfl (case_8 h8 hL hle hB hout)
      by_cases e9 : q = 9
      · subst e9; exact hs 449 rfl (case_9 h9 hL hle hB hout)
      by_cases e10 : q = 10
      · subst e10; exact hs 472 rfl (case_10 h10 hL hle hB hout)
      by_cases e11 : q = 11
      · subst e11; exact hs 495 rfl (case_11 h11 hL hle hB hout)
      by_cases e12 : q = 12
      · subst e12; exact hs 528 rfl (case_12 h12 hL hle hB hout)
      by_cases e13 : q = 13
      · subst e13; exact hs 571 rfl (case_13 h13 hL hle hB hout)
      by_cases e14 : q = 14
      · subst e14; exact hs 595 rfl (case_14 h14 hL hle hB hout)
      by_cases e15 : q = 15
      · subst e15; exact hs 628 rfl (case_15 h15 hL hle hB hout)
      by_cases e16 : q = 16
      · subst e16; exact hs 672 rfl (case_16 h16 hL hle hB hout)
      by_cases e17 : q = 17
      · subst e17; exact hs 696 rfl (case_17 h17 hL hle hB hout)
      by_cases e18 : q = 18
      · subst e18; exact hs 720 rfl (case_18 h18 hL hle hB hout)
      by_cases e19 : q = 19
      · subst e19; exact hs 733 rfl (case_19 h19 hL hle hB hout)
      by_cases e20 : q = 20
      · subst e20; exact hs 756 rfl (case_20 h20 hL hle hB hout)
      by_cases e21 : q = 21
      · subst e21; exact hs 779 rfl (case_21 h21 hL hle hB hout)
      by_cases e22 : q = 22
      · subst e22; exact hs 802 rfl (case_22 h22 hL hle hB hout)
      by_cases e23 : q = 23
      · subst e23; exact hs 815 rfl (case_23 h23 hL hle hB hout)
      by_cases e24 : q = 24
      · subst e24; exact hs 838 rfl (case_24 h24 hL hle hB hout)
      by_cases e25 : q = 25
      · subst e25; exact hs 861 rfl (case_25 h25 hL hle hB hout)
      by_cases e26 : q = 26
      · subst e26; exact hs 874 rfl (case_26 h26 hL hle hB hout)
      by_cases e27 : q = 27
      · subst e27; exact hs 897 rfl (case_27 h27 hL hle hB hout)
      by_cases e28 : q = 28
      · subst e28; exact hs 910 rfl (case_28 h28 hL hle hB hout)
      by_cases e29 : q = 29
      · subst e29; exact hs 923 rfl (case_29 h29 hL hle hB hout)
      by_cases e30 : q = 30
      · subst e30; exact hs 936 rfl (case_30 h30 hL hle hB hout)
      have e31 : q = 31 := by omega
      subst e31
      exact hs 950 rfl (hout X hB)
end LAWP
