/-! The law's first loop. -/
section LAWB
theorem fidx_new {s : SV} {a c w d : Nat} (h : fidx s a c = none) : fidx (s_add s a c w d) a c = some s.n := by
  have key : ∀ k i, i + k = s.n → fndN (updN s.F s.n a) (updN s.T s.n c) a c (k + 1) i = some s.n := by
    intro k
    induction k with
    | zero =>
      intro i hi
      have e : i = s.n := by omega
      unfold fndN
      rw [e, if_pos ⟨by rw [updN_a, if_pos rfl], by rw [updN_a, if_pos rfl]⟩]
    | succ k ih =>
      intro i hi
      have e : i ≠ s.n := by omega
      unfold fndN
      rw [if_neg]
      · exact ih (i + 1) (by omega)
      · rw [updN_a, updN_a, if_neg e, if_neg e]
        exact fidx_none h i (by omega)
  exact key s.n 0 (by omega)
theorem i1N (n : Nat) : (1 : Int32) + nI n = nI (1 + n) := nI_add 1 n
theorem i2N (n : Nat) : (2 : Int32) + nI n = nI (2 + n) := nI_add 2 n
theorem i8N (n : Nat) : (8 : Int32) + nI n = nI (8 + n) := nI_add 8 n
theorem add_law {g : SG} {a c w d : Nat} (ha : a < 8) (hc : c < 8) (hw : w < 11) (hd : d < 5) (h12 : g.now.n < 12) : ∃ (r : Int32) (g' : SG), s_addEdge (nI a) (nI c) (nI w) (nI (1 + d)) g = (r, g') ∧ ((r < 0 ∧ g' = g) ∨ (r = nI g.now.n ∧ g' = withS (s_add g.now a c w (1 + d)) (s_rem g) ∧ fidx g.now a c = none)) := by
  have hw' : inR (nI w) 0 10 := (inRN (lo := 0) (hi := 10) (by omega)).mpr ⟨by omega, by omega⟩
  have hd' : inR (nI (1 + d)) 1 5 := (inRN (lo := 1) (hi := 5) (by omega)).mpr ⟨by omega, by omega⟩
  unfold s_addEdge
  rw [cif_t ⟨inV ha, inV hc⟩, clN (n := a) (by omega), clN (n := c) (by omega), clN (n := w) (by omega), clN (n := 1 + d) (by omega)]
  by_cases hac : nI a = nI c
  · rw [cif_f (fun z => z.2 hac)]
    exact ⟨-3, g, rfl, Or.inl ⟨by decide, rfl⟩⟩
  · rw [cif_t ⟨⟨hw', hd'⟩, hac⟩]
    by_cases hf : fidx g.now a c = none
    · rw [cif_t hf, cif_f (by omega)]
      exact ⟨_, _, rfl, Or.inr ⟨rfl, rfl, hf⟩⟩
    · rw [cif_f hf]
      exact ⟨-4, g, rfl, Or.inl ⟨by decide, rfl⟩⟩
theorem ev_between {g : SG} {a c j : Nat} (ha : a < 8) (hc : c < 8) (h : fidx g.now a c = some j) : s_edgeBetween (nI a) (nI c) g = (nI j, g) := by
  unfold s_edgeBetween
  rw [cif_t ⟨inV ha, inV hc⟩, clN (n := a) (by omega), clN (n := c) (by omega), h]
  rfl
theorem ev_trust {g : SG} {j : Nat} (hj : j < g.now.n) (h12 : g.now.n ≤ 12) : s_edge (nI j) 2 g = (nI (g.now.W j), g) := by
  unfold s_edge
  rw [cif_t (by rw [nI_toInt (by omega)]; omega), cif_f (by decide), cif_f (by decide), cif_t rfl, clN (n := j) (by omega)]
set_option maxHeartbeats 4000000 in
set_option maxRecDepth 20000 in
theorem law_one {xs : Nat → Int32} {L : Nat} {R : KT} (h1 : Clo tL_c1 1 [(26, true, 2, 0, C_L_low), (8, false, 1, 3, C_X3_edges), (72, false, 5, 3, C_X3_addEdge), (104, false, 3, 3, C_X3_edgeBetween), (107, false, 3, 3, C_X3_edge)] (some xs) L postL R) (hcell : ∀ pc, pc = 10 ∨ pc = 93 ∨ pc = 225 → ∀ (lv : List (Nat × Value)) (j : Nat) (X : XT), j ≤ 20 → (∀ y, R (pc + 3) lv [.int y] X) → R pc lv [.int (nI j), .ref 999] X) (hout : ∀ Y g, RelC Y g → g.now.n ≤ 6 → R 212 [(0, .ref 999), (1, .ref 0)] [] Y) (z : Int32) : ∀ k e Y g, e + k = 2 + lowN z 4 → RelC Y g → g.now.n ≤ e → R 78 [(0, .ref 999), (1, .ref 0), (2, .int z), (3, .int (nI e))] [] Y := by
  obtain ⟨⟨p0, -⟩, q0, -⟩ := sh_base
  have hz : lowN z 4 < 4 := lowN_lt z (by decide)
  intro k
  induction k with
  | zero =>
    intro e Y g he hY hn
    refine go h1 [(212, [0, 1]), (93, [0, 1, 2, 3])] 60 ?_
    simp only [↓reduceIte, Nat.reduceEqDiff, Nat.reduceAdd, Nat.reduceLeDiff, reduceCtorEq, and_true, true_and, false_and, and_false, true_or, or_true, or_false, false_or, true_implies, false_implies, implies_true, not_true_eq_false, not_false_eq_true, eq_self, fx_s, ↓run_s, run_0, ↓rs_n, ↓rs_c, as_s, ls_n, ls_c, lc_s, lget_c, fL_c1_76, ↓ex_iconst, fL_c1_77, ↓ex_istore_n, ↓s1I_c, ↓lsto_e, ↓lrmK_n, ↓lrmK_f, ct_i, ct_l, ct_r, fL_c1_78, ↓ex_iload_n, ↓xI_i, ↓xIg_c, fL_c1_79, fL_c1_80, fL_c1_81, fL_c1_82, ↓ex_invokestatic, ↓xc_0, ↓xc_s, ↓xc_1, ↓pk_s, ↓k_s, ↓k_n, catS_n, catS_c, rOk_c, ↓pk_t, fL_c1_85, ↓ex_iadd, ↓s2I_c, fL_c1_86, ↓ex_if_icmp_ge, fL_c1_89, ↓ex_aload_n, ↓xR_r, ↓xRg_c, fL_c1_90, fL_c1_91, fL_c1_92, fL_c1_93, fL_c1_96, ↓ex_istore, fL_c1_98, fL_c1_99, ↓ex_invokevirtual, ↓pk_f, fL_c1_102, fL_c1_104, fL_c1_105, ↓ex_iload, fL_c1_107, ↓ex_bipush, fL_c1_109, fL_c1_112, fL_c1_114, fL_c1_115, ↓ex_ishr, fL_c1_116, fL_c1_118, fL_c1_121, fL_c1_123, fL_c1_125, fL_c1_126, fL_c1_128, fL_c1_131, fL_c1_132, fL_c1_134, fL_c1_136, fL_c1_137, fL_c1_138, fL_c1_141, fL_c1_142, fL_c1_145, fL_c1_147, fL_c1_149, ↓ex_ifCond_lt, fL_c1_152, fL_c1_154, fL_c1_156, ↓ex_if_icmp_ne, fL_c1_159, fL_c1_160, fL_c1_162, fL_c1_164, fL_c1_167, fL_c1_169, fL_c1_170, fL_c1_171, fL_c1_173, fL_c1_176, fL_c1_179, fL_c1_181, fL_c1_184, fL_c1_185, fL_c1_187, fL_c1_188, fL_c1_191, fL_c1_193, fL_c1_195, fL_c1_196, fL_c1_198, fL_c1_201, ↓ex_if_icmp_eq, fL_c1_204, fL_c1_205, ↓ex_ireturn, ↓rt_i, fL_c1_206, ↓ex_iinc, fL_c1_209, ↓ex_goto, ↓low_4, i2N, leN (a := 2 + lowN z 4) (b := e) (by omega) (by omega)]
    exact ⟨fun _ => hout Y g hY (by omega), fun y => absurd (by omega) y⟩
  | succ k ih =>
    intro e Y g he hY hn
    refine go h1 [(212, [0, 1]), (93, [0, 1, 2, 3])] 60 ?_
    simp only [↓reduceIte, Nat.reduceEqDiff, Nat.reduceAdd, Nat.reduceLeDiff, reduceCtorEq, and_true, true_and, false_and, and_false, true_or, or_true, or_false, false_or, true_implies, false_implies, implies_true, not_true_eq_false, not_false_eq_true, eq_self, fx_s, ↓run_s, run_0, ↓rs_n, ↓rs_c, as_s, ls_n, ls_c, lc_s, lget_c, fL_c1_76, ↓ex_iconst, fL_c1_77, ↓ex_istore_n, ↓s1I_c, ↓lsto_e, ↓lrmK_n, ↓lrmK_f, ct_i, ct_l, ct_r, fL_c1_78, ↓ex_iload_n, ↓xI_i, ↓xIg_c, fL_c1_79, fL_c1_80, fL_c1_81, fL_c1_82, ↓ex_invokestatic, ↓xc_0, ↓xc_s, ↓xc_1, ↓pk_s, ↓k_s, ↓k_n, catS_n, catS_c, rOk_c, ↓pk_t, fL_c1_85, ↓ex_iadd, ↓s2I_c, fL_c1_86, ↓ex_if_icmp_ge, fL_c1_89, ↓ex_aload_n, ↓xR_r, ↓xRg_c, fL_c1_90, fL_c1_91, fL_c1_92, fL_c1_93, fL_c1_96, ↓ex_istore, fL_c1_98, fL_c1_99, ↓ex_invokevirtual, ↓pk_f, fL_c1_102, fL_c1_104, fL_c1_105, ↓ex_iload, fL_c1_107, ↓ex_bipush, fL_c1_109, fL_c1_112, fL_c1_114, fL_c1_115, ↓ex_ishr, fL_c1_116, fL_c1_118, fL_c1_121, fL_c1_123, fL_c1_125, fL_c1_126, fL_c1_128, fL_c1_131, fL_c1_132, fL_c1_134, fL_c1_136, fL_c1_137, fL_c1_138, fL_c1_141, fL_c1_142, fL_c1_145, fL_c1_147, fL_c1_149, ↓ex_ifCond_lt, fL_c1_152, fL_c1_154, fL_c1_156, ↓ex_if_icmp_ne, fL_c1_159, fL_c1_160, fL_c1_162, fL_c1_164, fL_c1_167, fL_c1_169, fL_c1_170, fL_c1_171, fL_c1_173, fL_c1_176, fL_c1_179, fL_c1_181, fL_c1_184, fL_c1_185, fL_c1_187, fL_c1_188, fL_c1_191, fL_c1_193, fL_c1_195, fL_c1_196, fL_c1_198, fL_c1_201, ↓ex_if_icmp_eq, fL_c1_204, fL_c1_205, ↓ex_ireturn, ↓rt_i, fL_c1_206, ↓ex_iinc, fL_c1_209, ↓ex_goto, ↓low_4, i2N, i1N, leN (a := 2 + lowN z 4) (b := e) (by omega) (by omega)]
    refine ⟨fun y => absurd y (by omega), fun _ => ?_⟩
    refine hcell 93 (Or.inr (Or.inl rfl)) _ (1 + e) Y (by omega) (fun y => ?_)
    show R 96 _ _ _
    have ha : lowN y 8 < 8 := lowN_lt y (by decide)
    have hc : lowN (y >>> (3 &&& 31)) 8 < 8 := lowN_lt _ (by decide)
    have hw : lowN (y >>> (6 &&& 31)) 11 < 11 := lowN_lt _ (by decide)
    have hd : lowN (y >>> (10 &&& 31)) 5 < 5 := lowN_lt _ (by decide)
    obtain ⟨r, g', eA, hA⟩ := add_law (g := g) ha hc hw hd (by omega)
    have e9 : s_edges g = (nI g.now.n, g) := rfl
    have s206 : ∀ Z g', RelC Z g' → g'.now.n ≤ e + 1 → R 206 [(0, .ref 999), (1, .ref 0), (2, .int z), (3, .int (nI e))] [] Z := by
      intro Z g' hZ hn'
      refine go h1 [(78, [0, 1, 2, 3])] 3 ?_
      simp only [↓reduceIte, Nat.reduceEqDiff, Nat.reduceAdd, Nat.reduceLeDiff, reduceCtorEq, and_true, true_and, false_and, and_false, true_or, or_true, or_false, false_or, true_implies, false_implies, implies_true, not_true_eq_false, not_false_eq_true, eq_self, fx_s, ↓run_s, run_0, ↓rs_n, ↓rs_c, as_s, ls_n, ls_c, lc_s, lget_c, fL_c1_76, ↓ex_iconst, fL_c1_77, ↓ex_istore_n, ↓s1I_c, ↓lsto_e, ↓lrmK_n, ↓lrmK_f, ct_i, ct_l, ct_r, fL_c1_78, ↓ex_iload_n, ↓xI_i, ↓xIg_c, fL_c1_79, fL_c1_80, fL_c1_81, fL_c1_82, ↓ex_invokestatic, ↓xc_0, ↓xc_s, ↓xc_1, ↓pk_s, ↓k_s, ↓k_n, catS_n, catS_c, rOk_c, ↓pk_t, fL_c1_85, ↓ex_iadd, ↓s2I_c, fL_c1_86, ↓ex_if_icmp_ge, fL_c1_89, ↓ex_aload_n, ↓xR_r, ↓xRg_c, fL_c1_90, fL_c1_91, fL_c1_92, fL_c1_93, fL_c1_96, ↓ex_istore, fL_c1_98, fL_c1_99, ↓ex_invokevirtual, ↓pk_f, fL_c1_102, fL_c1_104, fL_c1_105, ↓ex_iload, fL_c1_107, ↓ex_bipush, fL_c1_109, fL_c1_112, fL_c1_114, fL_c1_115, ↓ex_ishr, fL_c1_116, fL_c1_118, fL_c1_121, fL_c1_123, fL_c1_125, fL_c1_126, fL_c1_128, fL_c1_131, fL_c1_132, fL_c1_134, fL_c1_136, fL_c1_137, fL_c1_138, fL_c1_141, fL_c1_142, fL_c1_145, fL_c1_147, fL_c1_149, ↓ex_ifCond_lt, fL_c1_152, fL_c1_154, fL_c1_156, ↓ex_if_icmp_ne, fL_c1_159, fL_c1_160, fL_c1_162, fL_c1_164, fL_c1_167, fL_c1_169, fL_c1_170, fL_c1_171, fL_c1_173, fL_c1_176, fL_c1_179, fL_c1_181, fL_c1_184, fL_c1_185, fL_c1_187, fL_c1_188, fL_c1_191, fL_c1_193, fL_c1_195, fL_c1_196, fL_c1_198, fL_c1_201, ↓ex_if_icmp_eq, fL_c1_204, fL_c1_205, ↓ex_ireturn, ↓rt_i, fL_c1_206, ↓ex_iinc, fL_c1_209, ↓ex_goto, add1N]
      exact ih (e + 1) Z g' (by omega) hZ hn'
    refine go h1 [(206, [0, 1, 2, 3]), (152, [0, 1, 2, 3, 4, 5, 6])] 60 ?_
    simp only [↓reduceIte, Nat.reduceEqDiff, Nat.reduceAdd, Nat.reduceLeDiff, reduceCtorEq, and_true, true_and, false_and, and_false, true_or, or_true, or_false, false_or, true_implies, false_implies, implies_true, not_true_eq_false, not_false_eq_true, eq_self, fx_s, ↓run_s, run_0, ↓rs_n, ↓rs_c, as_s, ls_n, ls_c, lc_s, lget_c, fL_c1_76, ↓ex_iconst, fL_c1_77, ↓ex_istore_n, ↓s1I_c, ↓lsto_e, ↓lrmK_n, ↓lrmK_f, ct_i, ct_l, ct_r, fL_c1_78, ↓ex_iload_n, ↓xI_i, ↓xIg_c, fL_c1_79, fL_c1_80, fL_c1_81, fL_c1_82, ↓ex_invokestatic, ↓xc_0, ↓xc_s, ↓xc_1, ↓pk_s, ↓k_s, ↓k_n, catS_n, catS_c, rOk_c, ↓pk_t, fL_c1_85, ↓ex_iadd, ↓s2I_c, fL_c1_86, ↓ex_if_icmp_ge, fL_c1_89, ↓ex_aload_n, ↓xR_r, ↓xRg_c, fL_c1_90, fL_c1_91, fL_c1_92, fL_c1_93, fL_c1_96, ↓ex_istore, fL_c1_98, fL_c1_99, ↓ex_invokevirtual, ↓pk_f, fL_c1_102, fL_c1_104, fL_c1_105, ↓ex_iload, fL_c1_107, ↓ex_bipush, fL_c1_109, fL_c1_112, fL_c1_114, fL_c1_115, ↓ex_ishr, fL_c1_116, fL_c1_118, fL_c1_121, fL_c1_123, fL_c1_125, fL_c1_126, fL_c1_128, fL_c1_131, fL_c1_132, fL_c1_134, fL_c1_136, fL_c1_137, fL_c1_138, fL_c1_141, fL_c1_142, fL_c1_145, fL_c1_147, fL_c1_149, ↓ex_ifCond_lt, fL_c1_152, fL_c1_154, fL_c1_156, ↓ex_if_icmp_ne, fL_c1_159, fL_c1_160, fL_c1_162, fL_c1_164, fL_c1_167, fL_c1_169, fL_c1_170, fL_c1_171, fL_c1_173, fL_c1_176, fL_c1_179, fL_c1_181, fL_c1_184, fL_c1_185, fL_c1_187, fL_c1_188, fL_c1_191, fL_c1_193, fL_c1_195, fL_c1_196, fL_c1_198, fL_c1_201, ↓ex_if_icmp_eq, fL_c1_204, fL_c1_205, ↓ex_ireturn, ↓rt_i, fL_c1_206, ↓ex_iinc, fL_c1_209, ↓ex_goto, p0, q0, ↓low_8, ↓low_11, ↓low_5, i1N, ↓C_X3_edges, ↓C_X3_addEdge, PubI, ↓reduceIte, not_true_eq_false, not_false_eq_true, false_implies, true_implies, implies_true, and_true, true_and, and_false, false_and, or_true, true_or, or_false, false_or, Classical.not_not, ite_true, ite_false]
    refine ⟨g, hY, fun Y1 g1 _ => ?_⟩
    rw [e9] at g1 ⊢
    refine ⟨g, g1, fun Y2 g2 _ => ?_⟩
    rw [eA] at g2 ⊢
    rcases hA with ⟨hA1, rfl⟩ | ⟨rfl, rfl, hf⟩
    · refine ⟨fun _ => s206 Y2 g' g2 (by omega), fun q => absurd hA1 q⟩
    · have nlt : ¬ nI g.now.n < 0 := by rw [ltI, nI_toInt (by omega), tI_0]; omega
      refine ⟨fun q => absurd q nlt, fun _ => ?_⟩
      have eB := ev_between (g := withS (s_add g.now (lowN y 8) (lowN (y >>> (3 &&& 31)) 8) (lowN (y >>> (6 &&& 31)) 11) (1 + lowN (y >>> (10 &&& 31)) 5)) (s_rem g)) ha hc (fidx_new hf)
      have eT : s_edge (nI g.now.n) 2 (withS (s_add g.now (lowN y 8) (lowN (y >>> (3 &&& 31)) 8) (lowN (y >>> (6 &&& 31)) 11) (1 + lowN (y >>> (10 &&& 31)) 5)) (s_rem g)) = (nI (lowN (y >>> (6 &&& 31)) 11), withS (s_add g.now (lowN y 8) (lowN (y >>> (3 &&& 31)) 8) (lowN (y >>> (6 &&& 31)) 11) (1 + lowN (y >>> (10 &&& 31)) 5)) (s_rem g)) := by
        rw [ev_trust (by show g.now.n < g.now.n + 1; omega) (by show g.now.n + 1 ≤ 12; omega)]
        show (nI (updN g.now.W g.now.n (lowN (y >>> (6 &&& 31)) 11) g.now.n), _) = _
        rw [updN_a, if_pos rfl]
      refine go h1 [(206, [0, 1, 2, 3])] 60 ?_
      simp only [↓reduceIte, Nat.reduceEqDiff, Nat.reduceAdd, Nat.reduceLeDiff, reduceCtorEq, and_true, true_and, false_and, and_false, true_or, or_true, or_false, false_or, true_implies, false_implies, implies_true, not_true_eq_false, not_false_eq_true, eq_self, fx_s, ↓run_s, run_0, ↓rs_n, ↓rs_c, as_s, ls_n, ls_c, lc_s, lget_c, fL_c1_76, ↓ex_iconst, fL_c1_77, ↓ex_istore_n, ↓s1I_c, ↓lsto_e, ↓lrmK_n, ↓lrmK_f, ct_i, ct_l, ct_r, fL_c1_78, ↓ex_iload_n, ↓xI_i, ↓xIg_c, fL_c1_79, fL_c1_80, fL_c1_81, fL_c1_82, ↓ex_invokestatic, ↓xc_0, ↓xc_s, ↓xc_1, ↓pk_s, ↓k_s, ↓k_n, catS_n, catS_c, rOk_c, ↓pk_t, fL_c1_85, ↓ex_iadd, ↓s2I_c, fL_c1_86, ↓ex_if_icmp_ge, fL_c1_89, ↓ex_aload_n, ↓xR_r, ↓xRg_c, fL_c1_90, fL_c1_91, fL_c1_92, fL_c1_93, fL_c1_96, ↓ex_istore, fL_c1_98, fL_c1_99, ↓ex_invokevirtual, ↓pk_f, fL_c1_102, fL_c1_104, fL_c1_105, ↓ex_iload, fL_c1_107, ↓ex_bipush, fL_c1_109, fL_c1_112, fL_c1_114, fL_c1_115, ↓ex_ishr, fL_c1_116, fL_c1_118, fL_c1_121, fL_c1_123, fL_c1_125, fL_c1_126, fL_c1_128, fL_c1_131, fL_c1_132, fL_c1_134, fL_c1_136, fL_c1_137, fL_c1_138, fL_c1_141, fL_c1_142, fL_c1_145, fL_c1_147, fL_c1_149, ↓ex_ifCond_lt, fL_c1_152, fL_c1_154, fL_c1_156, ↓ex_if_icmp_ne, fL_c1_159, fL_c1_160, fL_c1_162, fL_c1_164, fL_c1_167, fL_c1_169, fL_c1_170, fL_c1_171, fL_c1_173, fL_c1_176, fL_c1_179, fL_c1_181, fL_c1_184, fL_c1_185, fL_c1_187, fL_c1_188, fL_c1_191, fL_c1_193, fL_c1_195, fL_c1_196, fL_c1_198, fL_c1_201, ↓ex_if_icmp_eq, fL_c1_204, fL_c1_205, ↓ex_ireturn, ↓rt_i, fL_c1_206, ↓ex_iinc, fL_c1_209, ↓ex_goto, p0, q0, ↓low_8, ↓low_11, ↓C_X3_edgeBetween, ↓C_X3_edge, PubI, ↓reduceIte, not_true_eq_false, not_false_eq_true, false_implies, true_implies, implies_true, and_true, true_and, and_false, false_and, or_true, true_or, or_false, false_or, Classical.not_not, ite_true, ite_false, eq_self]
      refine ⟨_, g2, fun Y3 g3 _ => ?_⟩
      rw [eB] at g3 ⊢
      simp only [↓reduceIte, not_true_eq_false, not_false_eq_true, false_implies, true_implies, implies_true, and_true, true_and, and_false, false_and, or_true, true_or, or_false, false_or, Classical.not_not, ite_true, ite_false, eq_self]
      refine ⟨_, g3, fun Y4 g4 _ => ?_⟩
      rw [eT] at g4 ⊢
      simp only [↓reduceIte, not_true_eq_false, not_false_eq_true, false_implies, true_implies, implies_true, and_true, true_and, and_false, false_and, or_true, true_or, or_false, false_or, Classical.not_not, ite_true, ite_false, eq_self]
      exact s206 Y4 _ g4 (by show g.now.n + 1 ≤ e + 1; omega)
end LAWB
