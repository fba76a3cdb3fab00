/-! The law's first checks, on a new object, and its last ones. -/
section LAWA
def s0G : SV := (0, fun _ => 0, fun _ => 0, fun _ => 0, fun _ => 0, 20, fun _ => 100, 255)
def g0G : SG := (s0G, 0, fun _ => s0G, 0, fun _ => 0)
theorem WF_s0 : WF s0G := ⟨by decide, fun e he => absurd he (Nat.not_lt_zero e), fun i j hi => absurd hi (Nat.not_lt_zero i), by decide, fun v hv => Or.inr (Or.inl rfl), by decide⟩
theorem LK0 (m : Nat) : 0 < LK s0G m := LK_pos.mpr ⟨0, by decide, fun v _ => Or.inl (by show wI 100 = 100; decide), by decide⟩
theorem cnt0 : cntC s0G 8 = 8 := by
  rw [cntC_L]
  unfold cntL
  have : sumN (fun w => cif (0 < LSt s0G w) 1 0) 8 = sumN (fun _ => 1) 8 := sumN_congr 8 (fun v _ => cif_t (LK0 _))
  rw [this]
  rfl
theorem pos0 : posA s0G 8 = 36 := by
  have h : ∀ u k, posI s0G u k = k := fun u k => posI_all k (fun i _ => LK0 _)
  show ((((((((0 + posI s0G 0 8) + posI s0G 1 7) + posI s0G 2 6) + posI s0G 3 5) + posI s0G 4 4) + posI s0G 5 3) + posI s0G 6 2) + posI s0G 7 1) = 36
  simp only [h]
theorem reach0 : SH s0G 255 (fun _ => 100) 0 0 = 8 := by
  rw [SH100]
  have hh : hc (tau s0G 255 0) = 8 := by
    have : hc (tau s0G 255 0) = sumN (fun _ => 1) 8 := sumN_congr 8 (fun v hv => by
      have hb : Nat.testBit 255 v = true := by
        rcases (by omega : v = 0 ∨ v = 1 ∨ v = 2 ∨ v = 3 ∨ v = 4 ∨ v = 5 ∨ v = 6 ∨ v = 7) with rfl | rfl | rfl | rfl | rfl | rfl | rfl | rfl <;> decide
      rw [tau_0 WF_s0.we 0 hv hb]
      rfl)
    rw [this]
    rfl
  show 0 + 1 * hc (tau s0G 255 0) = 8
  rw [hh]
theorem load0 : s_load g0G = (-4, g0G) := by
  have h1 : ∀ j, byA 0 (fun _ => 0) j = -1 := fun j => cif_f (Nat.not_lt_zero j)
  have h2 : s_nodeAt (-1) = -1 := cif_f (by unfold inR; decide)
  have h3 : ∀ s j, itR 0 (fun _ => 0) s j = (j, none) := fun s j => by
    unfold itR
    rw [h1, h2, cif_t rfl]
  have h4 : rdR 0 (fun _ => 0) 120 s0G 0 = ((skp 0 (fun _ => 0) (0 - 0) 0), none) := by
    have h5 := h3 s0G (skp 0 (fun _ => 0) (0 - 0) 0)
    have := rdR_none (k := 119) (n := 0) (b := fun _ => 0) (s := s0G) (i := 0) rfl (by rw [h5])
    rw [h5] at this
    exact this
  show ldS g0G (rdR 0 (fun _ => 0) 120 s0G 0) = _
  rw [h4]
  rfl
set_option maxHeartbeats 4000000 in
set_option maxRecDepth 20000 in
theorem law_c0 {xs : Nat → Int32} {L : Nat} {R : KT} (h0 : Clo tL_c0 1 [(69, false, 1, 3, C_X3_undo), (14, false, 2, 3, C_X3_weight), (48, false, 1, 3, C_X3_candidates), (63, false, 1, 3, C_X3_possible), (43, false, 2, 3, C_X3_reach), (101, false, 1, 3, C_X3_load)] (some xs) L postL R) (hcell : ∀ pc, pc = 10 ∨ pc = 93 ∨ pc = 225 → ∀ (lv : List (Nat × Value)) (j : Nat) (X : XT), j ≤ 20 → (∀ y, R (pc + 3) lv [.int y] X) → R pc lv [.int (nI j), .ref 999] X) (hout : ∀ Y y, RelC Y g0G → R 76 [(0, .ref 999), (1, .ref 0), (2, .int y)] [] Y) {X : XT} (hX : RelC X g0G) : R 8 [(0, .ref 999), (1, .ref 0)] [] X := by
  obtain ⟨⟨p0, -⟩, q0, -⟩ := sh_base
  refine go h0 [(10, [0, 1])] 3 ?_
  simp only [↓reduceIte, Nat.reduceEqDiff, Nat.reduceAdd, Nat.reduceLeDiff, reduceCtorEq, and_true, true_and, false_and, and_false, true_or, or_true, or_false, false_or, true_implies, false_implies, implies_true, not_true_eq_false, not_false_eq_true, eq_self, fx_s, ↓run_s, run_0, ↓rs_n, ↓rs_c, as_s, ls_n, ls_c, lc_s, lget_c, fL_c0_8, ↓ex_aload_n, ↓xR_r, ↓xRg_c, fL_c0_9, ↓ex_iconst, fL_c0_10, ↓ex_invokestatic, ↓xc_0, ↓xc_s, ↓xc_1, ↓pk_s, ↓k_s, ↓k_n, catS_n, catS_c, rOk_c, ct_i, ct_l, ct_r, ↓pk_t, fL_c0_13, ↓ex_istore_n, ↓s1I_c, ↓lsto_e, ↓lrmK_n, ↓lrmK_f, fL_c0_14, fL_c0_15, ↓ex_invokevirtual, ↓pk_f, fL_c0_18, ↓ex_bipush, fL_c0_20, ↓ex_if_icmp_ne, ↓s2I_c, fL_c0_23, fL_c0_24, fL_c0_25, fL_c0_28, ↓ex_lconst, fL_c0_29, ↓ex_lcmp, ↓s2L_c, fL_c0_30, ↓ex_ifCond_ne, fL_c0_33, fL_c0_34, fL_c0_37, fL_c0_39, fL_c0_42, fL_c0_43, fL_c0_46, fL_c0_48, fL_c0_51, fL_c0_52, ↓ex_sipush, fL_c0_55, fL_c0_58, ↓ex_ldc2_w, fL_c0_61, fL_c0_62, fL_c0_65, fL_c0_66, fL_c0_69, fL_c0_71, ↓ex_if_icmp_eq, fL_c0_74, fL_c0_75, ↓ex_ireturn, ↓rt_i]
  refine hcell 10 (Or.inl rfl) _ 0 X (by omega) (fun y => ?_)
  have e1 : s_undo g0G = (-4, g0G) := cif_t rfl
  have e2 : s_weight 0 g0G = (1, g0G) := ev_weight (g := g0G) (o := 0) (by decide) (by decide)
  have e3 : s_possible g0G = (36, g0G) := by
    show (nI (posA s0G 8), g0G) = _
    rw [pos0]
    rfl
  have e4 : s_reach 255 g0G = (8, g0G) := by
    have := ev_reach (g := g0G) (m := 255) ⟨by omega, by omega⟩
    rw [show g0G.now = s0G from rfl, reach0] at this
    exact this
  have e5 := load0
  have e6 : nI (cntC g0G.now 8) = 8 := by
    rw [show g0G.now = s0G from rfl, cnt0]
    rfl
  refine go h0 [(76, [0, 1, 2])] 200 ?_
  simp only [↓reduceIte, Nat.reduceEqDiff, Nat.reduceAdd, Nat.reduceLeDiff, reduceCtorEq, and_true, true_and, false_and, and_false, true_or, or_true, or_false, false_or, true_implies, false_implies, implies_true, not_true_eq_false, not_false_eq_true, eq_self, fx_s, ↓run_s, run_0, ↓rs_n, ↓rs_c, as_s, ls_n, ls_c, lc_s, lget_c, fL_c0_8, ↓ex_aload_n, ↓xR_r, ↓xRg_c, fL_c0_9, ↓ex_iconst, fL_c0_10, ↓ex_invokestatic, ↓xc_0, ↓xc_s, ↓xc_1, ↓pk_s, ↓k_s, ↓k_n, catS_n, catS_c, rOk_c, ct_i, ct_l, ct_r, ↓pk_t, fL_c0_13, ↓ex_istore_n, ↓s1I_c, ↓lsto_e, ↓lrmK_n, ↓lrmK_f, fL_c0_14, fL_c0_15, ↓ex_invokevirtual, ↓pk_f, fL_c0_18, ↓ex_bipush, fL_c0_20, ↓ex_if_icmp_ne, ↓s2I_c, fL_c0_23, fL_c0_24, fL_c0_25, fL_c0_28, ↓ex_lconst, fL_c0_29, ↓ex_lcmp, ↓s2L_c, fL_c0_30, ↓ex_ifCond_ne, fL_c0_33, fL_c0_34, fL_c0_37, fL_c0_39, fL_c0_42, fL_c0_43, fL_c0_46, fL_c0_48, fL_c0_51, fL_c0_52, ↓ex_sipush, fL_c0_55, fL_c0_58, ↓ex_ldc2_w, fL_c0_61, fL_c0_62, fL_c0_65, fL_c0_66, fL_c0_69, fL_c0_71, ↓ex_if_icmp_eq, fL_c0_74, fL_c0_75, ↓ex_ireturn, ↓rt_i, p0, q0, lg_cmp_eq, ↓C_X3_undo, ↓C_X3_weight, ↓C_X3_candidates, ↓C_X3_possible, ↓C_X3_reach, ↓C_X3_load, PubI, PubL, ↓reduceIte, not_true_eq_false, not_false_eq_true, false_implies, true_implies, implies_true, and_true, true_and, and_false, false_and, or_true, true_or, or_false, false_or, Classical.not_not, ite_true, ite_false]
  refine ⟨g0G, hX, fun Y1 h1 _ => ?_⟩
  rw [e1] at h1 ⊢
  simp only [↓reduceIte, not_true_eq_false, not_false_eq_true, false_implies, true_implies, implies_true, and_true, true_and, and_false, false_and, or_true, true_or, or_false, false_or, Classical.not_not, ite_true, ite_false, eq_self]
  refine ⟨g0G, h1, fun Y2 h2 _ => ?_⟩
  rw [e2] at h2 ⊢
  simp only [↓reduceIte, not_true_eq_false, not_false_eq_true, false_implies, true_implies, implies_true, and_true, true_and, and_false, false_and, or_true, true_or, or_false, false_or, Classical.not_not, ite_true, ite_false, eq_self]
  refine ⟨g0G, h2, fun Y3 f3 => ?_⟩
  have h3 := scrW h2 f3
  simp only [e6, ↓reduceIte, not_true_eq_false, not_false_eq_true, false_implies, true_implies, implies_true, and_true, true_and, and_false, false_and, or_true, true_or, or_false, false_or, Classical.not_not, ite_true, ite_false, eq_self]
  refine ⟨g0G, h3, fun Y4 h4 _ => ?_⟩
  rw [e3] at h4 ⊢
  simp only [↓reduceIte, not_true_eq_false, not_false_eq_true, false_implies, true_implies, implies_true, and_true, true_and, and_false, false_and, or_true, true_or, or_false, false_or, Classical.not_not, ite_true, ite_false, eq_self]
  refine ⟨g0G, h4, fun Y5 h5 _ => ?_⟩
  rw [e4] at h5 ⊢
  simp only [↓reduceIte, not_true_eq_false, not_false_eq_true, false_implies, true_implies, implies_true, and_true, true_and, and_false, false_and, or_true, true_or, or_false, false_or, Classical.not_not, ite_true, ite_false, eq_self]
  refine ⟨g0G, h5, fun Y6 h6 _ => ?_⟩
  rw [e5] at h6 ⊢
  simp only [↓reduceIte, not_true_eq_false, not_false_eq_true, false_implies, true_implies, implies_true, and_true, true_and, and_false, false_and, or_true, true_or, or_false, false_or, Classical.not_not, ite_true, ite_false, eq_self]
  exact hout Y6 y h6
set_option maxHeartbeats 4000000 in
set_option maxRecDepth 20000 in
theorem law_end {xs : Nat → Int32} {L : Nat} {R : KT} (h4 : Clo tL_c4 1 [(72, false, 5, 3, C_X3_addEdge), (66, false, 3, 3, C_X3_observe), (40, false, 2, 3, C_X3_likelihood), (91, false, 3, 3, C_X3_simulate), (130, false, 4, 3, C_X3_timeWeight), (8, false, 1, 3, C_X3_edges), (107, false, 3, 3, C_X3_edge), (54, false, 2, 3, C_X3_belief)] (some xs) L postL R) {Y : XT} {g : SG} (hY : RelC Y g) : R 548 [(1, .ref 0)] [] Y := by
  obtain ⟨⟨p0, -⟩, q0, -⟩ := sh_base
  have hn := hY.1.1.1
  have n8 : ¬ inR 8 0 7 := by unfold inR; decide
  have i0 : inR 0 0 7 := by unfold inR; decide
  have e1 : s_addEdge 8 0 1 1 g = (-2, g) := cif_f (fun z => n8 z.1)
  have e2 : s_addEdge 0 0 1 1 g = (-3, g) := by unfold s_addEdge; rw [cif_t ⟨i0, i0⟩, cif_f (fun z => z.2 rfl)]
  have e3 : s_observe 0 31 g = (-3, g) := by unfold s_observe; rw [cif_t i0, cif_f (by unfold inR; decide)]
  have e4 : s_likelihood 0 g = (-3, g) := by unfold s_likelihood; rw [cif_f (by unfold inR; decide)]
  have e5 : s_simulate 256 0 g = (-3, g) := cif_f (by unfold inR; decide)
  have e6 : s_timeWeight 1 8 0 g = (-2, g) := by unfold s_timeWeight; rw [cif_f n8]
  have e7 : s_edge (nI g.now.n) 0 g = (-2, g) := by
    unfold s_edge
    rw [cif_f (fun z => by rw [nI_toInt (by omega)] at z; omega)]
  have e8 : s_belief 8 g = (-2, g) := by unfold s_belief; rw [cif_f n8]
  have e9 : s_edges g = (nI g.now.n, g) := rfl
  refine go h4 [] 200 ?_
  simp only [↓reduceIte, Nat.reduceEqDiff, Nat.reduceAdd, Nat.reduceLeDiff, reduceCtorEq, and_true, true_and, false_and, and_false, true_or, or_true, or_false, false_or, true_implies, false_implies, implies_true, not_true_eq_false, not_false_eq_true, eq_self, fx_s, ↓run_s, run_0, ↓rs_n, ↓rs_c, as_s, ls_n, ls_c, lc_s, lget_c, fL_c4_548, ↓ex_aload_n, ↓xR_r, ↓xRg_c, fL_c4_549, ↓ex_bipush, fL_c4_551, ↓ex_iconst, fL_c4_552, fL_c4_553, fL_c4_554, ↓ex_invokevirtual, ↓xc_0, ↓xc_s, ↓xc_1, ↓pk_s, ↓k_s, ↓k_n, catS_n, catS_c, rOk_c, ct_i, ct_l, ct_r, ↓pk_f, fL_c4_557, fL_c4_559, ↓ex_if_icmp_ne, ↓s2I_c, fL_c4_562, fL_c4_563, fL_c4_564, fL_c4_565, fL_c4_566, fL_c4_567, fL_c4_570, fL_c4_572, fL_c4_575, fL_c4_576, fL_c4_577, fL_c4_579, fL_c4_582, fL_c4_584, fL_c4_587, fL_c4_588, fL_c4_589, fL_c4_592, ↓ex_ldc2_w, fL_c4_595, ↓ex_lcmp, ↓s2L_c, fL_c4_596, ↓ex_ifCond_ne, ↓s1I_c, fL_c4_599, fL_c4_600, ↓ex_sipush, fL_c4_603, fL_c4_604, fL_c4_607, fL_c4_609, fL_c4_612, fL_c4_613, fL_c4_614, fL_c4_616, fL_c4_617, fL_c4_620, fL_c4_623, fL_c4_624, fL_c4_627, fL_c4_628, fL_c4_629, fL_c4_632, fL_c4_633, fL_c4_636, fL_c4_638, fL_c4_641, fL_c4_642, fL_c4_644, fL_c4_647, fL_c4_649, fL_c4_652, fL_c4_653, ↓ex_goto, fL_c4_656, fL_c4_657, ↓ex_ireturn, ↓rt_i, p0, q0, lg_cmp_eq, ↓C_X3_addEdge, ↓C_X3_observe, ↓C_X3_likelihood, ↓C_X3_simulate, ↓C_X3_timeWeight, ↓C_X3_edges, ↓C_X3_edge, ↓C_X3_belief, PubI, PubL, ↓reduceIte, not_true_eq_false, not_false_eq_true, false_implies, true_implies, implies_true, and_true, true_and, and_false, false_and, or_true, true_or, or_false, false_or, Classical.not_not, ite_true, ite_false]
  refine ⟨g, hY, fun Y1 h1 _ => ?_⟩
  rw [e1] at h1 ⊢
  simp only [↓reduceIte, not_true_eq_false, not_false_eq_true, false_implies, true_implies, implies_true, and_true, true_and, and_false, false_and, or_true, true_or, or_false, false_or, Classical.not_not, ite_true, ite_false, eq_self]
  refine ⟨g, h1, fun Y2 h2 _ => ?_⟩
  rw [e2] at h2 ⊢
  simp only [↓reduceIte, not_true_eq_false, not_false_eq_true, false_implies, true_implies, implies_true, and_true, true_and, and_false, false_and, or_true, true_or, or_false, false_or, Classical.not_not, ite_true, ite_false, eq_self]
  refine ⟨g, h2, fun Y3 h3 _ => ?_⟩
  rw [e3] at h3 ⊢
  simp only [↓reduceIte, not_true_eq_false, not_false_eq_true, false_implies, true_implies, implies_true, and_true, true_and, and_false, false_and, or_true, true_or, or_false, false_or, Classical.not_not, ite_true, ite_false, eq_self]
  refine ⟨g, h3, fun Y4 h4 _ => ?_⟩
  rw [e4] at h4 ⊢
  simp only [↓reduceIte, not_true_eq_false, not_false_eq_true, false_implies, true_implies, implies_true, and_true, true_and, and_false, false_and, or_true, true_or, or_false, false_or, Classical.not_not, ite_true, ite_false, eq_self]
  refine ⟨g, h4, fun Y5 h5 _ => ?_⟩
  rw [e5] at h5 ⊢
  simp only [↓reduceIte, not_true_eq_false, not_false_eq_true, false_implies, true_implies, implies_true, and_true, true_and, and_false, false_and, or_true, true_or, or_false, false_or, Classical.not_not, ite_true, ite_false, eq_self]
  refine ⟨g, h5, fun Y6 h6 _ => ?_⟩
  rw [e6] at h6 ⊢
  simp only [↓reduceIte, not_true_eq_false, not_false_eq_true, false_implies, true_implies, implies_true, and_true, true_and, and_false, false_and, or_true, true_or, or_false, false_or, Classical.not_not, ite_true, ite_false, eq_self]
  refine ⟨g, h6, fun Y7 h7 _ => ?_⟩
  rw [e9] at h7 ⊢
  refine ⟨g, h7, fun Y8 h8 _ => ?_⟩
  rw [e7] at h8 ⊢
  simp only [↓reduceIte, not_true_eq_false, not_false_eq_true, false_implies, true_implies, implies_true, and_true, true_and, and_false, false_and, or_true, true_or, or_false, false_or, Classical.not_not, ite_true, ite_false, eq_self]
  refine ⟨g, h8, fun Y9 h9 _ => ?_⟩
  rw [e8] at h9 ⊢
  simp only [↓reduceIte, not_true_eq_false, not_false_eq_true, false_implies, true_implies, implies_true, and_true, true_and, and_false, false_and, or_true, true_or, or_false, false_or, Classical.not_not, ite_true, ite_false, eq_self]
  exact ⟨bl_1, rfl⟩
end LAWA
