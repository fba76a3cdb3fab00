section MPUB5
theorem le8 {i : Nat} (h : i < 2147483648) : ((8 : Int32) ≤ nI i) = (8 ≤ i) := propext (leN (a := 8) (by decide) h)
theorem add0N (a : Nat) : nI a + 0 = nI a := nI_add a 0
theorem RelM.single {X Y : XT} {g : SG} (h : RelM X g) (hF : Fr (fun k => k = 53 ∨ k = 54) X Y) (hL : ∀ v, v < 8 → Y.2.1 54 v = lN (LSt g.now v)) : RelM (sI Y 51 2 1) g := by
  obtain ⟨w, m1, m2, m3, m4, m5, m6⟩ := h
  have e51 := hF.1 51 (by decide)
  have e52 := hF.1 52 (by decide)
  have e56 := hF.1 56 (by decide)
  refine ⟨w, ?_, ?_, fun j hj => ?_, ?_, fun i hi => ?_, fun _ => hL⟩
  · rw [sI_1, if_neg (by decide), e52]; exact m1
  · rw [sI_1, if_pos rfl, upd_a, if_neg (by decide), e51]; exact m2
  · refine (m3 j hj).cg (w.2.2.1 j hj).1 (fun k hk => ?_)
    rw [sI_1, if_neg (by decide), e52]
  · rw [sI_1, if_pos rfl, upd_a, if_neg (by decide), e51]; exact m4
  · rw [sI_1, if_neg (by decide), e56]; exact m5 i hi
noncomputable def C_X4_findsSingle : CT := fun As X K => match As with
  | [.ref r] => ∃ g : SG, (r = 51 ∧ RelM X g) ∧ ∀ X', RelM X' g → FrC X X' → (∀ v, v < 8 → X'.2.1 54 v = lN (LSt g.now v)) → K none X'
  | _ => False
set_option maxRecDepth 20000 in
set_option maxHeartbeats 4000000 in
theorem d_X4_findsSingle (l : Launch) : Does l yX4_findsSingle (wY yX4_findsSingle cX4_findsSingle 2 (retT 3)) (rmF 3) C_X4_findsSingle := does_of (rt := 3) (by decide +kernel) tkX4_findsSingle (calls := [(96, false, 3, 4, C_X4_likelihoodOf)]) (List.forall_mem_cons.mpr ⟨cr_V (d_X4_likelihoodOf l) rfl (by decide +kernel) (by decide +kernel) ⟨rfl, rfl⟩ ⟨Nat.le_of_ble_eq_true rfl, Nat.le_of_ble_eq_true rfl⟩, fun _ h => absurd h List.not_mem_nil⟩) (by
  intro As X post hC
  unfold C_X4_findsSingle at hC
  split at hC
  next r =>
    obtain ⟨g, ⟨rfl, hR0⟩, hpost⟩ := hC
    refine ⟨Nat.le_of_ble_eq_true rfl, fun R hR => ?_⟩
    obtain ⟨⟨p1, p2, p3, p4, p5, p6, p7⟩, q1, q2, q3, q4, q5, q6, q7⟩ := sh_m
    have hw := hR0.1.1
    have m1 := hR0.2.1
    have fin : ∀ Y, Fr (fun k => k = 53 ∨ k = 54) X Y → (∀ v, v < 8 → Y.2.1 54 v = lN (LSt g.now v)) → post none (sI Y 51 2 1) := by
      intro Y hF hL
      refine hpost _ (hR0.single hF hL) ⟨fun k hk => ⟨?_, ?_⟩, ?_⟩ hL
      · rw [sI_1, if_neg (by omega)]; exact hF.1 k (by omega)
      · exact hF.2.1 k (by omega)
      · exact hF.2.2
    by_cases hk : X.1 51 2 = 0
    · have key : ∀ k i Y, i + k = 8 → Fr (fun k => k = 53 ∨ k = 54) X Y → (∀ v, v < i → Y.2.1 54 v = lN (LSt g.now v)) → R 2 [(0, .ref 51), (1, .int (nI i))] [] Y := by
        intro k
        induction k with
        | zero =>
          intro i Y hi hF hL
          refine go hR [(2, [0, 1])] 60 ?_
          simp only [↓reduceIte, Nat.reduceEqDiff, Nat.reduceAdd, Nat.reduceLeDiff, reduceCtorEq, and_true, true_and, false_and, and_false, true_or, or_true, or_false, false_or, true_implies, false_implies, implies_true, not_true_eq_false, not_false_eq_true, eq_self, fx_s, ↓run_s, run_0, ↓rs_n, ↓rs_c, as_s, ls_n, ls_c, lc_s, lget_c, fX4_findsSingle_0, ↓ex_iconst, fX4_findsSingle_1, ↓ex_istore_n, ↓s1I_c, ↓lsto_e, ↓lrmK_n, ↓lrmK_f, ct_i, ct_l, ct_r, fX4_findsSingle_2, ↓ex_iload_n, ↓xI_i, ↓xIg_c, fX4_findsSingle_3, ↓ex_bipush, fX4_findsSingle_5, ↓ex_if_icmp_ge, ↓s2I_c, fX4_findsSingle_8, ↓ex_aload_n, ↓xR_r, ↓xRg_c, fX4_findsSingle_9, ↓ex_getfield, ↓s1R_c, ↓fv_4_2, fX4_findsSingle_12, ↓ex_ifCond_ne, fX4_findsSingle_15, fX4_findsSingle_16, ↓fv_4_4, fX4_findsSingle_19, fX4_findsSingle_20, fX4_findsSingle_21, fX4_findsSingle_22, fX4_findsSingle_23, ↓ex_ishl, fX4_findsSingle_24, fX4_findsSingle_25, ↓ex_invokevirtual, ↓xc_0, ↓xc_s, ↓xc_1, ↓pk_s, ↓k_s, ↓k_n, catS_n, catS_c, rOk_c, ↓pk_f, fX4_findsSingle_28, ↓ex_lastore, ↓sRIL_c, fX4_findsSingle_29, ↓ex_iinc, fX4_findsSingle_32, ↓ex_goto, fX4_findsSingle_35, fX4_findsSingle_36, fX4_findsSingle_37, ↓ex_putfield, ↓pf_4_2, fX4_findsSingle_40, ↓ex_return_, ↓rt_v, p1, q1, le8 (i := i) (by omega), tI_m5, tI_m4, tI_m3, tI_m2, tI_m1, tI_0, tI_1, tI_2, tI_3, tI_4, tI_5, tI_7, tI_8, tI_10, tI_12, tI_30, tI_31, tI_32, tI_47, tI_48, tI_57, tI_59, tI_42, tI_43, tI_45, tI_61, tI_62, tI_100, tI_120, tI_255, tI_1000, ↓reduceIte, not_true_eq_false, not_false_eq_true, false_implies, true_implies, implies_true, and_true, true_and, and_false, false_and, or_true, true_or, or_false, false_or, Classical.not_not, ite_true, ite_false]
          exact ⟨fun _ => ⟨bl_1, fin Y hF (fun v hv => hL v (by omega))⟩, fun z => absurd (by omega) z⟩
        | succ k ih =>
          intro i Y hi hF hL
          have e51 := hF.1 51 (by decide)
          refine go hR [(2, [0, 1])] 60 ?_
          simp only [↓reduceIte, Nat.reduceEqDiff, Nat.reduceAdd, Nat.reduceLeDiff, reduceCtorEq, and_true, true_and, false_and, and_false, true_or, or_true, or_false, false_or, true_implies, false_implies, implies_true, not_true_eq_false, not_false_eq_true, eq_self, fx_s, ↓run_s, run_0, ↓rs_n, ↓rs_c, as_s, ls_n, ls_c, lc_s, lget_c, fX4_findsSingle_0, ↓ex_iconst, fX4_findsSingle_1, ↓ex_istore_n, ↓s1I_c, ↓lsto_e, ↓lrmK_n, ↓lrmK_f, ct_i, ct_l, ct_r, fX4_findsSingle_2, ↓ex_iload_n, ↓xI_i, ↓xIg_c, fX4_findsSingle_3, ↓ex_bipush, fX4_findsSingle_5, ↓ex_if_icmp_ge, ↓s2I_c, fX4_findsSingle_8, ↓ex_aload_n, ↓xR_r, ↓xRg_c, fX4_findsSingle_9, ↓ex_getfield, ↓s1R_c, ↓fv_4_2, fX4_findsSingle_12, ↓ex_ifCond_ne, fX4_findsSingle_15, fX4_findsSingle_16, ↓fv_4_4, fX4_findsSingle_19, fX4_findsSingle_20, fX4_findsSingle_21, fX4_findsSingle_22, fX4_findsSingle_23, ↓ex_ishl, fX4_findsSingle_24, fX4_findsSingle_25, ↓ex_invokevirtual, ↓xc_0, ↓xc_s, ↓xc_1, ↓pk_s, ↓k_s, ↓k_n, catS_n, catS_c, rOk_c, ↓pk_f, fX4_findsSingle_28, ↓ex_lastore, ↓sRIL_c, fX4_findsSingle_29, ↓ex_iinc, fX4_findsSingle_32, ↓ex_goto, fX4_findsSingle_35, fX4_findsSingle_36, fX4_findsSingle_37, ↓ex_putfield, ↓pf_4_2, fX4_findsSingle_40, ↓ex_return_, ↓rt_v, p1, p4, q1, q4, e51, hk, ↓C_X4_likelihoodOf, shlN (e := i) (by omega), le8 (i := i) (by omega), tI_m5, tI_m4, tI_m3, tI_m2, tI_m1, tI_0, tI_1, tI_2, tI_3, tI_4, tI_5, tI_7, tI_8, tI_10, tI_12, tI_30, tI_31, tI_32, tI_47, tI_48, tI_57, tI_59, tI_42, tI_43, tI_45, tI_61, tI_62, tI_100, tI_120, tI_255, tI_1000, clampN (n := i) (by omega), add1N, add0N, ↓reduceIte, not_true_eq_false, not_false_eq_true, false_implies, true_implies, implies_true, and_true, true_and, and_false, false_and, or_true, true_or, or_false, false_or, Classical.not_not, ite_true, ite_false]
          refine ⟨fun z => absurd z (by omega), fun _ => ⟨g.now, 2 ^ i, ⟨by rw [hF.1 52 (by decide)]; exact m1, hw.oks, rfl, p2_255 (by omega)⟩, fun Z q hZ hq _ _ => ⟨vp_inN (by omega) (by omega), ih (i + 1) _ (by omega) ((hF.tr (hZ.mono (fun k z => Or.inl z))).pL (Or.inr rfl) _ _) (fun v hv => ?_)⟩⟩⟩
          rw [sL_2, if_pos rfl, updL_a]
          by_cases e : v = i
          · rw [if_pos e, e, hq]; rfl
          · rw [if_neg e, hZ.2.1 54 (by decide)]; exact hL v (by omega)
      refine go hR [(2, [0, 1])] 60 ?_
      simp only [lv_args, ↓reduceIte, Nat.reduceEqDiff, Nat.reduceAdd, Nat.reduceLeDiff, reduceCtorEq, and_true, true_and, false_and, and_false, true_or, or_true, or_false, false_or, true_implies, false_implies, implies_true, not_true_eq_false, not_false_eq_true, eq_self, fx_s, ↓run_s, run_0, ↓rs_n, ↓rs_c, as_s, ls_n, ls_c, lc_s, lget_c, fX4_findsSingle_0, ↓ex_iconst, fX4_findsSingle_1, ↓ex_istore_n, ↓s1I_c, ↓lsto_e, ↓lrmK_n, ↓lrmK_f, ct_i, ct_l, ct_r, fX4_findsSingle_2, ↓ex_iload_n, ↓xI_i, ↓xIg_c, fX4_findsSingle_3, ↓ex_bipush, fX4_findsSingle_5, ↓ex_if_icmp_ge, ↓s2I_c, fX4_findsSingle_8, ↓ex_aload_n, ↓xR_r, ↓xRg_c, fX4_findsSingle_9, ↓ex_getfield, ↓s1R_c, ↓fv_4_2, fX4_findsSingle_12, ↓ex_ifCond_ne, fX4_findsSingle_15, fX4_findsSingle_16, ↓fv_4_4, fX4_findsSingle_19, fX4_findsSingle_20, fX4_findsSingle_21, fX4_findsSingle_22, fX4_findsSingle_23, ↓ex_ishl, fX4_findsSingle_24, fX4_findsSingle_25, ↓ex_invokevirtual, ↓xc_0, ↓xc_s, ↓xc_1, ↓pk_s, ↓k_s, ↓k_n, catS_n, catS_c, rOk_c, ↓pk_f, fX4_findsSingle_28, ↓ex_lastore, ↓sRIL_c, fX4_findsSingle_29, ↓ex_iinc, fX4_findsSingle_32, ↓ex_goto, fX4_findsSingle_35, fX4_findsSingle_36, fX4_findsSingle_37, ↓ex_putfield, ↓pf_4_2, fX4_findsSingle_40, ↓ex_return_, ↓rt_v, ↓reduceIte, not_true_eq_false, not_false_eq_true, false_implies, true_implies, implies_true, and_true, true_and, and_false, false_and, or_true, true_or, or_false, false_or, Classical.not_not, ite_true, ite_false]
      exact key 8 0 X (by omega) (Fr.rf _ _) (fun v hv => absurd hv (by omega))
    · refine go hR [] 60 ?_
      simp only [lv_args, ↓reduceIte, Nat.reduceEqDiff, Nat.reduceAdd, Nat.reduceLeDiff, reduceCtorEq, and_true, true_and, false_and, and_false, true_or, or_true, or_false, false_or, true_implies, false_implies, implies_true, not_true_eq_false, not_false_eq_true, eq_self, fx_s, ↓run_s, run_0, ↓rs_n, ↓rs_c, as_s, ls_n, ls_c, lc_s, lget_c, fX4_findsSingle_0, ↓ex_iconst, fX4_findsSingle_1, ↓ex_istore_n, ↓s1I_c, ↓lsto_e, ↓lrmK_n, ↓lrmK_f, ct_i, ct_l, ct_r, fX4_findsSingle_2, ↓ex_iload_n, ↓xI_i, ↓xIg_c, fX4_findsSingle_3, ↓ex_bipush, fX4_findsSingle_5, ↓ex_if_icmp_ge, ↓s2I_c, fX4_findsSingle_8, ↓ex_aload_n, ↓xR_r, ↓xRg_c, fX4_findsSingle_9, ↓ex_getfield, ↓s1R_c, ↓fv_4_2, fX4_findsSingle_12, ↓ex_ifCond_ne, fX4_findsSingle_15, fX4_findsSingle_16, ↓fv_4_4, fX4_findsSingle_19, fX4_findsSingle_20, fX4_findsSingle_21, fX4_findsSingle_22, fX4_findsSingle_23, ↓ex_ishl, fX4_findsSingle_24, fX4_findsSingle_25, ↓ex_invokevirtual, ↓xc_0, ↓xc_s, ↓xc_1, ↓pk_s, ↓k_s, ↓k_n, catS_n, catS_c, rOk_c, ↓pk_f, fX4_findsSingle_28, ↓ex_lastore, ↓sRIL_c, fX4_findsSingle_29, ↓ex_iinc, fX4_findsSingle_32, ↓ex_goto, fX4_findsSingle_35, fX4_findsSingle_36, fX4_findsSingle_37, ↓ex_putfield, ↓pf_4_2, fX4_findsSingle_40, ↓ex_return_, ↓rt_v, p1, q1, hk, ↓reduceIte, not_true_eq_false, not_false_eq_true, false_implies, true_implies, implies_true, and_true, true_and, and_false, false_and, or_true, true_or, or_false, false_or, Classical.not_not, ite_true, ite_false]
      exact ⟨fun z => absurd z (by decide), fun _ => ⟨bl_1, fin X (Fr.rf _ _) (fun v hv => hR0.2.2.2.2.2.2 hk v hv)⟩⟩
  next => exact hC.elim)
noncomputable def C_X4_likelihood : CT := fun As X K => match As with
  | [.ref b, .int st] => b = 51 ∧ PubML (s_likelihood st) X K
  | _ => False
set_option maxRecDepth 20000 in
set_option maxHeartbeats 4000000 in
theorem d_X4_likelihood (l : Launch) : Does l yX4_likelihood (wY yX4_likelihood cX4_likelihood 2 (retT 2)) (rmF 3) C_X4_likelihood := does_of (rt := 2) (by decide +kernel) tkX4_likelihood (calls := [(74, true, 1, 4, C_X4_isStart), (96, false, 3, 4, C_X4_likelihoodOf)]) (List.forall_mem_cons.mpr ⟨cr_S (d_X4_isStart l) (by decide +kernel) (by decide +kernel) ⟨rfl, rfl⟩ ⟨Nat.le_of_ble_eq_true rfl, Nat.le_of_ble_eq_true rfl⟩, List.forall_mem_cons.mpr ⟨cr_V (d_X4_likelihoodOf l) rfl (by decide +kernel) (by decide +kernel) ⟨rfl, rfl⟩ ⟨Nat.le_of_ble_eq_true rfl, Nat.le_of_ble_eq_true rfl⟩, fun _ h => absurd h List.not_mem_nil⟩⟩) (by
  intro As X post hC
  unfold C_X4_likelihood at hC
  split at hC
  next b st =>
    obtain ⟨rfl, g, hR0, hpost⟩ := hC
    refine ⟨Nat.le_of_ble_eq_true rfl, fun R hR => ?_⟩
    obtain ⟨⟨p1, p2, p3, p4, p5, p6, p7⟩, q1, q2, q3, q4, q5, q6, q7⟩ := sh_m
    have hw := hR0.1.1
    refine go hR [] 60 ?_
    simp only [lv_args, ↓reduceIte, Nat.reduceEqDiff, Nat.reduceAdd, Nat.reduceLeDiff, reduceCtorEq, and_true, true_and, false_and, and_false, true_or, or_true, or_false, false_or, true_implies, false_implies, implies_true, not_true_eq_false, not_false_eq_true, eq_self, fx_s, ↓run_s, run_0, ↓rs_n, ↓rs_c, as_s, ls_n, ls_c, lc_s, lget_c, fX4_likelihood_0, ↓ex_iload_n, ↓xI_i, ↓xIg_c, fX4_likelihood_1, ↓ex_invokestatic, ↓xc_0, ↓xc_s, ↓xc_1, ↓pk_s, ↓k_s, ↓k_n, catS_n, catS_c, rOk_c, ct_i, ct_l, ct_r, ↓pk_t, fX4_likelihood_4, ↓ex_ifCond_eq, ↓s1I_c, fX4_likelihood_7, ↓ex_aload_n, ↓xR_r, ↓xRg_c, fX4_likelihood_8, fX4_likelihood_9, ↓ex_iconst, fX4_likelihood_10, ↓ex_invokevirtual, ↓pk_f, fX4_likelihood_13, ↓ex_goto, fX4_likelihood_16, ↓ex_ldc2_w, fX4_likelihood_19, ↓ex_lreturn, ↓rt_l, p1, q1, ↓C_X4_isStart, ↓C_X4_likelihoodOf, b2i_0, ↓reduceIte, not_true_eq_false, not_false_eq_true, false_implies, true_implies, implies_true, and_true, true_and, and_false, false_and, or_true, true_or, or_false, false_or, Classical.not_not, ite_true, ite_false]
    unfold s_likelihood at hpost
    by_cases h : inR st 1 255
    case neg => (rw [cif_f h] at hpost; simp only [h, ↓reduceIte, not_true_eq_false, not_false_eq_true, false_implies, true_implies, implies_true, and_true, true_and, and_false, false_and, or_true, true_or, or_false, false_or, Classical.not_not, ite_true, ite_false]; exact hpost X hR0 (FrC.rf X))
    rw [cif_t h] at hpost
    obtain ⟨-, h2, h3⟩ := inR_cl (lo := 1) (hi := 255) (by omega) h
    simp only [h, ↓reduceIte, not_true_eq_false, not_false_eq_true, false_implies, true_implies, implies_true, and_true, true_and, and_false, false_and, or_true, true_or, or_false, false_or, Classical.not_not, ite_true, ite_false]
    exact ⟨g.now, cl st, ⟨hR0.2.1, hw.oks, h3, h2⟩, fun Z q hZ hq _ _ => by rw [hq]; exact hpost Z (hR0.f53 hZ) hZ.c53⟩
  next => exact hC.elim)
noncomputable def C_X4_candidates : CT := fun As X K => match As with
  | [.ref b] => b = 51 ∧ PubMI s_candidates X K
  | _ => False
set_option maxRecDepth 20000 in
set_option maxHeartbeats 4000000 in
theorem d_X4_candidates (l : Launch) : Does l yX4_candidates (wY yX4_candidates cX4_candidates 3 (retT 0)) (rmF 4) C_X4_candidates := does_of (rt := 0) (by decide +kernel) tkX4_candidates (calls := [(100, false, 1, 4, C_X4_findsSingle)]) (List.forall_mem_cons.mpr ⟨cr_V (d_X4_findsSingle l) rfl (by decide +kernel) (by decide +kernel) ⟨rfl, rfl⟩ ⟨Nat.le_of_ble_eq_true rfl, Nat.le_of_ble_eq_true rfl⟩, fun _ h => absurd h List.not_mem_nil⟩) (by
  intro As X post hC
  unfold C_X4_candidates at hC
  split at hC
  next b =>
    obtain ⟨rfl, g, hR0, hpost⟩ := hC
    refine ⟨Nat.le_of_ble_eq_true rfl, fun R hR => ?_⟩
    obtain ⟨⟨p1, p2, p3, p4, p5, p6, p7⟩, q1, q2, q3, q4, q5, q6, q7⟩ := sh_m
    have hw := hR0.1.1
    have h0 : (0 : Int64) = lN 0 := rfl
    refine go hR [(8, [0, 1, 2])] 60 ?_
    simp only [lv_args, ↓reduceIte, Nat.reduceEqDiff, Nat.reduceAdd, Nat.reduceLeDiff, reduceCtorEq, and_true, true_and, false_and, and_false, true_or, or_true, or_false, false_or, true_implies, false_implies, implies_true, not_true_eq_false, not_false_eq_true, eq_self, fx_s, ↓run_s, run_0, ↓rs_n, ↓rs_c, as_s, ls_n, ls_c, lc_s, lget_c, fX4_candidates_0, ↓ex_aload_n, ↓xR_r, ↓xRg_c, fX4_candidates_1, ↓ex_invokevirtual, ↓xc_0, ↓xc_s, ↓xc_1, ↓pk_s, ↓k_s, ↓k_n, catS_n, catS_c, rOk_c, ct_i, ct_l, ct_r, ↓pk_f, fX4_candidates_4, ↓ex_iconst, fX4_candidates_5, ↓ex_istore_n, ↓s1I_c, ↓lsto_e, ↓lrmK_n, ↓lrmK_f, fX4_candidates_6, fX4_candidates_7, fX4_candidates_8, ↓ex_iload_n, ↓xI_i, ↓xIg_c, fX4_candidates_9, ↓ex_bipush, fX4_candidates_11, ↓ex_if_icmp_ge, ↓s2I_c, fX4_candidates_14, fX4_candidates_15, fX4_candidates_16, ↓ex_getfield, ↓s1R_c, ↓fv_4_4, fX4_candidates_19, fX4_candidates_20, ↓ex_laload, ↓sRI_c, fX4_candidates_21, ↓ex_lconst, fX4_candidates_22, ↓ex_lcmp, ↓s2L_c, fX4_candidates_23, ↓ex_ifCond_le, fX4_candidates_26, fX4_candidates_27, ↓ex_goto, fX4_candidates_30, fX4_candidates_31, ↓ex_iadd, fX4_candidates_32, fX4_candidates_33, ↓ex_iinc, fX4_candidates_36, fX4_candidates_39, fX4_candidates_40, ↓ex_ireturn, ↓rt_i, p1, q1, ↓C_X4_findsSingle, ↓reduceIte, not_true_eq_false, not_false_eq_true, false_implies, true_implies, implies_true, and_true, true_and, and_false, false_and, or_true, true_or, or_false, false_or, Classical.not_not, ite_true, ite_false]
    refine ⟨g, hR0, fun Y hY hFY hL => ?_⟩
    have key : ∀ k i, i + k = 8 → R 8 [(0, .ref 51), (1, .int (nI (cntC g.now i))), (2, .int (nI i))] [] Y := by
      intro k
      induction k with
      | zero =>
        intro i hi
        refine go hR [(8, [0, 1, 2])] 60 ?_
        simp only [↓reduceIte, Nat.reduceEqDiff, Nat.reduceAdd, Nat.reduceLeDiff, reduceCtorEq, and_true, true_and, false_and, and_false, true_or, or_true, or_false, false_or, true_implies, false_implies, implies_true, not_true_eq_false, not_false_eq_true, eq_self, fx_s, ↓run_s, run_0, ↓rs_n, ↓rs_c, as_s, ls_n, ls_c, lc_s, lget_c, fX4_candidates_0, ↓ex_aload_n, ↓xR_r, ↓xRg_c, fX4_candidates_1, ↓ex_invokevirtual, ↓xc_0, ↓xc_s, ↓xc_1, ↓pk_s, ↓k_s, ↓k_n, catS_n, catS_c, rOk_c, ct_i, ct_l, ct_r, ↓pk_f, fX4_candidates_4, ↓ex_iconst, fX4_candidates_5, ↓ex_istore_n, ↓s1I_c, ↓lsto_e, ↓lrmK_n, ↓lrmK_f, fX4_candidates_6, fX4_candidates_7, fX4_candidates_8, ↓ex_iload_n, ↓xI_i, ↓xIg_c, fX4_candidates_9, ↓ex_bipush, fX4_candidates_11, ↓ex_if_icmp_ge, ↓s2I_c, fX4_candidates_14, fX4_candidates_15, fX4_candidates_16, ↓ex_getfield, ↓s1R_c, ↓fv_4_4, fX4_candidates_19, fX4_candidates_20, ↓ex_laload, ↓sRI_c, fX4_candidates_21, ↓ex_lconst, fX4_candidates_22, ↓ex_lcmp, ↓s2L_c, fX4_candidates_23, ↓ex_ifCond_le, fX4_candidates_26, fX4_candidates_27, ↓ex_goto, fX4_candidates_30, fX4_candidates_31, ↓ex_iadd, fX4_candidates_32, fX4_candidates_33, ↓ex_iinc, fX4_candidates_36, fX4_candidates_39, fX4_candidates_40, ↓ex_ireturn, ↓rt_i, le8 (i := i) (by omega), tI_m5, tI_m4, tI_m3, tI_m2, tI_m1, tI_0, tI_1, tI_2, tI_3, tI_4, tI_5, tI_7, tI_8, tI_10, tI_12, tI_30, tI_31, tI_32, tI_47, tI_48, tI_57, tI_59, tI_42, tI_43, tI_45, tI_61, tI_62, tI_100, tI_120, tI_255, tI_1000, ↓reduceIte, not_true_eq_false, not_false_eq_true, false_implies, true_implies, implies_true, and_true, true_and, and_false, false_and, or_true, true_or, or_false, false_or, Classical.not_not, ite_true, ite_false]
        refine ⟨fun _ => ?_, fun z => absurd (by omega) z⟩
        rw [show i = 8 by omega]
        exact hpost Y hY hFY
      | succ k ih =>
        intro i hi
        have b1 := LSt_12 hw.we i
        have hi1 := ih (i + 1) (by omega)
        unfold cntC at hi1
        refine go hR [(8, [0, 1, 2])] 60 ?_
        simp only [↓reduceIte, Nat.reduceEqDiff, Nat.reduceAdd, Nat.reduceLeDiff, reduceCtorEq, and_true, true_and, false_and, and_false, true_or, or_true, or_false, false_or, true_implies, false_implies, implies_true, not_true_eq_false, not_false_eq_true, eq_self, fx_s, ↓run_s, run_0, ↓rs_n, ↓rs_c, as_s, ls_n, ls_c, lc_s, lget_c, fX4_candidates_0, ↓ex_aload_n, ↓xR_r, ↓xRg_c, fX4_candidates_1, ↓ex_invokevirtual, ↓xc_0, ↓xc_s, ↓xc_1, ↓pk_s, ↓k_s, ↓k_n, catS_n, catS_c, rOk_c, ct_i, ct_l, ct_r, ↓pk_f, fX4_candidates_4, ↓ex_iconst, fX4_candidates_5, ↓ex_istore_n, ↓s1I_c, ↓lsto_e, ↓lrmK_n, ↓lrmK_f, fX4_candidates_6, fX4_candidates_7, fX4_candidates_8, ↓ex_iload_n, ↓xI_i, ↓xIg_c, fX4_candidates_9, ↓ex_bipush, fX4_candidates_11, ↓ex_if_icmp_ge, ↓s2I_c, fX4_candidates_14, fX4_candidates_15, fX4_candidates_16, ↓ex_getfield, ↓s1R_c, ↓fv_4_4, fX4_candidates_19, fX4_candidates_20, ↓ex_laload, ↓sRI_c, fX4_candidates_21, ↓ex_lconst, fX4_candidates_22, ↓ex_lcmp, ↓s2L_c, fX4_candidates_23, ↓ex_ifCond_le, fX4_candidates_26, fX4_candidates_27, ↓ex_goto, fX4_candidates_30, fX4_candidates_31, ↓ex_iadd, fX4_candidates_32, fX4_candidates_33, ↓ex_iinc, fX4_candidates_36, fX4_candidates_39, fX4_candidates_40, ↓ex_ireturn, ↓rt_i, p1, p4, q1, q4, le8 (i := i) (by omega), tI_m5, tI_m4, tI_m3, tI_m2, tI_m1, tI_0, tI_1, tI_2, tI_3, tI_4, tI_5, tI_7, tI_8, tI_10, tI_12, tI_30, tI_31, tI_32, tI_47, tI_48, tI_57, tI_59, tI_42, tI_43, tI_45, tI_61, tI_62, tI_100, tI_120, tI_255, tI_1000, clampN (n := i) (by omega), hL i (by omega), lg_cmp_le, h0, pk_lLE (a := LSt g.now i) (b := 0) (by omega) (by omega), add1N, add0N, ↓reduceIte, not_true_eq_false, not_false_eq_true, false_implies, true_implies, implies_true, and_true, true_and, and_false, false_and, or_true, true_or, or_false, false_or, Classical.not_not, ite_true, ite_false]
        refine ⟨fun z => absurd z (by omega), fun _ => ⟨vp_inN (by omega) (by omega), fun z => ?_, fun z => ?_⟩⟩
        · rw [cif_f (by omega)] at hi1; exact hi1
        · rw [cif_t (by omega)] at hi1; exact hi1
    exact key 8 0 (by omega)
  next => exact hC.elim)
noncomputable def C_X4_candidate : CT := fun As X K => match As with
  | [.ref b, .int r] => b = 51 ∧ PubMI (s_candidate r) X K
  | _ => False
set_option maxRecDepth 20000 in
set_option maxHeartbeats 4000000 in
theorem d_X4_candidate (l : Launch) : Does l yX4_candidate (wY yX4_candidate cX4_candidate 5 (retT 0)) (rmF 4) C_X4_candidate := does_of (rt := 0) (by decide +kernel) tkX4_candidate (calls := [(100, false, 1, 4, C_X4_findsSingle)]) (List.forall_mem_cons.mpr ⟨cr_V (d_X4_findsSingle l) rfl (by decide +kernel) (by decide +kernel) ⟨rfl, rfl⟩ ⟨Nat.le_of_ble_eq_true rfl, Nat.le_of_ble_eq_true rfl⟩, fun _ h => absurd h List.not_mem_nil⟩) (by
  intro As X post hC
  unfold C_X4_candidate at hC
  split at hC
  next b r =>
    obtain ⟨rfl, g, hR0, hpost⟩ := hC
    refine ⟨Nat.le_of_ble_eq_true rfl, fun R hR => ?_⟩
    obtain ⟨⟨p1, p2, p3, p4, p5, p6, p7⟩, q1, q2, q3, q4, q5, q6, q7⟩ := sh_m
    have hw := hR0.1.1
    have h0 : (0 : Int64) = lN 0 := rfl
    refine go hR [(6, [0, 1, 2])] 60 ?_
    simp only [lv_args, ↓reduceIte, Nat.reduceEqDiff, Nat.reduceAdd, Nat.reduceLeDiff, reduceCtorEq, and_true, true_and, false_and, and_false, true_or, or_true, or_false, false_or, true_implies, false_implies, implies_true, not_true_eq_false, not_false_eq_true, eq_self, fx_s, ↓run_s, run_0, ↓rs_n, ↓rs_c, as_s, ls_n, ls_c, lc_s, lget_c, fX4_candidate_0, ↓ex_aload_n, ↓xR_r, ↓xRg_c, fX4_candidate_1, ↓ex_invokevirtual, ↓xc_0, ↓xc_s, ↓xc_1, ↓pk_s, ↓k_s, ↓k_n, catS_n, catS_c, rOk_c, ct_i, ct_l, ct_r, ↓pk_f, fX4_candidate_4, ↓ex_iconst, fX4_candidate_5, ↓ex_istore_n, ↓s1I_c, ↓lsto_e, ↓lrmK_n, ↓lrmK_f, fX4_candidate_6, ↓ex_iload_n, ↓xI_i, ↓xIg_c, fX4_candidate_7, ↓ex_bipush, fX4_candidate_9, ↓ex_if_icmp_ge, ↓s2I_c, fX4_candidate_12, fX4_candidate_13, fX4_candidate_14, fX4_candidate_15, ↓ex_istore, fX4_candidate_17, ↓ex_iload, fX4_candidate_19, fX4_candidate_21, fX4_candidate_24, fX4_candidate_25, fX4_candidate_26, ↓ex_getfield, ↓s1R_c, ↓fv_4_4, fX4_candidate_29, fX4_candidate_31, ↓ex_laload, ↓sRI_c, fX4_candidate_32, fX4_candidate_33, fX4_candidate_36, fX4_candidate_37, fX4_candidate_38, ↓ex_lcmp, ↓s2L_c, fX4_candidate_39, ↓ex_ifCond_gt, fX4_candidate_42, fX4_candidate_43, fX4_candidate_46, fX4_candidate_48, fX4_candidate_49, fX4_candidate_50, fX4_candidate_53, fX4_candidate_54, fX4_candidate_55, fX4_candidate_56, ↓ex_ifCond_ne, fX4_candidate_59, fX4_candidate_61, fX4_candidate_62, fX4_candidate_65, fX4_candidate_66, ↓ex_goto, fX4_candidate_69, fX4_candidate_70, ↓ex_iadd, fX4_candidate_71, fX4_candidate_72, ↓ex_iinc, fX4_candidate_75, fX4_candidate_78, fX4_candidate_79, fX4_candidate_82, fX4_candidate_83, fX4_candidate_84, ↓ex_lconst, fX4_candidate_85, fX4_candidate_86, ↓ex_ifCond_le, fX4_candidate_89, fX4_candidate_90, fX4_candidate_91, ↓ex_if_icmp_ne, fX4_candidate_94, fX4_candidate_95, ↓ex_ireturn, ↓rt_i, fX4_candidate_96, fX4_candidate_99, fX4_candidate_102, fX4_candidate_104, p1, q1, ↓C_X4_findsSingle, ↓reduceIte, not_true_eq_false, not_false_eq_true, false_implies, true_implies, implies_true, and_true, true_and, and_false, false_and, or_true, true_or, or_false, false_or, Classical.not_not, ite_true, ite_false]
    refine ⟨g, hR0, fun Y hY hFY hL => ?_⟩
    have hfin := hpost Y hY hFY
    have inner : ∀ v, v < 8 → (nI (rnk (LSt g.now) v 8) = nI (rnk (LSt g.now) v 8) → R 78 [(0, .ref 51), (1, .int r), (2, .int (nI v)), (3, .int (nI (rnk (LSt g.now) v 8)))] [] Y) → ∀ k i, i + k = 8 → R 17 [(0, .ref 51), (1, .int r), (2, .int (nI v)), (3, .int (nI (rnk (LSt g.now) v i))), (4, .int (nI i))] [] Y := by
      intro v hv hout k
      induction k with
      | zero =>
        intro i hi
        refine go hR [(17, [0, 1, 2, 3, 4]), (78, [0, 1, 2, 3])] 60 ?_
        simp only [↓reduceIte, Nat.reduceEqDiff, Nat.reduceAdd, Nat.reduceLeDiff, reduceCtorEq, and_true, true_and, false_and, and_false, true_or, or_true, or_false, false_or, true_implies, false_implies, implies_true, not_true_eq_false, not_false_eq_true, eq_self, fx_s, ↓run_s, run_0, ↓rs_n, ↓rs_c, as_s, ls_n, ls_c, lc_s, lget_c, fX4_candidate_0, ↓ex_aload_n, ↓xR_r, ↓xRg_c, fX4_candidate_1, ↓ex_invokevirtual, ↓xc_0, ↓xc_s, ↓xc_1, ↓pk_s, ↓k_s, ↓k_n, catS_n, catS_c, rOk_c, ct_i, ct_l, ct_r, ↓pk_f, fX4_candidate_4, ↓ex_iconst, fX4_candidate_5, ↓ex_istore_n, ↓s1I_c, ↓lsto_e, ↓lrmK_n, ↓lrmK_f, fX4_candidate_6, ↓ex_iload_n, ↓xI_i, ↓xIg_c, fX4_candidate_7, ↓ex_bipush, fX4_candidate_9, ↓ex_if_icmp_ge, ↓s2I_c, fX4_candidate_12, fX4_candidate_13, fX4_candidate_14, fX4_candidate_15, ↓ex_istore, fX4_candidate_17, ↓ex_iload, fX4_candidate_19, fX4_candidate_21, fX4_candidate_24, fX4_candidate_25, fX4_candidate_26, ↓ex_getfield, ↓s1R_c, ↓fv_4_4, fX4_candidate_29, fX4_candidate_31, ↓ex_laload, ↓sRI_c, fX4_candidate_32, fX4_candidate_33, fX4_candidate_36, fX4_candidate_37, fX4_candidate_38, ↓ex_lcmp, ↓s2L_c, fX4_candidate_39, ↓ex_ifCond_gt, fX4_candidate_42, fX4_candidate_43, fX4_candidate_46, fX4_candidate_48, fX4_candidate_49, fX4_candidate_50, fX4_candidate_53, fX4_candidate_54, fX4_candidate_55, fX4_candidate_56, ↓ex_ifCond_ne, fX4_candidate_59, fX4_candidate_61, fX4_candidate_62, fX4_candidate_65, fX4_candidate_66, ↓ex_goto, fX4_candidate_69, fX4_candidate_70, ↓ex_iadd, fX4_candidate_71, fX4_candidate_72, ↓ex_iinc, fX4_candidate_75, fX4_candidate_78, fX4_candidate_79, fX4_candidate_82, fX4_candidate_83, fX4_candidate_84, ↓ex_lconst, fX4_candidate_85, fX4_candidate_86, ↓ex_ifCond_le, fX4_candidate_89, fX4_candidate_90, fX4_candidate_91, ↓ex_if_icmp_ne, fX4_candidate_94, fX4_candidate_95, ↓ex_ireturn, ↓rt_i, fX4_candidate_96, fX4_candidate_99, fX4_candidate_102, fX4_candidate_104, le8 (i := i) (by omega), tI_m5, tI_m4, tI_m3, tI_m2, tI_m1, tI_0, tI_1, tI_2, tI_3, tI_4, tI_5, tI_7, tI_8, tI_10, tI_12, tI_30, tI_31, tI_32, tI_47, tI_48, tI_57, tI_59, tI_42, tI_43, tI_45, tI_61, tI_62, tI_100, tI_120, tI_255, tI_1000, ↓reduceIte, not_true_eq_false, not_false_eq_true, false_implies, true_implies, implies_true, and_true, true_and, and_false, false_and, or_true, true_or, or_false, false_or, Classical.not_not, ite_true, ite_false]
        refine ⟨fun _ => ?_, fun z => absurd (by omega) z⟩
        rw [show i = 8 by omega]
        exact hout rfl
      | succ k ih =>
        intro i hi
        have b1 := LSt_12 hw.we i
        have b2 := LSt_12 hw.we v
        have hi1 := ih (i + 1) (by omega)
        unfold rnk at hi1
        refine go hR [(17, [0, 1, 2, 3, 4]), (78, [0, 1, 2, 3])] 60 ?_
        simp only [↓reduceIte, Nat.reduceEqDiff, Nat.reduceAdd, Nat.reduceLeDiff, reduceCtorEq, and_true, true_and, false_and, and_false, true_or, or_true, or_false, false_or, true_implies, false_implies, implies_true, not_true_eq_false, not_false_eq_true, eq_self, fx_s, ↓run_s, run_0, ↓rs_n, ↓rs_c, as_s, ls_n, ls_c, lc_s, lget_c, fX4_candidate_0, ↓ex_aload_n, ↓xR_r, ↓xRg_c, fX4_candidate_1, ↓ex_invokevirtual, ↓xc_0, ↓xc_s, ↓xc_1, ↓pk_s, ↓k_s, ↓k_n, catS_n, catS_c, rOk_c, ct_i, ct_l, ct_r, ↓pk_f, fX4_candidate_4, ↓ex_iconst, fX4_candidate_5, ↓ex_istore_n, ↓s1I_c, ↓lsto_e, ↓lrmK_n, ↓lrmK_f, fX4_candidate_6, ↓ex_iload_n, ↓xI_i, ↓xIg_c, fX4_candidate_7, ↓ex_bipush, fX4_candidate_9, ↓ex_if_icmp_ge, ↓s2I_c, fX4_candidate_12, fX4_candidate_13, fX4_candidate_14, fX4_candidate_15, ↓ex_istore, fX4_candidate_17, ↓ex_iload, fX4_candidate_19, fX4_candidate_21, fX4_candidate_24, fX4_candidate_25, fX4_candidate_26, ↓ex_getfield, ↓s1R_c, ↓fv_4_4, fX4_candidate_29, fX4_candidate_31, ↓ex_laload, ↓sRI_c, fX4_candidate_32, fX4_candidate_33, fX4_candidate_36, fX4_candidate_37, fX4_candidate_38, ↓ex_lcmp, ↓s2L_c, fX4_candidate_39, ↓ex_ifCond_gt, fX4_candidate_42, fX4_candidate_43, fX4_candidate_46, fX4_candidate_48, fX4_candidate_49, fX4_candidate_50, fX4_candidate_53, fX4_candidate_54, fX4_candidate_55, fX4_candidate_56, ↓ex_ifCond_ne, fX4_candidate_59, fX4_candidate_61, fX4_candidate_62, fX4_candidate_65, fX4_candidate_66, ↓ex_goto, fX4_candidate_69, fX4_candidate_70, ↓ex_iadd, fX4_candidate_71, fX4_candidate_72, ↓ex_iinc, fX4_candidate_75, fX4_candidate_78, fX4_candidate_79, fX4_candidate_82, fX4_candidate_83, fX4_candidate_84, ↓ex_lconst, fX4_candidate_85, fX4_candidate_86, ↓ex_ifCond_le, fX4_candidate_89, fX4_candidate_90, fX4_candidate_91, ↓ex_if_icmp_ne, fX4_candidate_94, fX4_candidate_95, ↓ex_ireturn, ↓rt_i, fX4_candidate_96, fX4_candidate_99, fX4_candidate_102, fX4_candidate_104, p1, p4, q1, q4, le8 (i := i) (by omega), leN (a := v) (b := i) (by omega) (by omega), clampN (n := i) (by omega), clampN (n := v) (by omega), hL i (by omega), hL v hv, lg_cmp_gt, lg_cmp_eq, pk_lLT (a := LSt g.now v) (b := LSt g.now i) (by omega) (by omega), pk_lEQ (a := LSt g.now i) (b := LSt g.now v) (by omega) (by omega), add1N, add0N, ↓reduceIte, not_true_eq_false, not_false_eq_true, false_implies, true_implies, implies_true, and_true, true_and, and_false, false_and, or_true, true_or, or_false, false_or, Classical.not_not, ite_true, ite_false]
        have vi : vp_in (nI i) 8 := vp_inN (by omega) (by omega)
        have vv : vp_in (nI v) 8 := vp_inN (by omega) hv
        have yes : (LSt g.now v < LSt g.now i ∨ (LSt g.now i = LSt g.now v ∧ i < v)) → R 17 [(0, .ref 51), (1, .int r), (2, .int (nI v)), (3, .int (nI (rnk (LSt g.now) v i + 1))), (4, .int (nI (i + 1)))] [] Y := fun z => by rw [cif_t z] at hi1; exact hi1
        have no : ¬ (LSt g.now v < LSt g.now i ∨ (LSt g.now i = LSt g.now v ∧ i < v)) → R 17 [(0, .ref 51), (1, .int r), (2, .int (nI v)), (3, .int (nI (rnk (LSt g.now) v i))), (4, .int (nI (i + 1)))] [] Y := fun z => by rw [cif_f z] at hi1; exact hi1
        repeat' (first | exact vi | exact vv | apply And.intro | intro _)
        all_goals first | exact absurd ‹_› (by omega) | exact yes (by omega) | exact no (by omega)
    have key : ∀ k i, i + k = 8 → post (some (.int (candF (LSt g.now) r k i))) Y → R 6 [(0, .ref 51), (1, .int r), (2, .int (nI i))] [] Y := by
      intro k
      induction k with
      | zero =>
        intro i hi hp
        refine go hR [(6, [0, 1, 2]), (17, [0, 1, 2, 3, 4])] 60 ?_
        simp only [↓reduceIte, Nat.reduceEqDiff, Nat.reduceAdd, Nat.reduceLeDiff, reduceCtorEq, and_true, true_and, false_and, and_false, true_or, or_true, or_false, false_or, true_implies, false_implies, implies_true, not_true_eq_false, not_false_eq_true, eq_self, fx_s, ↓run_s, run_0, ↓rs_n, ↓rs_c, as_s, ls_n, ls_c, lc_s, lget_c, fX4_candidate_0, ↓ex_aload_n, ↓xR_r, ↓xRg_c, fX4_candidate_1, ↓ex_invokevirtual, ↓xc_0, ↓xc_s, ↓xc_1, ↓pk_s, ↓k_s, ↓k_n, catS_n, catS_c, rOk_c, ct_i, ct_l, ct_r, ↓pk_f, fX4_candidate_4, ↓ex_iconst, fX4_candidate_5, ↓ex_istore_n, ↓s1I_c, ↓lsto_e, ↓lrmK_n, ↓lrmK_f, fX4_candidate_6, ↓ex_iload_n, ↓xI_i, ↓xIg_c, fX4_candidate_7, ↓ex_bipush, fX4_candidate_9, ↓ex_if_icmp_ge, ↓s2I_c, fX4_candidate_12, fX4_candidate_13, fX4_candidate_14, fX4_candidate_15, ↓ex_istore, fX4_candidate_17, ↓ex_iload, fX4_candidate_19, fX4_candidate_21, fX4_candidate_24, fX4_candidate_25, fX4_candidate_26, ↓ex_getfield, ↓s1R_c, ↓fv_4_4, fX4_candidate_29, fX4_candidate_31, ↓ex_laload, ↓sRI_c, fX4_candidate_32, fX4_candidate_33, fX4_candidate_36, fX4_candidate_37, fX4_candidate_38, ↓ex_lcmp, ↓s2L_c, fX4_candidate_39, ↓ex_ifCond_gt, fX4_candidate_42, fX4_candidate_43, fX4_candidate_46, fX4_candidate_48, fX4_candidate_49, fX4_candidate_50, fX4_candidate_53, fX4_candidate_54, fX4_candidate_55, fX4_candidate_56, ↓ex_ifCond_ne, fX4_candidate_59, fX4_candidate_61, fX4_candidate_62, fX4_candidate_65, fX4_candidate_66, ↓ex_goto, fX4_candidate_69, fX4_candidate_70, ↓ex_iadd, fX4_candidate_71, fX4_candidate_72, ↓ex_iinc, fX4_candidate_75, fX4_candidate_78, fX4_candidate_79, fX4_candidate_82, fX4_candidate_83, fX4_candidate_84, ↓ex_lconst, fX4_candidate_85, fX4_candidate_86, ↓ex_ifCond_le, fX4_candidate_89, fX4_candidate_90, fX4_candidate_91, ↓ex_if_icmp_ne, fX4_candidate_94, fX4_candidate_95, ↓ex_ireturn, ↓rt_i, fX4_candidate_96, fX4_candidate_99, fX4_candidate_102, fX4_candidate_104, le8 (i := i) (by omega), tI_m5, tI_m4, tI_m3, tI_m2, tI_m1, tI_0, tI_1, tI_2, tI_3, tI_4, tI_5, tI_7, tI_8, tI_10, tI_12, tI_30, tI_31, tI_32, tI_47, tI_48, tI_57, tI_59, tI_42, tI_43, tI_45, tI_61, tI_62, tI_100, tI_120, tI_255, tI_1000, ↓reduceIte, not_true_eq_false, not_false_eq_true, false_implies, true_implies, implies_true, and_true, true_and, and_false, false_and, or_true, true_or, or_false, false_or, Classical.not_not, ite_true, ite_false]
        exact ⟨fun _ => hp, fun z => absurd (by omega) z⟩
      | succ k ih =>
        intro i hi hp
        unfold candF at hp
        have b1 := LSt_12 hw.we i
        refine go hR [(6, [0, 1, 2]), (17, [0, 1, 2, 3, 4])] 60 ?_
        simp only [↓reduceIte, Nat.reduceEqDiff, Nat.reduceAdd, Nat.reduceLeDiff, reduceCtorEq, and_true, true_and, false_and, and_false, true_or, or_true, or_false, false_or, true_implies, false_implies, implies_true, not_true_eq_false, not_false_eq_true, eq_self, fx_s, ↓run_s, run_0, ↓rs_n, ↓rs_c, as_s, ls_n, ls_c, lc_s, lget_c, fX4_candidate_0, ↓ex_aload_n, ↓xR_r, ↓xRg_c, fX4_candidate_1, ↓ex_invokevirtual, ↓xc_0, ↓xc_s, ↓xc_1, ↓pk_s, ↓k_s, ↓k_n, catS_n, catS_c, rOk_c, ct_i, ct_l, ct_r, ↓pk_f, fX4_candidate_4, ↓ex_iconst, fX4_candidate_5, ↓ex_istore_n, ↓s1I_c, ↓lsto_e, ↓lrmK_n, ↓lrmK_f, fX4_candidate_6, ↓ex_iload_n, ↓xI_i, ↓xIg_c, fX4_candidate_7, ↓ex_bipush, fX4_candidate_9, ↓ex_if_icmp_ge, ↓s2I_c, fX4_candidate_12, fX4_candidate_13, fX4_candidate_14, fX4_candidate_15, ↓ex_istore, fX4_candidate_17, ↓ex_iload, fX4_candidate_19, fX4_candidate_21, fX4_candidate_24, fX4_candidate_25, fX4_candidate_26, ↓ex_getfield, ↓s1R_c, ↓fv_4_4, fX4_candidate_29, fX4_candidate_31, ↓ex_laload, ↓sRI_c, fX4_candidate_32, fX4_candidate_33, fX4_candidate_36, fX4_candidate_37, fX4_candidate_38, ↓ex_lcmp, ↓s2L_c, fX4_candidate_39, ↓ex_ifCond_gt, fX4_candidate_42, fX4_candidate_43, fX4_candidate_46, fX4_candidate_48, fX4_candidate_49, fX4_candidate_50, fX4_candidate_53, fX4_candidate_54, fX4_candidate_55, fX4_candidate_56, ↓ex_ifCond_ne, fX4_candidate_59, fX4_candidate_61, fX4_candidate_62, fX4_candidate_65, fX4_candidate_66, ↓ex_goto, fX4_candidate_69, fX4_candidate_70, ↓ex_iadd, fX4_candidate_71, fX4_candidate_72, ↓ex_iinc, fX4_candidate_75, fX4_candidate_78, fX4_candidate_79, fX4_candidate_82, fX4_candidate_83, fX4_candidate_84, ↓ex_lconst, fX4_candidate_85, fX4_candidate_86, ↓ex_ifCond_le, fX4_candidate_89, fX4_candidate_90, fX4_candidate_91, ↓ex_if_icmp_ne, fX4_candidate_94, fX4_candidate_95, ↓ex_ireturn, ↓rt_i, fX4_candidate_96, fX4_candidate_99, fX4_candidate_102, fX4_candidate_104, le8 (i := i) (by omega), tI_m5, tI_m4, tI_m3, tI_m2, tI_m1, tI_0, tI_1, tI_2, tI_3, tI_4, tI_5, tI_7, tI_8, tI_10, tI_12, tI_30, tI_31, tI_32, tI_47, tI_48, tI_57, tI_59, tI_42, tI_43, tI_45, tI_61, tI_62, tI_100, tI_120, tI_255, tI_1000, ↓reduceIte, not_true_eq_false, not_false_eq_true, false_implies, true_implies, implies_true, and_true, true_and, and_false, false_and, or_true, true_or, or_false, false_or, Classical.not_not, ite_true, ite_false]
        refine ⟨fun z => absurd z (by omega), fun _ => inner i (by omega) (fun _ => ?_) 8 0 (by omega)⟩
        refine go hR [(6, [0, 1, 2]), (17, [0, 1, 2, 3, 4])] 60 ?_
        simp only [↓reduceIte, Nat.reduceEqDiff, Nat.reduceAdd, Nat.reduceLeDiff, reduceCtorEq, and_true, true_and, false_and, and_false, true_or, or_true, or_false, false_or, true_implies, false_implies, implies_true, not_true_eq_false, not_false_eq_true, eq_self, fx_s, ↓run_s, run_0, ↓rs_n, ↓rs_c, as_s, ls_n, ls_c, lc_s, lget_c, fX4_candidate_0, ↓ex_aload_n, ↓xR_r, ↓xRg_c, fX4_candidate_1, ↓ex_invokevirtual, ↓xc_0, ↓xc_s, ↓xc_1, ↓pk_s, ↓k_s, ↓k_n, catS_n, catS_c, rOk_c, ct_i, ct_l, ct_r, ↓pk_f, fX4_candidate_4, ↓ex_iconst, fX4_candidate_5, ↓ex_istore_n, ↓s1I_c, ↓lsto_e, ↓lrmK_n, ↓lrmK_f, fX4_candidate_6, ↓ex_iload_n, ↓xI_i, ↓xIg_c, fX4_candidate_7, ↓ex_bipush, fX4_candidate_9, ↓ex_if_icmp_ge, ↓s2I_c, fX4_candidate_12, fX4_candidate_13, fX4_candidate_14, fX4_candidate_15, ↓ex_istore, fX4_candidate_17, ↓ex_iload, fX4_candidate_19, fX4_candidate_21, fX4_candidate_24, fX4_candidate_25, fX4_candidate_26, ↓ex_getfield, ↓s1R_c, ↓fv_4_4, fX4_candidate_29, fX4_candidate_31, ↓ex_laload, ↓sRI_c, fX4_candidate_32, fX4_candidate_33, fX4_candidate_36, fX4_candidate_37, fX4_candidate_38, ↓ex_lcmp, ↓s2L_c, fX4_candidate_39, ↓ex_ifCond_gt, fX4_candidate_42, fX4_candidate_43, fX4_candidate_46, fX4_candidate_48, fX4_candidate_49, fX4_candidate_50, fX4_candidate_53, fX4_candidate_54, fX4_candidate_55, fX4_candidate_56, ↓ex_ifCond_ne, fX4_candidate_59, fX4_candidate_61, fX4_candidate_62, fX4_candidate_65, fX4_candidate_66, ↓ex_goto, fX4_candidate_69, fX4_candidate_70, ↓ex_iadd, fX4_candidate_71, fX4_candidate_72, ↓ex_iinc, fX4_candidate_75, fX4_candidate_78, fX4_candidate_79, fX4_candidate_82, fX4_candidate_83, fX4_candidate_84, ↓ex_lconst, fX4_candidate_85, fX4_candidate_86, ↓ex_ifCond_le, fX4_candidate_89, fX4_candidate_90, fX4_candidate_91, ↓ex_if_icmp_ne, fX4_candidate_94, fX4_candidate_95, ↓ex_ireturn, ↓rt_i, fX4_candidate_96, fX4_candidate_99, fX4_candidate_102, fX4_candidate_104, p1, p4, q1, q4, clampN (n := i) (by omega), hL i (by omega), lg_cmp_le, h0, pk_lLE (a := LSt g.now i) (b := 0) (by omega) (by omega), add1N, add0N, ↓reduceIte, not_true_eq_false, not_false_eq_true, false_implies, true_implies, implies_true, and_true, true_and, and_false, false_and, or_true, true_or, or_false, false_or, Classical.not_not, ite_true, ite_false]
        refine ⟨vp_inN (by omega) (by omega), fun z => ?_, fun z => ⟨fun y => ?_, fun y => ?_⟩⟩
        · rw [cif_f (fun x => by have := x.1; omega)] at hp
          exact ih (i + 1) (by omega) hp
        · rw [cif_f (fun x => y x.2)] at hp
          exact ih (i + 1) (by omega) hp
        · rw [cif_t ⟨by omega, y⟩] at hp
          exact hp
    exact key 8 0 (by omega) hfin
  next => exact hC.elim)
noncomputable def C_X4_belief : CT := fun As X K => match As with
  | [.ref b, .int v] => b = 51 ∧ PubMI (s_belief v) X K
  | _ => False
set_option maxRecDepth 20000 in
set_option maxHeartbeats 4000000 in
theorem d_X4_belief (l : Launch) : Does l yX4_belief (wY yX4_belief cX4_belief 5 (retT 0)) (rmF 4) C_X4_belief := does_of (rt := 0) (by decide +kernel) tkX4_belief (calls := [(50, true, 1, 4, C_X4_isNode), (100, false, 1, 4, C_X4_findsSingle)]) (List.forall_mem_cons.mpr ⟨cr_S (d_X4_isNode l) (by decide +kernel) (by decide +kernel) ⟨rfl, rfl⟩ ⟨Nat.le_of_ble_eq_true rfl, Nat.le_of_ble_eq_true rfl⟩, List.forall_mem_cons.mpr ⟨cr_V (d_X4_findsSingle l) rfl (by decide +kernel) (by decide +kernel) ⟨rfl, rfl⟩ ⟨Nat.le_of_ble_eq_true rfl, Nat.le_of_ble_eq_true rfl⟩, fun _ h => absurd h List.not_mem_nil⟩⟩) (by
  intro As X post hC
  unfold C_X4_belief at hC
  split at hC
  next b v =>
    obtain ⟨rfl, g, hR0, hpost⟩ := hC
    refine ⟨Nat.le_of_ble_eq_true rfl, fun R hR => ?_⟩
    obtain ⟨⟨p1, p2, p3, p4, p5, p6, p7⟩, q1, q2, q3, q4, q5, q6, q7⟩ := sh_m
    have hw := hR0.1.1
    have h0 : (0 : Int64) = lN 0 := rfl
    refine go hR [(19, [0, 1, 2, 4])] 60 ?_
    simp only [lv_args, ↓reduceIte, Nat.reduceEqDiff, Nat.reduceAdd, Nat.reduceLeDiff, reduceCtorEq, and_true, true_and, false_and, and_false, true_or, or_true, or_false, false_or, true_implies, false_implies, implies_true, not_true_eq_false, not_false_eq_true, eq_self, fx_s, ↓run_s, run_0, ↓rs_n, ↓rs_c, as_s, ls_n, ls_c, lc_s, lget_c, fX4_belief_0, ↓ex_iload_n, ↓xI_i, ↓xIg_c, fX4_belief_1, ↓ex_invokestatic, ↓xc_0, ↓xc_s, ↓xc_1, ↓pk_s, ↓k_s, ↓k_n, catS_n, catS_c, rOk_c, ct_i, ct_l, ct_r, ↓pk_t, fX4_belief_4, ↓ex_ifCond_ne, ↓s1I_c, fX4_belief_7, ↓ex_bipush, fX4_belief_9, ↓ex_ireturn, ↓rt_i, fX4_belief_10, ↓ex_aload_n, ↓xR_r, ↓xRg_c, fX4_belief_11, ↓ex_invokevirtual, ↓pk_f, fX4_belief_14, ↓ex_lconst, fX4_belief_15, ↓ex_lstore_n, ↓s1L_c, ↓lsto_e, ↓lrmK_n, ↓lrmK_t, fX4_belief_16, ↓ex_iconst, fX4_belief_17, ↓ex_istore, ↓lrmK_f, fX4_belief_19, ↓ex_iload, fX4_belief_21, fX4_belief_23, ↓ex_if_icmp_ge, ↓s2I_c, fX4_belief_26, ↓ex_lload_n, ↓xL_l, ↓xLg_c, fX4_belief_27, fX4_belief_28, ↓ex_getfield, ↓s1R_c, ↓fv_4_4, fX4_belief_31, fX4_belief_33, ↓ex_laload, ↓sRI_c, fX4_belief_34, ↓ex_ladd, ↓s2L_c, fX4_belief_35, fX4_belief_36, ↓ex_iinc, fX4_belief_39, ↓ex_goto, fX4_belief_42, fX4_belief_43, fX4_belief_46, fX4_belief_47, fX4_belief_48, fX4_belief_49, ↓ex_lcmp, fX4_belief_50, fX4_belief_53, fX4_belief_54, fX4_belief_57, ↓ex_ldc2_w, fX4_belief_60, fX4_belief_61, fX4_belief_64, fX4_belief_65, fX4_belief_66, ↓ex_lmul, fX4_belief_67, fX4_belief_68, ↓ex_ldiv, fX4_belief_69, ↓ex_l2i, fX4_belief_70, p1, q1, ↓C_X4_isNode, ↓C_X4_findsSingle, b2i_0, ↓reduceIte, not_true_eq_false, not_false_eq_true, false_implies, true_implies, implies_true, and_true, true_and, and_false, false_and, or_true, true_or, or_false, false_or, Classical.not_not, ite_true, ite_false]
    unfold s_belief at hpost
    by_cases hv : inR v 0 7
    case neg => (rw [cif_f hv] at hpost; simp only [hv, ↓reduceIte, not_true_eq_false, not_false_eq_true, false_implies, true_implies, implies_true, and_true, true_and, and_false, false_and, or_true, true_or, or_false, false_or, Classical.not_not, ite_true, ite_false]; exact hpost X hR0 (FrC.rf X))
    rw [cif_t hv] at hpost
    simp only [hv, ↓reduceIte, not_true_eq_false, not_false_eq_true, false_implies, true_implies, implies_true, and_true, true_and, and_false, false_and, or_true, true_or, or_false, false_or, Classical.not_not, ite_true, ite_false]
    obtain ⟨-, v2, v3⟩ := inR_cl (lo := 0) (hi := 7) (by omega) hv
    refine ⟨g, hR0, fun Y hY hFY hL => ?_⟩
    have hfin := hpost Y hY hFY
    have hsum : ∀ k, k ≤ 8 → sumN (LSt g.now) k ≤ 1000000000000 * k := by
      intro k
      induction k with
      | zero => intro _; exact Nat.zero_le _
      | succ k ih =>
        intro hk
        have := ih (by omega)
        have := LSt_12 hw.we k
        show sumN (LSt g.now) k + LSt g.now k ≤ _
        omega
    have key : ∀ k i, i + k = 8 → R 19 [(0, .ref 51), (1, .int v), (2, .long (lN (sumN (LSt g.now) i))), (4, .int (nI i))] [] Y := by
      intro k
      induction k with
      | zero =>
        intro i hi
        have h8 := hsum 8 (Nat.le_refl _)
        have b1 := LSt_12 hw.we (cl v)
        have h1000 : (1000 : Int64) = lN 1000 := rfl
        have eL : Y.2.1 54 v.toNatClampNeg = lN (LSt g.now (cl v)) := hL (cl v) (by omega)
        have vv : vp_in v 8 := by rw [v3]; exact vp_inN (by omega) (by omega)
        refine go hR [(19, [0, 1, 2, 4])] 60 ?_
        simp only [↓reduceIte, Nat.reduceEqDiff, Nat.reduceAdd, Nat.reduceLeDiff, reduceCtorEq, and_true, true_and, false_and, and_false, true_or, or_true, or_false, false_or, true_implies, false_implies, implies_true, not_true_eq_false, not_false_eq_true, eq_self, fx_s, ↓run_s, run_0, ↓rs_n, ↓rs_c, as_s, ls_n, ls_c, lc_s, lget_c, fX4_belief_0, ↓ex_iload_n, ↓xI_i, ↓xIg_c, fX4_belief_1, ↓ex_invokestatic, ↓xc_0, ↓xc_s, ↓xc_1, ↓pk_s, ↓k_s, ↓k_n, catS_n, catS_c, rOk_c, ct_i, ct_l, ct_r, ↓pk_t, fX4_belief_4, ↓ex_ifCond_ne, ↓s1I_c, fX4_belief_7, ↓ex_bipush, fX4_belief_9, ↓ex_ireturn, ↓rt_i, fX4_belief_10, ↓ex_aload_n, ↓xR_r, ↓xRg_c, fX4_belief_11, ↓ex_invokevirtual, ↓pk_f, fX4_belief_14, ↓ex_lconst, fX4_belief_15, ↓ex_lstore_n, ↓s1L_c, ↓lsto_e, ↓lrmK_n, ↓lrmK_t, fX4_belief_16, ↓ex_iconst, fX4_belief_17, ↓ex_istore, ↓lrmK_f, fX4_belief_19, ↓ex_iload, fX4_belief_21, fX4_belief_23, ↓ex_if_icmp_ge, ↓s2I_c, fX4_belief_26, ↓ex_lload_n, ↓xL_l, ↓xLg_c, fX4_belief_27, fX4_belief_28, ↓ex_getfield, ↓s1R_c, ↓fv_4_4, fX4_belief_31, fX4_belief_33, ↓ex_laload, ↓sRI_c, fX4_belief_34, ↓ex_ladd, ↓s2L_c, fX4_belief_35, fX4_belief_36, ↓ex_iinc, fX4_belief_39, ↓ex_goto, fX4_belief_42, fX4_belief_43, fX4_belief_46, fX4_belief_47, fX4_belief_48, fX4_belief_49, ↓ex_lcmp, fX4_belief_50, fX4_belief_53, fX4_belief_54, fX4_belief_57, ↓ex_ldc2_w, fX4_belief_60, fX4_belief_61, fX4_belief_64, fX4_belief_65, fX4_belief_66, ↓ex_lmul, fX4_belief_67, fX4_belief_68, ↓ex_ldiv, fX4_belief_69, ↓ex_l2i, fX4_belief_70, p1, p4, q1, q4, le8 (i := i) (by omega), eL, lg_cmp_eq, h0, h1000, pk_lEQ (a := LSt g.now (cl v)) (b := 0) (by omega) (by omega), lN_mul, ↓reduceIte, not_true_eq_false, not_false_eq_true, false_implies, true_implies, implies_true, and_true, true_and, and_false, false_and, or_true, true_or, or_false, false_or, Classical.not_not, ite_true, ite_false]
        refine ⟨fun _ => ⟨vv, fun z => ⟨vv, ?_, ?_⟩, fun z => ?_⟩, fun z => absurd (by omega) z⟩
        · have hpos : 0 < sumN (LSt g.now) 8 := (sumN_pos 8).mpr ⟨cl v, by omega, by omega⟩
          rw [show i = 8 by omega, pk_lEQ (by omega) (by omega)]; omega
        · have hpos : 0 < sumN (LSt g.now) 8 := (sumN_pos 8).mpr ⟨cl v, by omega, by omega⟩
          rw [show i = 8 by omega, pk_lDiv (by omega) (by omega) (by omega), lN_i]
          exact hfin
        · rw [z, Nat.mul_zero, Nat.zero_div] at hfin
          exact hfin
      | succ k ih =>
        intro i hi
        refine go hR [(19, [0, 1, 2, 4])] 60 ?_
        simp only [↓reduceIte, Nat.reduceEqDiff, Nat.reduceAdd, Nat.reduceLeDiff, reduceCtorEq, and_true, true_and, false_and, and_false, true_or, or_true, or_false, false_or, true_implies, false_implies, implies_true, not_true_eq_false, not_false_eq_true, eq_self, fx_s, ↓run_s, run_0, ↓rs_n, ↓rs_c, as_s, ls_n, ls_c, lc_s, lget_c, fX4_belief_0, ↓ex_iload_n, ↓xI_i, ↓xIg_c, fX4_belief_1, ↓ex_invokestatic, ↓xc_0, ↓xc_s, ↓xc_1, ↓pk_s, ↓k_s, ↓k_n, catS_n, catS_c, rOk_c, ct_i, ct_l, ct_r, ↓pk_t, fX4_belief_4, ↓ex_ifCond_ne, ↓s1I_c, fX4_belief_7, ↓ex_bipush, fX4_belief_9, ↓ex_ireturn, ↓rt_i, fX4_belief_10, ↓ex_aload_n, ↓xR_r, ↓xRg_c, fX4_belief_11, ↓ex_invokevirtual, ↓pk_f, fX4_belief_14, ↓ex_lconst, fX4_belief_15, ↓ex_lstore_n, ↓s1L_c, ↓lsto_e, ↓lrmK_n, ↓lrmK_t, fX4_belief_16, ↓ex_iconst, fX4_belief_17, ↓ex_istore, ↓lrmK_f, fX4_belief_19, ↓ex_iload, fX4_belief_21, fX4_belief_23, ↓ex_if_icmp_ge, ↓s2I_c, fX4_belief_26, ↓ex_lload_n, ↓xL_l, ↓xLg_c, fX4_belief_27, fX4_belief_28, ↓ex_getfield, ↓s1R_c, ↓fv_4_4, fX4_belief_31, fX4_belief_33, ↓ex_laload, ↓sRI_c, fX4_belief_34, ↓ex_ladd, ↓s2L_c, fX4_belief_35, fX4_belief_36, ↓ex_iinc, fX4_belief_39, ↓ex_goto, fX4_belief_42, fX4_belief_43, fX4_belief_46, fX4_belief_47, fX4_belief_48, fX4_belief_49, ↓ex_lcmp, fX4_belief_50, fX4_belief_53, fX4_belief_54, fX4_belief_57, ↓ex_ldc2_w, fX4_belief_60, fX4_belief_61, fX4_belief_64, fX4_belief_65, fX4_belief_66, ↓ex_lmul, fX4_belief_67, fX4_belief_68, ↓ex_ldiv, fX4_belief_69, ↓ex_l2i, fX4_belief_70, p1, p4, q1, q4, le8 (i := i) (by omega), tI_m5, tI_m4, tI_m3, tI_m2, tI_m1, tI_0, tI_1, tI_2, tI_3, tI_4, tI_5, tI_7, tI_8, tI_10, tI_12, tI_30, tI_31, tI_32, tI_47, tI_48, tI_57, tI_59, tI_42, tI_43, tI_45, tI_61, tI_62, tI_100, tI_120, tI_255, tI_1000, clampN (n := i) (by omega), hL i (by omega), lN_add, add1N, add0N, ↓reduceIte, not_true_eq_false, not_false_eq_true, false_implies, true_implies, implies_true, and_true, true_and, and_false, false_and, or_true, true_or, or_false, false_or, Classical.not_not, ite_true, ite_false]
        exact ⟨fun z => absurd z (by omega), fun _ => ⟨vp_inN (by omega) (by omega), ih (i + 1) (by omega)⟩⟩
    exact key 8 0 (by omega)
  next => exact hC.elim)
noncomputable def C_X4_decoy : CT := fun As X K => match As with
  | [.ref b, .int v] => b = 51 ∧ PubMI (s_decoy v) X K
  | _ => False
set_option maxRecDepth 20000 in
set_option maxHeartbeats 4000000 in
theorem d_X4_decoy (l : Launch) : Does l yX4_decoy (wY yX4_decoy cX4_decoy 8 (retT 0)) (rmF 3) C_X4_decoy := does_of (rt := 0) (by decide +kernel) tkX4_decoy (calls := [(50, true, 1, 4, C_X4_isNode), (96, false, 3, 4, C_X4_likelihoodOf)]) (List.forall_mem_cons.mpr ⟨cr_S (d_X4_isNode l) (by decide +kernel) (by decide +kernel) ⟨rfl, rfl⟩ ⟨Nat.le_of_ble_eq_true rfl, Nat.le_of_ble_eq_true rfl⟩, List.forall_mem_cons.mpr ⟨cr_V (d_X4_likelihoodOf l) rfl (by decide +kernel) (by decide +kernel) ⟨rfl, rfl⟩ ⟨Nat.le_of_ble_eq_true rfl, Nat.le_of_ble_eq_true rfl⟩, fun _ h => absurd h List.not_mem_nil⟩⟩) (by
  intro As X post hC
  unfold C_X4_decoy at hC
  split at hC
  next b v =>
    obtain ⟨rfl, g, hR0, hpost⟩ := hC
    refine ⟨Nat.le_of_ble_eq_true rfl, fun R hR => ?_⟩
    obtain ⟨⟨p1, p2, p3, p4, p5, p6, p7⟩, q1, q2, q3, q4, q5, q6, q7⟩ := sh_m
    have hw := hR0.1.1
    have h0 : (0 : Int64) = lN 0 := rfl
    refine go hR [(17, [0, 1, 2, 3, 5])] 60 ?_
    simp only [lv_args, ↓reduceIte, Nat.reduceEqDiff, Nat.reduceAdd, Nat.reduceLeDiff, reduceCtorEq, and_true, true_and, false_and, and_false, true_or, or_true, or_false, false_or, true_implies, false_implies, implies_true, not_true_eq_false, not_false_eq_true, eq_self, fx_s, ↓run_s, run_0, ↓rs_n, ↓rs_c, as_s, ls_n, ls_c, lc_s, lget_c, fX4_decoy_0, ↓ex_iload_n, ↓xI_i, ↓xIg_c, fX4_decoy_1, ↓ex_invokestatic, ↓xc_0, ↓xc_s, ↓xc_1, ↓pk_s, ↓k_s, ↓k_n, catS_n, catS_c, rOk_c, ct_i, ct_l, ct_r, ↓pk_t, fX4_decoy_4, ↓ex_ifCond_ne, ↓s1I_c, fX4_decoy_7, ↓ex_bipush, fX4_decoy_9, ↓ex_ireturn, ↓rt_i, fX4_decoy_10, ↓ex_iconst, fX4_decoy_11, ↓ex_istore_n, ↓lsto_e, ↓lrmK_n, ↓lrmK_f, fX4_decoy_12, ↓ex_lconst, fX4_decoy_13, ↓ex_lstore_n, ↓s1L_c, ↓lrmK_t, fX4_decoy_14, fX4_decoy_15, ↓ex_istore, fX4_decoy_17, ↓ex_iload, fX4_decoy_19, fX4_decoy_21, ↓ex_if_icmp_ge, ↓s2I_c, fX4_decoy_24, fX4_decoy_26, fX4_decoy_27, ↓ex_if_icmp_ne, fX4_decoy_30, fX4_decoy_31, ↓ex_goto, fX4_decoy_34, ↓ex_aload_n, ↓xR_r, ↓xRg_c, fX4_decoy_35, fX4_decoy_36, fX4_decoy_37, ↓ex_ishl, fX4_decoy_38, fX4_decoy_39, fX4_decoy_41, fX4_decoy_42, ↓ex_ior, fX4_decoy_43, fX4_decoy_44, ↓ex_invokevirtual, ↓pk_f, fX4_decoy_47, ↓ex_lstore, fX4_decoy_49, ↓ex_lload, ↓xL_l, ↓xLg_c, fX4_decoy_51, ↓ex_lload_n, fX4_decoy_52, ↓ex_lcmp, ↓s2L_c, fX4_decoy_53, ↓ex_ifCond_le, fX4_decoy_56, fX4_decoy_58, fX4_decoy_61, fX4_decoy_62, fX4_decoy_63, fX4_decoy_65, fX4_decoy_66, fX4_decoy_67, fX4_decoy_70, fX4_decoy_72, fX4_decoy_75, fX4_decoy_76, fX4_decoy_77, ↓ex_iinc, fX4_decoy_80, fX4_decoy_83, fX4_decoy_84, p1, q1, ↓C_X4_isNode, b2i_0, ↓reduceIte, not_true_eq_false, not_false_eq_true, false_implies, true_implies, implies_true, and_true, true_and, and_false, false_and, or_true, true_or, or_false, false_or, Classical.not_not, ite_true, ite_false]
    unfold s_decoy at hpost
    by_cases hv : inR v 0 7
    case neg => (rw [cif_f hv] at hpost; simp only [hv, ↓reduceIte, not_true_eq_false, not_false_eq_true, false_implies, true_implies, implies_true, and_true, true_and, and_false, false_and, or_true, true_or, or_false, false_or, Classical.not_not, ite_true, ite_false]; exact hpost X hR0 (FrC.rf X))
    rw [cif_t hv] at hpost
    simp only [hv, ↓reduceIte, not_true_eq_false, not_false_eq_true, false_implies, true_implies, implies_true, and_true, true_and, and_false, false_and, or_true, true_or, or_false, false_or, Classical.not_not, ite_true, ite_false]
    obtain ⟨-, v2, v3⟩ := inR_cl (lo := 0) (hi := 7) (by omega) hv
    generalize cl v = u at v2 v3 hpost
    subst v3
    have key : ∀ k i Y, i + k = 8 → Fr (fun k => k = 53) X Y → R 17 [(0, .ref 51), (1, .int (nI u)), (2, .int (oI (decF g.now u i).1)), (3, .long (lN (decF g.now u i).2)), (5, .int (nI i))] [] Y := by
      intro k
      induction k with
      | zero =>
        intro i Y hi hF
        refine go hR [(17, [0, 1, 2, 3, 5])] 60 ?_
        simp only [↓reduceIte, Nat.reduceEqDiff, Nat.reduceAdd, Nat.reduceLeDiff, reduceCtorEq, and_true, true_and, false_and, and_false, true_or, or_true, or_false, false_or, true_implies, false_implies, implies_true, not_true_eq_false, not_false_eq_true, eq_self, fx_s, ↓run_s, run_0, ↓rs_n, ↓rs_c, as_s, ls_n, ls_c, lc_s, lget_c, fX4_decoy_0, ↓ex_iload_n, ↓xI_i, ↓xIg_c, fX4_decoy_1, ↓ex_invokestatic, ↓xc_0, ↓xc_s, ↓xc_1, ↓pk_s, ↓k_s, ↓k_n, catS_n, catS_c, rOk_c, ct_i, ct_l, ct_r, ↓pk_t, fX4_decoy_4, ↓ex_ifCond_ne, ↓s1I_c, fX4_decoy_7, ↓ex_bipush, fX4_decoy_9, ↓ex_ireturn, ↓rt_i, fX4_decoy_10, ↓ex_iconst, fX4_decoy_11, ↓ex_istore_n, ↓lsto_e, ↓lrmK_n, ↓lrmK_f, fX4_decoy_12, ↓ex_lconst, fX4_decoy_13, ↓ex_lstore_n, ↓s1L_c, ↓lrmK_t, fX4_decoy_14, fX4_decoy_15, ↓ex_istore, fX4_decoy_17, ↓ex_iload, fX4_decoy_19, fX4_decoy_21, ↓ex_if_icmp_ge, ↓s2I_c, fX4_decoy_24, fX4_decoy_26, fX4_decoy_27, ↓ex_if_icmp_ne, fX4_decoy_30, fX4_decoy_31, ↓ex_goto, fX4_decoy_34, ↓ex_aload_n, ↓xR_r, ↓xRg_c, fX4_decoy_35, fX4_decoy_36, fX4_decoy_37, ↓ex_ishl, fX4_decoy_38, fX4_decoy_39, fX4_decoy_41, fX4_decoy_42, ↓ex_ior, fX4_decoy_43, fX4_decoy_44, ↓ex_invokevirtual, ↓pk_f, fX4_decoy_47, ↓ex_lstore, fX4_decoy_49, ↓ex_lload, ↓xL_l, ↓xLg_c, fX4_decoy_51, ↓ex_lload_n, fX4_decoy_52, ↓ex_lcmp, ↓s2L_c, fX4_decoy_53, ↓ex_ifCond_le, fX4_decoy_56, fX4_decoy_58, fX4_decoy_61, fX4_decoy_62, fX4_decoy_63, fX4_decoy_65, fX4_decoy_66, fX4_decoy_67, fX4_decoy_70, fX4_decoy_72, fX4_decoy_75, fX4_decoy_76, fX4_decoy_77, ↓ex_iinc, fX4_decoy_80, fX4_decoy_83, fX4_decoy_84, le8 (i := i) (by omega), tI_m5, tI_m4, tI_m3, tI_m2, tI_m1, tI_0, tI_1, tI_2, tI_3, tI_4, tI_5, tI_7, tI_8, tI_10, tI_12, tI_30, tI_31, tI_32, tI_47, tI_48, tI_57, tI_59, tI_42, tI_43, tI_45, tI_61, tI_62, tI_100, tI_120, tI_255, tI_1000, ↓reduceIte, not_true_eq_false, not_false_eq_true, false_implies, true_implies, implies_true, and_true, true_and, and_false, false_and, or_true, true_or, or_false, false_or, Classical.not_not, ite_true, ite_false]
        refine ⟨fun _ => ?_, fun z => absurd (by omega) z⟩
        rw [show i = 8 by omega]
        exact hpost Y (hR0.f53 hF) hF.c53
      | succ k ih =>
        intro i Y hi hF
        have b1 := decF_12 hw.we u i
        have b2 := LK_12 hw.we (2 ^ u ||| 2 ^ i)
        refine go hR [(17, [0, 1, 2, 3, 5])] 80 ?_
        simp only [↓reduceIte, Nat.reduceEqDiff, Nat.reduceAdd, Nat.reduceLeDiff, reduceCtorEq, and_true, true_and, false_and, and_false, true_or, or_true, or_false, false_or, true_implies, false_implies, implies_true, not_true_eq_false, not_false_eq_true, eq_self, fx_s, ↓run_s, run_0, ↓rs_n, ↓rs_c, as_s, ls_n, ls_c, lc_s, lget_c, fX4_decoy_0, ↓ex_iload_n, ↓xI_i, ↓xIg_c, fX4_decoy_1, ↓ex_invokestatic, ↓xc_0, ↓xc_s, ↓xc_1, ↓pk_s, ↓k_s, ↓k_n, catS_n, catS_c, rOk_c, ct_i, ct_l, ct_r, ↓pk_t, fX4_decoy_4, ↓ex_ifCond_ne, ↓s1I_c, fX4_decoy_7, ↓ex_bipush, fX4_decoy_9, ↓ex_ireturn, ↓rt_i, fX4_decoy_10, ↓ex_iconst, fX4_decoy_11, ↓ex_istore_n, ↓lsto_e, ↓lrmK_n, ↓lrmK_f, fX4_decoy_12, ↓ex_lconst, fX4_decoy_13, ↓ex_lstore_n, ↓s1L_c, ↓lrmK_t, fX4_decoy_14, fX4_decoy_15, ↓ex_istore, fX4_decoy_17, ↓ex_iload, fX4_decoy_19, fX4_decoy_21, ↓ex_if_icmp_ge, ↓s2I_c, fX4_decoy_24, fX4_decoy_26, fX4_decoy_27, ↓ex_if_icmp_ne, fX4_decoy_30, fX4_decoy_31, ↓ex_goto, fX4_decoy_34, ↓ex_aload_n, ↓xR_r, ↓xRg_c, fX4_decoy_35, fX4_decoy_36, fX4_decoy_37, ↓ex_ishl, fX4_decoy_38, fX4_decoy_39, fX4_decoy_41, fX4_decoy_42, ↓ex_ior, fX4_decoy_43, fX4_decoy_44, ↓ex_invokevirtual, ↓pk_f, fX4_decoy_47, ↓ex_lstore, fX4_decoy_49, ↓ex_lload, ↓xL_l, ↓xLg_c, fX4_decoy_51, ↓ex_lload_n, fX4_decoy_52, ↓ex_lcmp, ↓s2L_c, fX4_decoy_53, ↓ex_ifCond_le, fX4_decoy_56, fX4_decoy_58, fX4_decoy_61, fX4_decoy_62, fX4_decoy_63, fX4_decoy_65, fX4_decoy_66, fX4_decoy_67, fX4_decoy_70, fX4_decoy_72, fX4_decoy_75, fX4_decoy_76, fX4_decoy_77, ↓ex_iinc, fX4_decoy_80, fX4_decoy_83, fX4_decoy_84, p1, q1, ↓C_X4_likelihoodOf, shlN (e := i) (by omega), shlN (e := u) (by omega), fa_or, eqN (a := i) (b := u) (by omega) (by omega), le8 (i := i) (by omega), h0, lg_cmp_le, pk_lLE (a := 0) (b := (decF g.now u i).2) (by omega) (by omega), tI_m5, tI_m4, tI_m3, tI_m2, tI_m1, tI_0, tI_1, tI_2, tI_3, tI_4, tI_5, tI_7, tI_8, tI_10, tI_12, tI_30, tI_31, tI_32, tI_47, tI_48, tI_57, tI_59, tI_42, tI_43, tI_45, tI_61, tI_62, tI_100, tI_120, tI_255, tI_1000, add1N, add0N, ↓reduceIte, not_true_eq_false, not_false_eq_true, false_implies, true_implies, implies_true, and_true, true_and, and_false, false_and, or_true, true_or, or_false, false_or, Classical.not_not, ite_true, ite_false]
        refine ⟨fun z => absurd z (by omega), fun _ => ⟨fun z => ⟨g.now, 2 ^ u ||| 2 ^ i, ⟨by rw [hF.1 52 (by decide)]; exact hR0.2.1, hw.oks, rfl, or_255 (by omega) (by omega)⟩, fun Z q hZ hq _ _ => ?_⟩, fun z => ?_⟩⟩
        · rw [hq, pk_lLE (a := LK g.now (2 ^ u ||| 2 ^ i)) (b := (decF g.now u i).2) (by omega) (by omega)]
          have hi1 := ih (i + 1) Z (by omega) (hF.tr hZ)
          unfold decF at hi1
          refine ⟨fun y => ⟨fun _ => ?_, fun x => absurd y x⟩, fun y => ⟨fun x => absurd x y, fun _ => ?_⟩⟩
          · rw [cif_f (fun x => by have := x.2; omega)] at hi1; exact hi1
          · rw [cif_t ⟨z, by omega⟩] at hi1; exact hi1
        · have hi1 := ih (i + 1) Y (by omega) hF
          unfold decF at hi1
          rw [cif_f (fun x => x.1 z)] at hi1
          exact ⟨fun _ => ⟨fun _ => hi1, fun y => absurd (Nat.zero_le _) y⟩, fun y => absurd (Nat.zero_le _) y⟩
    exact key 8 0 X (by omega) (Fr.rf _ _)
  next => exact hC.elim)
noncomputable def C_X4_possible : CT := fun As X K => match As with
  | [.ref b] => b = 51 ∧ PubMI s_possible X K
  | _ => False
set_option maxRecDepth 20000 in
set_option maxHeartbeats 4000000 in
theorem d_X4_possible (l : Launch) : Does l yX4_possible (wY yX4_possible cX4_possible 4 (retT 0)) (rmF 3) C_X4_possible := does_of (rt := 0) (by decide +kernel) tkX4_possible (calls := [(96, false, 3, 4, C_X4_likelihoodOf)]) (List.forall_mem_cons.mpr ⟨cr_V (d_X4_likelihoodOf l) rfl (by decide +kernel) (by decide +kernel) ⟨rfl, rfl⟩ ⟨Nat.le_of_ble_eq_true rfl, Nat.le_of_ble_eq_true rfl⟩, fun _ h => absurd h List.not_mem_nil⟩) (by
  intro As X post hC
  unfold C_X4_possible at hC
  split at hC
  next b =>
    obtain ⟨rfl, g, hR0, hpost⟩ := hC
    refine ⟨Nat.le_of_ble_eq_true rfl, fun R hR => ?_⟩
    have hw := hR0.1.1
    obtain ⟨⟨p1, p2, p3, p4, p5, p6, p7⟩, q1, q2, q3, q4, q5, q6, q7⟩ := sh_m
    have h0 : (0 : Int64) = lN 0 := rfl
    have key : ∀ k u Y, u + k = 8 → Fr (fun k => k = 53) X Y → R 4 [(0, .ref 51), (1, .int (nI (posA g.now u))), (2, .int (nI u))] [] Y := by
      intro k
      induction k with
      | zero =>
        intro u Y hu hF
        refine go hR [(4, [0, 1, 2]), (12, [0, 1, 2, 3])] 60 ?_
        simp only [↓reduceIte, Nat.reduceEqDiff, Nat.reduceAdd, Nat.reduceLeDiff, reduceCtorEq, and_true, true_and, false_and, and_false, true_or, or_true, or_false, false_or, true_implies, false_implies, implies_true, not_true_eq_false, not_false_eq_true, eq_self, fx_s, ↓run_s, run_0, ↓rs_n, ↓rs_c, as_s, ls_n, ls_c, lc_s, lget_c, fX4_possible_0, ↓ex_iconst, fX4_possible_1, ↓ex_istore_n, ↓s1I_c, ↓lsto_e, ↓lrmK_n, ↓lrmK_f, ct_i, ct_l, ct_r, fX4_possible_2, fX4_possible_3, fX4_possible_4, ↓ex_iload_n, ↓xI_i, ↓xIg_c, fX4_possible_5, ↓ex_bipush, fX4_possible_7, ↓ex_if_icmp_ge, ↓s2I_c, fX4_possible_10, fX4_possible_11, fX4_possible_12, fX4_possible_13, fX4_possible_15, fX4_possible_18, fX4_possible_19, ↓ex_aload_n, ↓xR_r, ↓xRg_c, fX4_possible_20, fX4_possible_21, fX4_possible_22, ↓ex_ishl, fX4_possible_23, fX4_possible_24, fX4_possible_25, fX4_possible_26, ↓ex_ior, fX4_possible_27, fX4_possible_28, ↓ex_invokevirtual, ↓xc_0, ↓xc_s, ↓xc_1, ↓pk_s, ↓k_s, ↓k_n, catS_n, catS_c, rOk_c, ↓pk_f, fX4_possible_31, ↓ex_lconst, fX4_possible_32, ↓ex_lcmp, ↓s2L_c, fX4_possible_33, ↓ex_ifCond_le, fX4_possible_36, fX4_possible_37, ↓ex_goto, fX4_possible_40, fX4_possible_41, ↓ex_iadd, fX4_possible_42, fX4_possible_43, ↓ex_iinc, fX4_possible_46, fX4_possible_49, fX4_possible_52, fX4_possible_55, fX4_possible_56, ↓ex_ireturn, ↓rt_i, le8 (i := u) (by omega), tI_m5, tI_m4, tI_m3, tI_m2, tI_m1, tI_0, tI_1, tI_2, tI_3, tI_4, tI_5, tI_7, tI_8, tI_10, tI_12, tI_30, tI_31, tI_32, tI_47, tI_48, tI_57, tI_59, tI_42, tI_43, tI_45, tI_61, tI_62, tI_100, tI_120, tI_255, tI_1000, ↓reduceIte, not_true_eq_false, not_false_eq_true, false_implies, true_implies, implies_true, and_true, true_and, and_false, false_and, or_true, true_or, or_false, false_or, Classical.not_not, ite_true, ite_false]
        refine ⟨fun _ => ?_, fun z => absurd (by omega) z⟩
        rw [show u = 8 by omega]
        exact hpost Y (hR0.f53 hF) hF.c53
      | succ k ih =>
        intro u Y hu hF
        have inner : ∀ q d Z, d + q = 8 - u → Fr (fun k => k = 53) X Z → R 12 [(0, .ref 51), (1, .int (nI (posA g.now u + posI g.now u d))), (2, .int (nI u)), (3, .int (nI (u + d)))] [] Z := by
          intro q
          induction q with
          | zero =>
            intro d Z hd hZ
            refine go hR [(4, [0, 1, 2]), (12, [0, 1, 2, 3])] 60 ?_
            simp only [↓reduceIte, Nat.reduceEqDiff, Nat.reduceAdd, Nat.reduceLeDiff, reduceCtorEq, and_true, true_and, false_and, and_false, true_or, or_true, or_false, false_or, true_implies, false_implies, implies_true, not_true_eq_false, not_false_eq_true, eq_self, fx_s, ↓run_s, run_0, ↓rs_n, ↓rs_c, as_s, ls_n, ls_c, lc_s, lget_c, fX4_possible_0, ↓ex_iconst, fX4_possible_1, ↓ex_istore_n, ↓s1I_c, ↓lsto_e, ↓lrmK_n, ↓lrmK_f, ct_i, ct_l, ct_r, fX4_possible_2, fX4_possible_3, fX4_possible_4, ↓ex_iload_n, ↓xI_i, ↓xIg_c, fX4_possible_5, ↓ex_bipush, fX4_possible_7, ↓ex_if_icmp_ge, ↓s2I_c, fX4_possible_10, fX4_possible_11, fX4_possible_12, fX4_possible_13, fX4_possible_15, fX4_possible_18, fX4_possible_19, ↓ex_aload_n, ↓xR_r, ↓xRg_c, fX4_possible_20, fX4_possible_21, fX4_possible_22, ↓ex_ishl, fX4_possible_23, fX4_possible_24, fX4_possible_25, fX4_possible_26, ↓ex_ior, fX4_possible_27, fX4_possible_28, ↓ex_invokevirtual, ↓xc_0, ↓xc_s, ↓xc_1, ↓pk_s, ↓k_s, ↓k_n, catS_n, catS_c, rOk_c, ↓pk_f, fX4_possible_31, ↓ex_lconst, fX4_possible_32, ↓ex_lcmp, ↓s2L_c, fX4_possible_33, ↓ex_ifCond_le, fX4_possible_36, fX4_possible_37, ↓ex_goto, fX4_possible_40, fX4_possible_41, ↓ex_iadd, fX4_possible_42, fX4_possible_43, ↓ex_iinc, fX4_possible_46, fX4_possible_49, fX4_possible_52, fX4_possible_55, fX4_possible_56, ↓ex_ireturn, ↓rt_i, le8 (i := u + d) (by omega), tI_m5, tI_m4, tI_m3, tI_m2, tI_m1, tI_0, tI_1, tI_2, tI_3, tI_4, tI_5, tI_7, tI_8, tI_10, tI_12, tI_30, tI_31, tI_32, tI_47, tI_48, tI_57, tI_59, tI_42, tI_43, tI_45, tI_61, tI_62, tI_100, tI_120, tI_255, tI_1000, add1N, add0N, ↓reduceIte, not_true_eq_false, not_false_eq_true, false_implies, true_implies, implies_true, and_true, true_and, and_false, false_and, or_true, true_or, or_false, false_or, Classical.not_not, ite_true, ite_false]
            refine ⟨fun _ => ?_, fun z => absurd (by omega) z⟩
            have := ih (u + 1) Z (by omega) hZ
            unfold posA at this
            rw [show d = 8 - u by omega]
            exact this
          | succ q ihq =>
            intro d Z hd hZ
            have hi1 := fun V hV => ihq (d + 1) V (by omega) hV
            have e : posI g.now u (d + 1) = posI g.now u d + cif (0 < LK g.now (2 ^ u ||| 2 ^ (u + d))) 1 0 := rfl
            rw [e, ← Nat.add_assoc, ← Nat.add_assoc] at hi1
            refine go hR [(4, [0, 1, 2]), (12, [0, 1, 2, 3])] 60 ?_
            simp only [↓reduceIte, Nat.reduceEqDiff, Nat.reduceAdd, Nat.reduceLeDiff, reduceCtorEq, and_true, true_and, false_and, and_false, true_or, or_true, or_false, false_or, true_implies, false_implies, implies_true, not_true_eq_false, not_false_eq_true, eq_self, fx_s, ↓run_s, run_0, ↓rs_n, ↓rs_c, as_s, ls_n, ls_c, lc_s, lget_c, fX4_possible_0, ↓ex_iconst, fX4_possible_1, ↓ex_istore_n, ↓s1I_c, ↓lsto_e, ↓lrmK_n, ↓lrmK_f, ct_i, ct_l, ct_r, fX4_possible_2, fX4_possible_3, fX4_possible_4, ↓ex_iload_n, ↓xI_i, ↓xIg_c, fX4_possible_5, ↓ex_bipush, fX4_possible_7, ↓ex_if_icmp_ge, ↓s2I_c, fX4_possible_10, fX4_possible_11, fX4_possible_12, fX4_possible_13, fX4_possible_15, fX4_possible_18, fX4_possible_19, ↓ex_aload_n, ↓xR_r, ↓xRg_c, fX4_possible_20, fX4_possible_21, fX4_possible_22, ↓ex_ishl, fX4_possible_23, fX4_possible_24, fX4_possible_25, fX4_possible_26, ↓ex_ior, fX4_possible_27, fX4_possible_28, ↓ex_invokevirtual, ↓xc_0, ↓xc_s, ↓xc_1, ↓pk_s, ↓k_s, ↓k_n, catS_n, catS_c, rOk_c, ↓pk_f, fX4_possible_31, ↓ex_lconst, fX4_possible_32, ↓ex_lcmp, ↓s2L_c, fX4_possible_33, ↓ex_ifCond_le, fX4_possible_36, fX4_possible_37, ↓ex_goto, fX4_possible_40, fX4_possible_41, ↓ex_iadd, fX4_possible_42, fX4_possible_43, ↓ex_iinc, fX4_possible_46, fX4_possible_49, fX4_possible_52, fX4_possible_55, fX4_possible_56, ↓ex_ireturn, ↓rt_i, p1, q1, le8 (i := u + d) (by omega), ↓C_X4_likelihoodOf, shlN (e := u) (by omega), shlN (e := u + d) (by omega), fa_or, h0, lg_cmp_le, tI_m5, tI_m4, tI_m3, tI_m2, tI_m1, tI_0, tI_1, tI_2, tI_3, tI_4, tI_5, tI_7, tI_8, tI_10, tI_12, tI_30, tI_31, tI_32, tI_47, tI_48, tI_57, tI_59, tI_42, tI_43, tI_45, tI_61, tI_62, tI_100, tI_120, tI_255, tI_1000, add1N, add0N, ↓reduceIte, not_true_eq_false, not_false_eq_true, false_implies, true_implies, implies_true, and_true, true_and, and_false, false_and, or_true, true_or, or_false, false_or, Classical.not_not, ite_true, ite_false]
            refine ⟨fun z => absurd z (by omega), fun _ => ⟨g.now, 2 ^ u ||| 2 ^ (u + d), ⟨by rw [hZ.1 52 (by decide)]; exact hR0.2.1, hw.oks, rfl, or_255 (by omega) (by omega)⟩, fun V p hV _ hp hp12 => ?_⟩⟩
            rw [pk_lLE (a := p) (b := 0) (by omega) (by omega)]
            have hi2 := hi1 V (hZ.tr hV)
            refine ⟨fun y => ?_, fun y => ?_⟩
            · rw [cif_f (fun x => by have := hp.mpr x; omega)] at hi2; exact hi2
            · rw [cif_t (hp.mp (by omega))] at hi2; exact hi2
        refine go hR [(4, [0, 1, 2]), (12, [0, 1, 2, 3])] 60 ?_
        simp only [↓reduceIte, Nat.reduceEqDiff, Nat.reduceAdd, Nat.reduceLeDiff, reduceCtorEq, and_true, true_and, false_and, and_false, true_or, or_true, or_false, false_or, true_implies, false_implies, implies_true, not_true_eq_false, not_false_eq_true, eq_self, fx_s, ↓run_s, run_0, ↓rs_n, ↓rs_c, as_s, ls_n, ls_c, lc_s, lget_c, fX4_possible_0, ↓ex_iconst, fX4_possible_1, ↓ex_istore_n, ↓s1I_c, ↓lsto_e, ↓lrmK_n, ↓lrmK_f, ct_i, ct_l, ct_r, fX4_possible_2, fX4_possible_3, fX4_possible_4, ↓ex_iload_n, ↓xI_i, ↓xIg_c, fX4_possible_5, ↓ex_bipush, fX4_possible_7, ↓ex_if_icmp_ge, ↓s2I_c, fX4_possible_10, fX4_possible_11, fX4_possible_12, fX4_possible_13, fX4_possible_15, fX4_possible_18, fX4_possible_19, ↓ex_aload_n, ↓xR_r, ↓xRg_c, fX4_possible_20, fX4_possible_21, fX4_possible_22, ↓ex_ishl, fX4_possible_23, fX4_possible_24, fX4_possible_25, fX4_possible_26, ↓ex_ior, fX4_possible_27, fX4_possible_28, ↓ex_invokevirtual, ↓xc_0, ↓xc_s, ↓xc_1, ↓pk_s, ↓k_s, ↓k_n, catS_n, catS_c, rOk_c, ↓pk_f, fX4_possible_31, ↓ex_lconst, fX4_possible_32, ↓ex_lcmp, ↓s2L_c, fX4_possible_33, ↓ex_ifCond_le, fX4_possible_36, fX4_possible_37, ↓ex_goto, fX4_possible_40, fX4_possible_41, ↓ex_iadd, fX4_possible_42, fX4_possible_43, ↓ex_iinc, fX4_possible_46, fX4_possible_49, fX4_possible_52, fX4_possible_55, fX4_possible_56, ↓ex_ireturn, ↓rt_i, le8 (i := u) (by omega), tI_m5, tI_m4, tI_m3, tI_m2, tI_m1, tI_0, tI_1, tI_2, tI_3, tI_4, tI_5, tI_7, tI_8, tI_10, tI_12, tI_30, tI_31, tI_32, tI_47, tI_48, tI_57, tI_59, tI_42, tI_43, tI_45, tI_61, tI_62, tI_100, tI_120, tI_255, tI_1000, ↓reduceIte, not_true_eq_false, not_false_eq_true, false_implies, true_implies, implies_true, and_true, true_and, and_false, false_and, or_true, true_or, or_false, false_or, Classical.not_not, ite_true, ite_false]
        exact ⟨fun z => absurd z (by omega), fun _ => inner (8 - u) 0 Y (by omega) hF⟩
    refine go hR [(4, [0, 1, 2])] 60 ?_
    simp only [lv_args, ↓reduceIte, Nat.reduceEqDiff, Nat.reduceAdd, Nat.reduceLeDiff, reduceCtorEq, and_true, true_and, false_and, and_false, true_or, or_true, or_false, false_or, true_implies, false_implies, implies_true, not_true_eq_false, not_false_eq_true, eq_self, fx_s, ↓run_s, run_0, ↓rs_n, ↓rs_c, as_s, ls_n, ls_c, lc_s, lget_c, fX4_possible_0, ↓ex_iconst, fX4_possible_1, ↓ex_istore_n, ↓s1I_c, ↓lsto_e, ↓lrmK_n, ↓lrmK_f, ct_i, ct_l, ct_r, fX4_possible_2, fX4_possible_3, fX4_possible_4, ↓ex_iload_n, ↓xI_i, ↓xIg_c, fX4_possible_5, ↓ex_bipush, fX4_possible_7, ↓ex_if_icmp_ge, ↓s2I_c, fX4_possible_10, fX4_possible_11, fX4_possible_12, fX4_possible_13, fX4_possible_15, fX4_possible_18, fX4_possible_19, ↓ex_aload_n, ↓xR_r, ↓xRg_c, fX4_possible_20, fX4_possible_21, fX4_possible_22, ↓ex_ishl, fX4_possible_23, fX4_possible_24, fX4_possible_25, fX4_possible_26, ↓ex_ior, fX4_possible_27, fX4_possible_28, ↓ex_invokevirtual, ↓xc_0, ↓xc_s, ↓xc_1, ↓pk_s, ↓k_s, ↓k_n, catS_n, catS_c, rOk_c, ↓pk_f, fX4_possible_31, ↓ex_lconst, fX4_possible_32, ↓ex_lcmp, ↓s2L_c, fX4_possible_33, ↓ex_ifCond_le, fX4_possible_36, fX4_possible_37, ↓ex_goto, fX4_possible_40, fX4_possible_41, ↓ex_iadd, fX4_possible_42, fX4_possible_43, ↓ex_iinc, fX4_possible_46, fX4_possible_49, fX4_possible_52, fX4_possible_55, fX4_possible_56, ↓ex_ireturn, ↓rt_i, ↓reduceIte, not_true_eq_false, not_false_eq_true, false_implies, true_implies, implies_true, and_true, true_and, and_false, false_and, or_true, true_or, or_false, false_or, Classical.not_not, ite_true, ite_false]
    exact key 8 0 X (by omega) (Fr.rf _ _)
  next => exact hC.elim)
noncomputable def C_X4_explanation : CT := fun As X K => match As with
  | [.ref b, .int st] => b = 51 ∧ PubMI (s_explanation st) X K
  | _ => False
set_option maxRecDepth 20000 in
set_option maxHeartbeats 4000000 in
theorem d_X4_explanation (l : Launch) : Does l yX4_explanation (wY yX4_explanation cX4_explanation 8 (retT 0)) (rmF 2) C_X4_explanation := does_of (rt := 0) (by decide +kernel) tkX4_explanation (calls := [(74, true, 1, 4, C_X4_isStart), (84, false, 2, 4, C_X4_weightOf), (78, false, 3, 4, C_X4_hears), (90, false, 1, 4, C_X4_isFit)]) (List.forall_mem_cons.mpr ⟨cr_S (d_X4_isStart l) (by decide +kernel) (by decide +kernel) ⟨rfl, rfl⟩ ⟨Nat.le_of_ble_eq_true rfl, Nat.le_of_ble_eq_true rfl⟩, List.forall_mem_cons.mpr ⟨cr_V (d_X4_weightOf l) rfl (by decide +kernel) (by decide +kernel) ⟨rfl, rfl⟩ ⟨Nat.le_of_ble_eq_true rfl, Nat.le_of_ble_eq_true rfl⟩, List.forall_mem_cons.mpr ⟨cr_V (d_X4_hears l) rfl (by decide +kernel) (by decide +kernel) ⟨rfl, rfl⟩ ⟨Nat.le_of_ble_eq_true rfl, Nat.le_of_ble_eq_true rfl⟩, List.forall_mem_cons.mpr ⟨cr_V (d_X4_isFit l) rfl (by decide +kernel) (by decide +kernel) ⟨rfl, rfl⟩ ⟨Nat.le_of_ble_eq_true rfl, Nat.le_of_ble_eq_true rfl⟩, fun _ h => absurd h List.not_mem_nil⟩⟩⟩⟩) (by
  intro As X post hC
  unfold C_X4_explanation at hC
  split at hC
  next b st =>
    obtain ⟨rfl, g, hR0, hpost⟩ := hC
    refine ⟨Nat.le_of_ble_eq_true rfl, fun R hR => ?_⟩
    obtain ⟨⟨p1, p2, p3, p4, p5, p6, p7⟩, q1, q2, q3, q4, q5, q6, q7⟩ := sh_m
    have hw := hR0.1.1
    have hn := hw.1
    have m1 := hR0.2.1
    have h0 : (0 : Int64) = lN 0 := rfl
    have p24 := p2_lt hn
    refine go hR [(17, [0, 1, 2, 3, 5])] 60 ?_
    simp only [lv_args, ↓reduceIte, Nat.reduceEqDiff, Nat.reduceAdd, Nat.reduceLeDiff, reduceCtorEq, and_true, true_and, false_and, and_false, true_or, or_true, or_false, false_or, true_implies, false_implies, implies_true, not_true_eq_false, not_false_eq_true, eq_self, fx_s, ↓run_s, run_0, ↓rs_n, ↓rs_c, as_s, ls_n, ls_c, lc_s, lget_c, fX4_explanation_0, ↓ex_iload_n, ↓xI_i, ↓xIg_c, fX4_explanation_1, ↓ex_invokestatic, ↓xc_0, ↓xc_s, ↓xc_1, ↓pk_s, ↓k_s, ↓k_n, catS_n, catS_c, rOk_c, ct_i, ct_l, ct_r, ↓pk_t, fX4_explanation_4, ↓ex_ifCond_ne, ↓s1I_c, fX4_explanation_7, ↓ex_bipush, fX4_explanation_9, ↓ex_ireturn, ↓rt_i, fX4_explanation_10, ↓ex_iconst, fX4_explanation_11, ↓ex_istore_n, ↓lsto_e, ↓lrmK_n, ↓lrmK_f, fX4_explanation_12, ↓ex_lconst, fX4_explanation_13, ↓ex_lstore_n, ↓s1L_c, ↓lrmK_t, fX4_explanation_14, fX4_explanation_15, ↓ex_istore, fX4_explanation_17, ↓ex_iload, fX4_explanation_19, fX4_explanation_20, ↓ex_aload_n, ↓xR_r, ↓xRg_c, fX4_explanation_21, ↓ex_getfield, ↓s1R_c, ↓fv_4_0, fX4_explanation_24, fX4_explanation_25, ↓ex_iaload, ↓sRI_c, ↓scrR_n, fX4_explanation_26, ↓ex_ishl, ↓s2I_c, fX4_explanation_27, ↓ex_if_icmp_ge, fX4_explanation_30, fX4_explanation_31, fX4_explanation_33, ↓ex_invokevirtual, ↓pk_f, fX4_explanation_36, ↓ex_lstore, fX4_explanation_38, ↓ex_lload, ↓xL_l, ↓xLg_c, fX4_explanation_40, ↓ex_lload_n, fX4_explanation_41, ↓ex_lcmp, ↓s2L_c, fX4_explanation_42, ↓ex_ifCond_le, fX4_explanation_45, fX4_explanation_46, fX4_explanation_47, fX4_explanation_49, fX4_explanation_52, fX4_explanation_53, fX4_explanation_56, ↓ex_ifCond_eq, fX4_explanation_59, fX4_explanation_61, ↓ex_goto, fX4_explanation_64, fX4_explanation_65, fX4_explanation_66, fX4_explanation_67, fX4_explanation_70, fX4_explanation_73, fX4_explanation_75, fX4_explanation_78, fX4_explanation_79, fX4_explanation_80, ↓ex_iinc, fX4_explanation_83, fX4_explanation_86, fX4_explanation_87, ↓C_X4_isStart, b2i_0, ↓reduceIte, not_true_eq_false, not_false_eq_true, false_implies, true_implies, implies_true, and_true, true_and, and_false, false_and, or_true, true_or, or_false, false_or, Classical.not_not, ite_true, ite_false]
    unfold s_explanation at hpost
    by_cases h : inR st 1 255
    case neg => (rw [cif_f h] at hpost; simp only [h, ↓reduceIte, not_true_eq_false, not_false_eq_true, false_implies, true_implies, implies_true, and_true, true_and, and_false, false_and, or_true, true_or, or_false, false_or, Classical.not_not, ite_true, ite_false]; exact hpost X hR0 (FrC.rf X))
    simp only [h, ↓reduceIte, not_true_eq_false, not_false_eq_true, false_implies, true_implies, implies_true, and_true, true_and, and_false, false_and, or_true, true_or, or_false, false_or, Classical.not_not, ite_true, ite_false]
    rw [cif_t h] at hpost
    obtain ⟨-, h2, h3⟩ := inR_cl (lo := 1) (hi := 255) (by omega) h
    generalize cl st = m at h2 h3 hpost
    subst h3
    obtain ⟨s, hs⟩ : ∃ s, s = g.now := ⟨_, rfl⟩
    rw [← hs] at hw hn m1 hpost p24
    have ex12 : ∀ k, (exN s m (wS s) k).1 ≤ 1000000000000 := by
      intro k
      induction k with
      | zero => exact Nat.zero_le _
      | succ k ih =>
        unfold exN
        by_cases z : (exN s m (wS s) k).1 < wtN s.W k s.n ∧ fitW s m (wS s) k
        · rw [cif_t z]; exact wt_12 hw.we k
        · rw [cif_f z]; exact ih
    have key : ∀ k i Y, i + k = 2 ^ s.n → Fr (fun k => k = 53) X Y → R 17 [(0, .ref 51), (1, .int (nI m)), (2, .int (oI (exN s m (wS s) i).2)), (3, .long (lN (exN s m (wS s) i).1)), (5, .int (nI i))] [] Y := by
      intro k
      induction k with
      | zero =>
        intro i Y hi hF
        refine go hR [(17, [0, 1, 2, 3, 5])] 80 ?_
        simp only [↓reduceIte, Nat.reduceEqDiff, Nat.reduceAdd, Nat.reduceLeDiff, reduceCtorEq, and_true, true_and, false_and, and_false, true_or, or_true, or_false, false_or, true_implies, false_implies, implies_true, not_true_eq_false, not_false_eq_true, eq_self, fx_s, ↓run_s, run_0, ↓rs_n, ↓rs_c, as_s, ls_n, ls_c, lc_s, lget_c, fX4_explanation_0, ↓ex_iload_n, ↓xI_i, ↓xIg_c, fX4_explanation_1, ↓ex_invokestatic, ↓xc_0, ↓xc_s, ↓xc_1, ↓pk_s, ↓k_s, ↓k_n, catS_n, catS_c, rOk_c, ct_i, ct_l, ct_r, ↓pk_t, fX4_explanation_4, ↓ex_ifCond_ne, ↓s1I_c, fX4_explanation_7, ↓ex_bipush, fX4_explanation_9, ↓ex_ireturn, ↓rt_i, fX4_explanation_10, ↓ex_iconst, fX4_explanation_11, ↓ex_istore_n, ↓lsto_e, ↓lrmK_n, ↓lrmK_f, fX4_explanation_12, ↓ex_lconst, fX4_explanation_13, ↓ex_lstore_n, ↓s1L_c, ↓lrmK_t, fX4_explanation_14, fX4_explanation_15, ↓ex_istore, fX4_explanation_17, ↓ex_iload, fX4_explanation_19, fX4_explanation_20, ↓ex_aload_n, ↓xR_r, ↓xRg_c, fX4_explanation_21, ↓ex_getfield, ↓s1R_c, ↓fv_4_0, fX4_explanation_24, fX4_explanation_25, ↓ex_iaload, ↓sRI_c, ↓scrR_n, fX4_explanation_26, ↓ex_ishl, ↓s2I_c, fX4_explanation_27, ↓ex_if_icmp_ge, fX4_explanation_30, fX4_explanation_31, fX4_explanation_33, ↓ex_invokevirtual, ↓pk_f, fX4_explanation_36, ↓ex_lstore, fX4_explanation_38, ↓ex_lload, ↓xL_l, ↓xLg_c, fX4_explanation_40, ↓ex_lload_n, fX4_explanation_41, ↓ex_lcmp, ↓s2L_c, fX4_explanation_42, ↓ex_ifCond_le, fX4_explanation_45, fX4_explanation_46, fX4_explanation_47, fX4_explanation_49, fX4_explanation_52, fX4_explanation_53, fX4_explanation_56, ↓ex_ifCond_eq, fX4_explanation_59, fX4_explanation_61, ↓ex_goto, fX4_explanation_64, fX4_explanation_65, fX4_explanation_66, fX4_explanation_67, fX4_explanation_70, fX4_explanation_73, fX4_explanation_75, fX4_explanation_78, fX4_explanation_79, fX4_explanation_80, ↓ex_iinc, fX4_explanation_83, fX4_explanation_86, fX4_explanation_87, p1, p2, q1, q2, vr_0, clamp0, (m1.f53 hF).1, shlN (e := s.n) (by omega), leN (a := 2 ^ s.n) (b := i) (by omega) (by omega), ↓reduceIte, not_true_eq_false, not_false_eq_true, false_implies, true_implies, implies_true, and_true, true_and, and_false, false_and, or_true, true_or, or_false, false_or, Classical.not_not, ite_true, ite_false]
        refine ⟨fun _ => ?_, fun z => absurd (by omega) z⟩
        rw [show i = 2 ^ s.n by omega]
        exact hpost Y (hR0.f53 hF) hF.c53
      | succ k ih =>
        intro i Y hi hF
        have hwt := wt_12 hw.we i
        have hex := ex12 i
        have hi1 := fun Z hZ => ih (i + 1) Z (by omega) hZ
        unfold exN at hi1
        refine go hR [(17, [0, 1, 2, 3, 5])] 80 ?_
        simp only [↓reduceIte, Nat.reduceEqDiff, Nat.reduceAdd, Nat.reduceLeDiff, reduceCtorEq, and_true, true_and, false_and, and_false, true_or, or_true, or_false, false_or, true_implies, false_implies, implies_true, not_true_eq_false, not_false_eq_true, eq_self, fx_s, ↓run_s, run_0, ↓rs_n, ↓rs_c, as_s, ls_n, ls_c, lc_s, lget_c, fX4_explanation_0, ↓ex_iload_n, ↓xI_i, ↓xIg_c, fX4_explanation_1, ↓ex_invokestatic, ↓xc_0, ↓xc_s, ↓xc_1, ↓pk_s, ↓k_s, ↓k_n, catS_n, catS_c, rOk_c, ct_i, ct_l, ct_r, ↓pk_t, fX4_explanation_4, ↓ex_ifCond_ne, ↓s1I_c, fX4_explanation_7, ↓ex_bipush, fX4_explanation_9, ↓ex_ireturn, ↓rt_i, fX4_explanation_10, ↓ex_iconst, fX4_explanation_11, ↓ex_istore_n, ↓lsto_e, ↓lrmK_n, ↓lrmK_f, fX4_explanation_12, ↓ex_lconst, fX4_explanation_13, ↓ex_lstore_n, ↓s1L_c, ↓lrmK_t, fX4_explanation_14, fX4_explanation_15, ↓ex_istore, fX4_explanation_17, ↓ex_iload, fX4_explanation_19, fX4_explanation_20, ↓ex_aload_n, ↓xR_r, ↓xRg_c, fX4_explanation_21, ↓ex_getfield, ↓s1R_c, ↓fv_4_0, fX4_explanation_24, fX4_explanation_25, ↓ex_iaload, ↓sRI_c, ↓scrR_n, fX4_explanation_26, ↓ex_ishl, ↓s2I_c, fX4_explanation_27, ↓ex_if_icmp_ge, fX4_explanation_30, fX4_explanation_31, fX4_explanation_33, ↓ex_invokevirtual, ↓pk_f, fX4_explanation_36, ↓ex_lstore, fX4_explanation_38, ↓ex_lload, ↓xL_l, ↓xLg_c, fX4_explanation_40, ↓ex_lload_n, fX4_explanation_41, ↓ex_lcmp, ↓s2L_c, fX4_explanation_42, ↓ex_ifCond_le, fX4_explanation_45, fX4_explanation_46, fX4_explanation_47, fX4_explanation_49, fX4_explanation_52, fX4_explanation_53, fX4_explanation_56, ↓ex_ifCond_eq, fX4_explanation_59, fX4_explanation_61, ↓ex_goto, fX4_explanation_64, fX4_explanation_65, fX4_explanation_66, fX4_explanation_67, fX4_explanation_70, fX4_explanation_73, fX4_explanation_75, fX4_explanation_78, fX4_explanation_79, fX4_explanation_80, ↓ex_iinc, fX4_explanation_83, fX4_explanation_86, fX4_explanation_87, p1, p2, q1, q2, vr_0, clamp0, (m1.f53 hF).1, shlN (e := s.n) (by omega), leN (a := 2 ^ s.n) (b := i) (by omega) (by omega), ↓C_X4_weightOf, ↓C_X4_hears, ↓C_X4_isFit, lg_cmp_le, add1N, b2i_0, ↓reduceIte, not_true_eq_false, not_false_eq_true, false_implies, true_implies, implies_true, and_true, true_and, and_false, false_and, or_true, true_or, or_false, false_or, Classical.not_not, ite_true, ite_false]
        refine ⟨fun z => absurd z (by omega), fun _ => ⟨s, i, ⟨m1.f53 hF, hn, fun e he => (hw.2.1 e he).2.2.2.1, rfl, by omega⟩, ?_⟩⟩
        rw [pk_lLE (a := wtN s.W i s.n) (b := (exN s m (wS s) i).1) (by omega) (by omega)]
        refine ⟨fun hz => ?_, fun hz => ⟨s, m, i, ⟨m1.f53 hF, hw.we, rfl, h2, rfl, by omega⟩, fun Z hZ hT => ⟨s, m, i, ⟨m1.f53 (hF.tr hZ), hw.oks, hT⟩, fun y => ?_, fun y => ?_⟩⟩⟩
        · have := hi1 Y hF
          rw [cif_f (fun w => by have := w.1; omega)] at this; exact this
        · refine ⟨s, m, i, ⟨m1.f53 (hF.tr hZ), hw.oks, hT⟩, fun x => ?_, fun x => ?_⟩
          · have := hi1 Z (hF.tr hZ)
            rw [cif_f (fun w => y w.2)] at this; exact this
          · exact absurd x y
        · refine ⟨s, m, i, ⟨m1.f53 (hF.tr hZ), hw.oks, hT⟩, fun x => ?_, fun x => ?_⟩
          · exact absurd y x
          · have := hi1 Z (hF.tr hZ)
            rw [cif_t ⟨by omega, y⟩] at this; exact this
    exact key (2 ^ s.n) 0 X (by omega) (Fr.rf _ _)
  next => exact hC.elim)
end MPUB5
