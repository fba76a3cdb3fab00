section PUB6
noncomputable def cntC (s : SV) : Nat → Nat
  | 0 => 0
  | k + 1 => cntC s k + cif (0 < LSt s k) 1 0
theorem cntC_le (s : SV) : ∀ k, cntC s k ≤ k
  | 0 => Nat.le_refl _
  | k + 1 => by
    have := cntC_le s k
    unfold cntC
    by_cases z : 0 < LSt s k
    · rw [cif_t z]; omega
    · rw [cif_f z]; omega
noncomputable def s_candidates (g : SG) : Int32 × SG := (nI (cntC g.now 8), g)
theorem b2i_N (P : Prop) : b2i P = nI (cif P 1 0) := by
  by_cases h : P
  · rw [b2i_t h, cif_t h]; rfl
  · rw [b2i_f h, cif_f h]; rfl
noncomputable def C_X3_candidates : CT := fun As X K => match As with
  | [.ref b] => ∃ g, (b = 0 ∧ RelC X g) ∧ ∀ X', Fr spW X X' → K (some (.int (nI (cntC g.now 8)))) X'
  | _ => False
set_option maxRecDepth 20000 in
set_option maxHeartbeats 4000000 in
theorem d_X3_candidates (l : Launch) : Does l yX3_candidates (wY yX3_candidates cX3_candidates 3 (retT 0)) (rmF 18) C_X3_candidates := does_of (rt := 0) (by decide +kernel) tkX3_candidates (calls := [(161, false, 2, 3, C_X3_countIfPossible)]) (List.forall_mem_cons.mpr ⟨cr_V (d_X3_countIfPossible l) rfl (by decide +kernel) (by decide +kernel) ⟨rfl, rfl⟩ ⟨Nat.le_of_ble_eq_true rfl, Nat.le_of_ble_eq_true rfl⟩, fun _ h => absurd h List.not_mem_nil⟩) (by
  intro As X post hC
  unfold C_X3_candidates at hC
  split at hC
  next b =>
    obtain ⟨g, ⟨rfl, hR0⟩, hpost⟩ := hC
    refine ⟨Nat.le_of_ble_eq_true rfl, fun R hR => ?_⟩
    obtain ⟨⟨p0, -⟩, q0, -⟩ := sh_base
    have hw := hR0.1.1
    have key : ∀ k i Y, i + k = 8 → Fr spW X Y → R 4 [(0, .ref 0), (1, .int (nI (cntC g.now i))), (2, .int (nI i))] [] Y := by
      intro k
      induction k with
      | zero =>
        intro i Y hi hF
        refine go hR [(4, [0, 1, 2])] 2 ?_
        simp only [↓reduceIte, Nat.reduceEqDiff, Nat.reduceAdd, Nat.reduceLeDiff, reduceCtorEq, and_true, true_and, false_and, and_false, true_or, or_true, or_false, false_or, true_implies, false_implies, implies_true, not_true_eq_false, not_false_eq_true, eq_self, fx_s, ↓run_s, run_0, ↓rs_n, ↓rs_c, as_s, ls_n, ls_c, lc_s, lget_c, fX3_candidates_0, ↓ex_iconst, fX3_candidates_1, ↓ex_istore_n, ↓s1I_c, ↓lsto_e, ↓lrmK_n, ↓lrmK_f, ct_i, ct_l, ct_r, fX3_candidates_2, fX3_candidates_3, fX3_candidates_4, ↓ex_iload_n, ↓xI_i, ↓xIg_c, fX3_candidates_5, ↓ex_bipush, fX3_candidates_7, ↓ex_if_icmp_ge, ↓s2I_c, fX3_candidates_10, fX3_candidates_11, ↓ex_aload_n, ↓xR_r, ↓xRg_c, fX3_candidates_12, fX3_candidates_13, fX3_candidates_14, ↓ex_ishl, fX3_candidates_15, ↓ex_invokevirtual, ↓xc_0, ↓xc_s, ↓xc_1, ↓pk_s, ↓k_s, ↓k_n, catS_n, catS_c, rOk_c, ↓pk_f, fX3_candidates_18, ↓ex_iadd, fX3_candidates_19, fX3_candidates_20, ↓ex_iinc, fX3_candidates_23, ↓ex_goto, fX3_candidates_26, fX3_candidates_27, ↓ex_ireturn, ↓rt_i, leI, nI_toInt (n := i) (by omega), tI_m5, tI_m4, tI_m3, tI_m2, tI_m1, tI_0, tI_1, tI_2, tI_3, tI_4, tI_5, tI_7, tI_8, tI_10, tI_12, tI_30, tI_31, tI_32, tI_47, tI_48, tI_57, tI_59, tI_42, tI_43, tI_45, tI_61, tI_62, tI_100, tI_120, tI_255, tI_1000]
        refine ⟨fun _ => ?_, fun z => absurd (by omega) z⟩
        refine go hR [] 2 ?_
        simp only [↓reduceIte, Nat.reduceEqDiff, Nat.reduceAdd, Nat.reduceLeDiff, reduceCtorEq, and_true, true_and, false_and, and_false, true_or, or_true, or_false, false_or, true_implies, false_implies, implies_true, not_true_eq_false, not_false_eq_true, eq_self, fx_s, ↓run_s, run_0, ↓rs_n, ↓rs_c, as_s, ls_n, ls_c, lc_s, lget_c, fX3_candidates_0, ↓ex_iconst, fX3_candidates_1, ↓ex_istore_n, ↓s1I_c, ↓lsto_e, ↓lrmK_n, ↓lrmK_f, ct_i, ct_l, ct_r, fX3_candidates_2, fX3_candidates_3, fX3_candidates_4, ↓ex_iload_n, ↓xI_i, ↓xIg_c, fX3_candidates_5, ↓ex_bipush, fX3_candidates_7, ↓ex_if_icmp_ge, ↓s2I_c, fX3_candidates_10, fX3_candidates_11, ↓ex_aload_n, ↓xR_r, ↓xRg_c, fX3_candidates_12, fX3_candidates_13, fX3_candidates_14, ↓ex_ishl, fX3_candidates_15, ↓ex_invokevirtual, ↓xc_0, ↓xc_s, ↓xc_1, ↓pk_s, ↓k_s, ↓k_n, catS_n, catS_c, rOk_c, ↓pk_f, fX3_candidates_18, ↓ex_iadd, fX3_candidates_19, fX3_candidates_20, ↓ex_iinc, fX3_candidates_23, ↓ex_goto, fX3_candidates_26, fX3_candidates_27, ↓ex_ireturn, ↓rt_i]
        rw [show i = 8 by omega]
        exact hpost Y hF
      | succ k ih =>
        intro i Y hi hF
        refine go hR [(4, [0, 1, 2])] 2 ?_
        simp only [↓reduceIte, Nat.reduceEqDiff, Nat.reduceAdd, Nat.reduceLeDiff, reduceCtorEq, and_true, true_and, false_and, and_false, true_or, or_true, or_false, false_or, true_implies, false_implies, implies_true, not_true_eq_false, not_false_eq_true, eq_self, fx_s, ↓run_s, run_0, ↓rs_n, ↓rs_c, as_s, ls_n, ls_c, lc_s, lget_c, fX3_candidates_0, ↓ex_iconst, fX3_candidates_1, ↓ex_istore_n, ↓s1I_c, ↓lsto_e, ↓lrmK_n, ↓lrmK_f, ct_i, ct_l, ct_r, fX3_candidates_2, fX3_candidates_3, fX3_candidates_4, ↓ex_iload_n, ↓xI_i, ↓xIg_c, fX3_candidates_5, ↓ex_bipush, fX3_candidates_7, ↓ex_if_icmp_ge, ↓s2I_c, fX3_candidates_10, fX3_candidates_11, ↓ex_aload_n, ↓xR_r, ↓xRg_c, fX3_candidates_12, fX3_candidates_13, fX3_candidates_14, ↓ex_ishl, fX3_candidates_15, ↓ex_invokevirtual, ↓xc_0, ↓xc_s, ↓xc_1, ↓pk_s, ↓k_s, ↓k_n, catS_n, catS_c, rOk_c, ↓pk_f, fX3_candidates_18, ↓ex_iadd, fX3_candidates_19, fX3_candidates_20, ↓ex_iinc, fX3_candidates_23, ↓ex_goto, fX3_candidates_26, fX3_candidates_27, ↓ex_ireturn, ↓rt_i, leI, nI_toInt (n := i) (by omega), tI_m5, tI_m4, tI_m3, tI_m2, tI_m1, tI_0, tI_1, tI_2, tI_3, tI_4, tI_5, tI_7, tI_8, tI_10, tI_12, tI_30, tI_31, tI_32, tI_47, tI_48, tI_57, tI_59, tI_42, tI_43, tI_45, tI_61, tI_62, tI_100, tI_120, tI_255, tI_1000]
        refine ⟨fun z => absurd z (by omega), fun _ => ?_⟩
        refine go hR [(4, [0, 1, 2])] 40 ?_
        simp only [↓reduceIte, Nat.reduceEqDiff, Nat.reduceAdd, Nat.reduceLeDiff, reduceCtorEq, and_true, true_and, false_and, and_false, true_or, or_true, or_false, false_or, true_implies, false_implies, implies_true, not_true_eq_false, not_false_eq_true, eq_self, fx_s, ↓run_s, run_0, ↓rs_n, ↓rs_c, as_s, ls_n, ls_c, lc_s, lget_c, fX3_candidates_0, ↓ex_iconst, fX3_candidates_1, ↓ex_istore_n, ↓s1I_c, ↓lsto_e, ↓lrmK_n, ↓lrmK_f, ct_i, ct_l, ct_r, fX3_candidates_2, fX3_candidates_3, fX3_candidates_4, ↓ex_iload_n, ↓xI_i, ↓xIg_c, fX3_candidates_5, ↓ex_bipush, fX3_candidates_7, ↓ex_if_icmp_ge, ↓s2I_c, fX3_candidates_10, fX3_candidates_11, ↓ex_aload_n, ↓xR_r, ↓xRg_c, fX3_candidates_12, fX3_candidates_13, fX3_candidates_14, ↓ex_ishl, fX3_candidates_15, ↓ex_invokevirtual, ↓xc_0, ↓xc_s, ↓xc_1, ↓pk_s, ↓k_s, ↓k_n, catS_n, catS_c, rOk_c, ↓pk_f, fX3_candidates_18, ↓ex_iadd, fX3_candidates_19, fX3_candidates_20, ↓ex_iinc, fX3_candidates_23, ↓ex_goto, fX3_candidates_26, fX3_candidates_27, ↓ex_ireturn, ↓rt_i, p0, q0, ↓C_X3_countIfPossible, shlN (e := i) (by omega), add1N, b2i_N, nI_add, ↓reduceIte, not_true_eq_false, not_false_eq_true, false_implies, true_implies, implies_true, and_true, true_and, and_false, false_and, or_true, true_or, or_false, false_or, Classical.not_not, ite_true, ite_false]
        exact ⟨g.now, 2 ^ i, ⟨RS_W hR0.2.1 hF, hw.oks, rfl, p2_255 (by omega)⟩, fun Z hZ => ih (i + 1) Z (by omega) (hF.tr hZ)⟩
    refine go hR [(4, [0, 1, 2])] 40 ?_
    simp only [lv_args, ↓reduceIte, Nat.reduceEqDiff, Nat.reduceAdd, Nat.reduceLeDiff, reduceCtorEq, and_true, true_and, false_and, and_false, true_or, or_true, or_false, false_or, true_implies, false_implies, implies_true, not_true_eq_false, not_false_eq_true, eq_self, fx_s, ↓run_s, run_0, ↓rs_n, ↓rs_c, as_s, ls_n, ls_c, lc_s, lget_c, fX3_candidates_0, ↓ex_iconst, fX3_candidates_1, ↓ex_istore_n, ↓s1I_c, ↓lsto_e, ↓lrmK_n, ↓lrmK_f, ct_i, ct_l, ct_r, fX3_candidates_2, fX3_candidates_3, fX3_candidates_4, ↓ex_iload_n, ↓xI_i, ↓xIg_c, fX3_candidates_5, ↓ex_bipush, fX3_candidates_7, ↓ex_if_icmp_ge, ↓s2I_c, fX3_candidates_10, fX3_candidates_11, ↓ex_aload_n, ↓xR_r, ↓xRg_c, fX3_candidates_12, fX3_candidates_13, fX3_candidates_14, ↓ex_ishl, fX3_candidates_15, ↓ex_invokevirtual, ↓xc_0, ↓xc_s, ↓xc_1, ↓pk_s, ↓k_s, ↓k_n, catS_n, catS_c, rOk_c, ↓pk_f, fX3_candidates_18, ↓ex_iadd, fX3_candidates_19, fX3_candidates_20, ↓ex_iinc, fX3_candidates_23, ↓ex_goto, fX3_candidates_26, fX3_candidates_27, ↓ex_ireturn, ↓rt_i]
    exact key 8 0 X (by omega) (Fr.rf _ _)
  next => exact hC.elim)
noncomputable def candF (L : Nat → Nat) (r : Int32) : Nat → Nat → Int32
  | 0, _ => -2
  | k + 1, i => cif (0 < L i ∧ nI (rnk L i 8) = r) (nI i) (candF L r k (i + 1))
noncomputable def s_candidate (r : Int32) (g : SG) : Int32 × SG := (candF (LSt g.now) r 8 0, g)
theorem LSt_12 {s : SV} (hW : WE s) (v : Nat) : LSt s v ≤ 1000000000000 := LK_12 hW _
theorem scrL {X X' : XT} {g : SG} (h : RelC X g) (hF : Fr spL X X') : RelC X' g := h.scrap (hF.mono (fun k hk => by unfold spL at hk; unfold scr; omega))
theorem FrM_L {X X' : XT} (h : Fr spL X X') : FrM X X' := FrM.of h (fun k hk => by unfold spL at hk; omega)
noncomputable def C_X3_candidate : CT := fun As X K => match As with
  | [.ref b, .int r] => b = 0 ∧ PubI (s_candidate r) X K
  | _ => False
set_option maxRecDepth 20000 in
set_option maxHeartbeats 4000000 in
theorem d_X3_candidate (l : Launch) : Does l yX3_candidate (wY yX3_candidate cX3_candidate 3 (retT 0)) (rmF 19) C_X3_candidate := does_of (rt := 0) (by decide +kernel) tkX3_candidate (calls := [(164, false, 1, 3, C_X3_findLikelihoods), (167, false, 2, 3, C_X3_rankOf)]) (List.forall_mem_cons.mpr ⟨cr_V (d_X3_findLikelihoods l) rfl (by decide +kernel) (by decide +kernel) ⟨rfl, rfl⟩ ⟨Nat.le_of_ble_eq_true rfl, Nat.le_of_ble_eq_true rfl⟩, List.forall_mem_cons.mpr ⟨cr_V (d_X3_rankOf l) rfl (by decide +kernel) (by decide +kernel) ⟨rfl, rfl⟩ ⟨Nat.le_of_ble_eq_true rfl, Nat.le_of_ble_eq_true rfl⟩, fun _ h => absurd h List.not_mem_nil⟩⟩) (by
  intro As X post hC
  unfold C_X3_candidate at hC
  split at hC
  next b r =>
    obtain ⟨rfl, g, hR0, hpost⟩ := hC
    refine ⟨Nat.le_of_ble_eq_true rfl, fun R hR => ?_⟩
    obtain ⟨⟨p0, p20⟩, q0, q20⟩ := sh_lk
    have hw := hR0.1.1
    refine go hR [(6, [0, 1, 2])] 40 ?_
    simp only [lv_args, ↓reduceIte, Nat.reduceEqDiff, Nat.reduceAdd, Nat.reduceLeDiff, reduceCtorEq, and_true, true_and, false_and, and_false, true_or, or_true, or_false, false_or, true_implies, false_implies, implies_true, not_true_eq_false, not_false_eq_true, eq_self, fx_s, ↓run_s, run_0, ↓rs_n, ↓rs_c, as_s, ls_n, ls_c, lc_s, lget_c, fX3_candidate_0, ↓ex_aload_n, ↓xR_r, ↓xRg_c, fX3_candidate_1, ↓ex_invokevirtual, ↓xc_0, ↓xc_s, ↓xc_1, ↓pk_s, ↓k_s, ↓k_n, catS_n, catS_c, rOk_c, ct_i, ct_l, ct_r, ↓pk_f, fX3_candidate_4, ↓ex_iconst, fX3_candidate_5, ↓ex_istore_n, ↓s1I_c, ↓lsto_e, ↓lrmK_n, ↓lrmK_f, fX3_candidate_6, ↓ex_iload_n, ↓xI_i, ↓xIg_c, fX3_candidate_7, ↓ex_bipush, fX3_candidate_9, ↓ex_if_icmp_ge, ↓s2I_c, fX3_candidate_12, fX3_candidate_13, ↓ex_getfield, ↓s1R_c, ↓fv_3_4, fX3_candidate_16, fX3_candidate_17, ↓ex_laload, ↓sRI_c, fX3_candidate_18, ↓ex_lconst, fX3_candidate_19, ↓ex_lcmp, ↓s2L_c, fX3_candidate_20, ↓ex_ifCond_le, fX3_candidate_23, fX3_candidate_24, fX3_candidate_25, fX3_candidate_28, fX3_candidate_29, ↓ex_if_icmp_ne, fX3_candidate_32, fX3_candidate_33, ↓ex_ireturn, ↓rt_i, fX3_candidate_34, ↓ex_iinc, fX3_candidate_37, ↓ex_goto, fX3_candidate_40, fX3_candidate_42, p0, q0, ↓C_X3_findLikelihoods, ↓reduceIte, not_true_eq_false, not_false_eq_true, false_implies, true_implies, implies_true, and_true, true_and, and_false, false_and, or_true, true_or, or_false, false_or, Classical.not_not, ite_true, ite_false]
    refine ⟨g.now, ⟨hR0.2.1, hw.oks⟩, fun Y hY hL => ?_⟩
    have hfin := hpost Y (scrL hR0 hY) (FrM_L hY)
    have key : ∀ k i, i + k = 8 → post (some (.int (candF (LSt g.now) r k i))) Y → R 6 [(0, .ref 0), (1, .int r), (2, .int (nI i))] [] Y := by
      intro k
      induction k with
      | zero =>
        intro i hi hp
        refine go hR [(6, [0, 1, 2])] 2 ?_
        simp only [↓reduceIte, Nat.reduceEqDiff, Nat.reduceAdd, Nat.reduceLeDiff, reduceCtorEq, and_true, true_and, false_and, and_false, true_or, or_true, or_false, false_or, true_implies, false_implies, implies_true, not_true_eq_false, not_false_eq_true, eq_self, fx_s, ↓run_s, run_0, ↓rs_n, ↓rs_c, as_s, ls_n, ls_c, lc_s, lget_c, fX3_candidate_0, ↓ex_aload_n, ↓xR_r, ↓xRg_c, fX3_candidate_1, ↓ex_invokevirtual, ↓xc_0, ↓xc_s, ↓xc_1, ↓pk_s, ↓k_s, ↓k_n, catS_n, catS_c, rOk_c, ct_i, ct_l, ct_r, ↓pk_f, fX3_candidate_4, ↓ex_iconst, fX3_candidate_5, ↓ex_istore_n, ↓s1I_c, ↓lsto_e, ↓lrmK_n, ↓lrmK_f, fX3_candidate_6, ↓ex_iload_n, ↓xI_i, ↓xIg_c, fX3_candidate_7, ↓ex_bipush, fX3_candidate_9, ↓ex_if_icmp_ge, ↓s2I_c, fX3_candidate_12, fX3_candidate_13, ↓ex_getfield, ↓s1R_c, ↓fv_3_4, fX3_candidate_16, fX3_candidate_17, ↓ex_laload, ↓sRI_c, fX3_candidate_18, ↓ex_lconst, fX3_candidate_19, ↓ex_lcmp, ↓s2L_c, fX3_candidate_20, ↓ex_ifCond_le, fX3_candidate_23, fX3_candidate_24, fX3_candidate_25, fX3_candidate_28, fX3_candidate_29, ↓ex_if_icmp_ne, fX3_candidate_32, fX3_candidate_33, ↓ex_ireturn, ↓rt_i, fX3_candidate_34, ↓ex_iinc, fX3_candidate_37, ↓ex_goto, fX3_candidate_40, fX3_candidate_42, leI, nI_toInt (n := i) (by omega), tI_m5, tI_m4, tI_m3, tI_m2, tI_m1, tI_0, tI_1, tI_2, tI_3, tI_4, tI_5, tI_7, tI_8, tI_10, tI_12, tI_30, tI_31, tI_32, tI_47, tI_48, tI_57, tI_59, tI_42, tI_43, tI_45, tI_61, tI_62, tI_100, tI_120, tI_255, tI_1000]
        refine ⟨fun _ => ?_, fun z => absurd (by omega) z⟩
        refine go hR [] 2 ?_
        simp only [↓reduceIte, Nat.reduceEqDiff, Nat.reduceAdd, Nat.reduceLeDiff, reduceCtorEq, and_true, true_and, false_and, and_false, true_or, or_true, or_false, false_or, true_implies, false_implies, implies_true, not_true_eq_false, not_false_eq_true, eq_self, fx_s, ↓run_s, run_0, ↓rs_n, ↓rs_c, as_s, ls_n, ls_c, lc_s, lget_c, fX3_candidate_0, ↓ex_aload_n, ↓xR_r, ↓xRg_c, fX3_candidate_1, ↓ex_invokevirtual, ↓xc_0, ↓xc_s, ↓xc_1, ↓pk_s, ↓k_s, ↓k_n, catS_n, catS_c, rOk_c, ct_i, ct_l, ct_r, ↓pk_f, fX3_candidate_4, ↓ex_iconst, fX3_candidate_5, ↓ex_istore_n, ↓s1I_c, ↓lsto_e, ↓lrmK_n, ↓lrmK_f, fX3_candidate_6, ↓ex_iload_n, ↓xI_i, ↓xIg_c, fX3_candidate_7, ↓ex_bipush, fX3_candidate_9, ↓ex_if_icmp_ge, ↓s2I_c, fX3_candidate_12, fX3_candidate_13, ↓ex_getfield, ↓s1R_c, ↓fv_3_4, fX3_candidate_16, fX3_candidate_17, ↓ex_laload, ↓sRI_c, fX3_candidate_18, ↓ex_lconst, fX3_candidate_19, ↓ex_lcmp, ↓s2L_c, fX3_candidate_20, ↓ex_ifCond_le, fX3_candidate_23, fX3_candidate_24, fX3_candidate_25, fX3_candidate_28, fX3_candidate_29, ↓ex_if_icmp_ne, fX3_candidate_32, fX3_candidate_33, ↓ex_ireturn, ↓rt_i, fX3_candidate_34, ↓ex_iinc, fX3_candidate_37, ↓ex_goto, fX3_candidate_40, fX3_candidate_42]
        exact hp
      | succ k ih =>
        intro i hi hp
        refine go hR [(6, [0, 1, 2])] 2 ?_
        simp only [↓reduceIte, Nat.reduceEqDiff, Nat.reduceAdd, Nat.reduceLeDiff, reduceCtorEq, and_true, true_and, false_and, and_false, true_or, or_true, or_false, false_or, true_implies, false_implies, implies_true, not_true_eq_false, not_false_eq_true, eq_self, fx_s, ↓run_s, run_0, ↓rs_n, ↓rs_c, as_s, ls_n, ls_c, lc_s, lget_c, fX3_candidate_0, ↓ex_aload_n, ↓xR_r, ↓xRg_c, fX3_candidate_1, ↓ex_invokevirtual, ↓xc_0, ↓xc_s, ↓xc_1, ↓pk_s, ↓k_s, ↓k_n, catS_n, catS_c, rOk_c, ct_i, ct_l, ct_r, ↓pk_f, fX3_candidate_4, ↓ex_iconst, fX3_candidate_5, ↓ex_istore_n, ↓s1I_c, ↓lsto_e, ↓lrmK_n, ↓lrmK_f, fX3_candidate_6, ↓ex_iload_n, ↓xI_i, ↓xIg_c, fX3_candidate_7, ↓ex_bipush, fX3_candidate_9, ↓ex_if_icmp_ge, ↓s2I_c, fX3_candidate_12, fX3_candidate_13, ↓ex_getfield, ↓s1R_c, ↓fv_3_4, fX3_candidate_16, fX3_candidate_17, ↓ex_laload, ↓sRI_c, fX3_candidate_18, ↓ex_lconst, fX3_candidate_19, ↓ex_lcmp, ↓s2L_c, fX3_candidate_20, ↓ex_ifCond_le, fX3_candidate_23, fX3_candidate_24, fX3_candidate_25, fX3_candidate_28, fX3_candidate_29, ↓ex_if_icmp_ne, fX3_candidate_32, fX3_candidate_33, ↓ex_ireturn, ↓rt_i, fX3_candidate_34, ↓ex_iinc, fX3_candidate_37, ↓ex_goto, fX3_candidate_40, fX3_candidate_42, leI, nI_toInt (n := i) (by omega), tI_m5, tI_m4, tI_m3, tI_m2, tI_m1, tI_0, tI_1, tI_2, tI_3, tI_4, tI_5, tI_7, tI_8, tI_10, tI_12, tI_30, tI_31, tI_32, tI_47, tI_48, tI_57, tI_59, tI_42, tI_43, tI_45, tI_61, tI_62, tI_100, tI_120, tI_255, tI_1000]
        refine ⟨fun z => absurd z (by omega), fun _ => ?_⟩
        have b1 := LSt_12 hw.we i
        have h0 : (0 : Int64) = lN 0 := rfl
        refine go hR [(6, [0, 1, 2])] 40 ?_
        simp only [↓reduceIte, Nat.reduceEqDiff, Nat.reduceAdd, Nat.reduceLeDiff, reduceCtorEq, and_true, true_and, false_and, and_false, true_or, or_true, or_false, false_or, true_implies, false_implies, implies_true, not_true_eq_false, not_false_eq_true, eq_self, fx_s, ↓run_s, run_0, ↓rs_n, ↓rs_c, as_s, ls_n, ls_c, lc_s, lget_c, fX3_candidate_0, ↓ex_aload_n, ↓xR_r, ↓xRg_c, fX3_candidate_1, ↓ex_invokevirtual, ↓xc_0, ↓xc_s, ↓xc_1, ↓pk_s, ↓k_s, ↓k_n, catS_n, catS_c, rOk_c, ct_i, ct_l, ct_r, ↓pk_f, fX3_candidate_4, ↓ex_iconst, fX3_candidate_5, ↓ex_istore_n, ↓s1I_c, ↓lsto_e, ↓lrmK_n, ↓lrmK_f, fX3_candidate_6, ↓ex_iload_n, ↓xI_i, ↓xIg_c, fX3_candidate_7, ↓ex_bipush, fX3_candidate_9, ↓ex_if_icmp_ge, ↓s2I_c, fX3_candidate_12, fX3_candidate_13, ↓ex_getfield, ↓s1R_c, ↓fv_3_4, fX3_candidate_16, fX3_candidate_17, ↓ex_laload, ↓sRI_c, fX3_candidate_18, ↓ex_lconst, fX3_candidate_19, ↓ex_lcmp, ↓s2L_c, fX3_candidate_20, ↓ex_ifCond_le, fX3_candidate_23, fX3_candidate_24, fX3_candidate_25, fX3_candidate_28, fX3_candidate_29, ↓ex_if_icmp_ne, fX3_candidate_32, fX3_candidate_33, ↓ex_ireturn, ↓rt_i, fX3_candidate_34, ↓ex_iinc, fX3_candidate_37, ↓ex_goto, fX3_candidate_40, fX3_candidate_42, p0, p20, q0, q20, ↓C_X3_rankOf, clampN (n := i) (by omega), hL i (by omega), lg_cmp_le, h0, pk_lLE (a := LSt g.now i) (b := 0) (by omega) (by omega), add1N, ↓reduceIte, not_true_eq_false, not_false_eq_true, false_implies, true_implies, implies_true, and_true, true_and, and_false, false_and, or_true, true_or, or_false, false_or, Classical.not_not, ite_true, ite_false]
        unfold candF at hp
        refine ⟨vp_inN (by omega) (by omega), fun z => ?_, fun z => ⟨LSt g.now, i, ⟨hL, fun v _ => LSt_12 hw.we v, rfl, by omega⟩, fun y => ?_, fun y => ?_⟩⟩
        · rw [cif_f (fun x => by have := x.1; omega)] at hp
          exact ih (i + 1) (by omega) hp
        · rw [cif_f (fun x => y x.2)] at hp
          exact ih (i + 1) (by omega) hp
        · rw [cif_t ⟨by omega, y⟩] at hp
          exact hp
    exact key 8 0 (by omega) hfin
  next => exact hC.elim)
noncomputable def s_belief (v : Int32) (g : SG) : Int32 × SG := (cif (inR v 0 7) (nI (1000 * LSt g.now (cl v) / sumN (LSt g.now) 8)) (-2), g)
noncomputable def C_X3_belief : CT := fun As X K => match As with
  | [.ref b, .int v] => b = 0 ∧ PubI (s_belief v) X K
  | _ => False
set_option maxRecDepth 20000 in
set_option maxHeartbeats 4000000 in
theorem d_X3_belief (l : Launch) : Does l yX3_belief (wY yX3_belief cX3_belief 5 (retT 0)) (rmF 19) C_X3_belief := does_of (rt := 0) (by decide +kernel) tkX3_belief (calls := [(42, true, 1, 3, C_X3_isNode), (164, false, 1, 3, C_X3_findLikelihoods)]) (List.forall_mem_cons.mpr ⟨cr_S (d_X3_isNode l) (by decide +kernel) (by decide +kernel) ⟨rfl, rfl⟩ ⟨Nat.le_of_ble_eq_true rfl, Nat.le_of_ble_eq_true rfl⟩, List.forall_mem_cons.mpr ⟨cr_V (d_X3_findLikelihoods l) rfl (by decide +kernel) (by decide +kernel) ⟨rfl, rfl⟩ ⟨Nat.le_of_ble_eq_true rfl, Nat.le_of_ble_eq_true rfl⟩, fun _ h => absurd h List.not_mem_nil⟩⟩) (by
  intro As X post hC
  unfold C_X3_belief at hC
  split at hC
  next b v =>
    obtain ⟨rfl, g, hR0, hpost⟩ := hC
    refine ⟨Nat.le_of_ble_eq_true rfl, fun R hR => ?_⟩
    obtain ⟨⟨p0, p20⟩, q0, q20⟩ := sh_lk
    have hw := hR0.1.1
    refine go hR [(19, [0, 1, 2, 4])] 40 ?_
    simp only [lv_args, ↓reduceIte, Nat.reduceEqDiff, Nat.reduceAdd, Nat.reduceLeDiff, reduceCtorEq, and_true, true_and, false_and, and_false, true_or, or_true, or_false, false_or, true_implies, false_implies, implies_true, not_true_eq_false, not_false_eq_true, eq_self, fx_s, ↓run_s, run_0, ↓rs_n, ↓rs_c, as_s, ls_n, ls_c, lc_s, lget_c, fX3_belief_0, ↓ex_iload_n, ↓xI_i, ↓xIg_c, fX3_belief_1, ↓ex_invokestatic, ↓xc_0, ↓xc_s, ↓xc_1, ↓pk_s, ↓k_s, ↓k_n, catS_n, catS_c, rOk_c, ct_i, ct_l, ct_r, ↓pk_t, fX3_belief_4, ↓ex_ifCond_ne, ↓s1I_c, fX3_belief_7, ↓ex_bipush, fX3_belief_9, ↓ex_ireturn, ↓rt_i, fX3_belief_10, ↓ex_aload_n, ↓xR_r, ↓xRg_c, fX3_belief_11, ↓ex_invokevirtual, ↓pk_f, fX3_belief_14, ↓ex_lconst, fX3_belief_15, ↓ex_lstore_n, ↓s1L_c, ↓lsto_e, ↓lrmK_n, ↓lrmK_t, fX3_belief_16, ↓ex_iconst, fX3_belief_17, ↓ex_istore, ↓lrmK_f, fX3_belief_19, ↓ex_iload, fX3_belief_21, fX3_belief_23, ↓ex_if_icmp_ge, ↓s2I_c, fX3_belief_26, ↓ex_lload_n, ↓xL_l, ↓xLg_c, fX3_belief_27, fX3_belief_28, ↓ex_getfield, ↓s1R_c, ↓fv_3_4, fX3_belief_31, fX3_belief_33, ↓ex_laload, ↓sRI_c, fX3_belief_34, ↓ex_ladd, ↓s2L_c, fX3_belief_35, fX3_belief_36, ↓ex_iinc, fX3_belief_39, ↓ex_goto, fX3_belief_42, fX3_belief_43, fX3_belief_44, ↓ex_lcmp, fX3_belief_45, ↓ex_ifCond_le, fX3_belief_48, ↓ex_ldc2_w, fX3_belief_51, fX3_belief_52, fX3_belief_55, fX3_belief_56, fX3_belief_57, ↓ex_lmul, fX3_belief_58, fX3_belief_59, ↓ex_ldiv, fX3_belief_60, ↓ex_l2i, fX3_belief_61, fX3_belief_64, fX3_belief_65, p0, q0, ↓C_X3_isNode, ↓C_X3_findLikelihoods, b2i_0, Classical.not_not, ↓reduceIte, not_true_eq_false, not_false_eq_true, false_implies, true_implies, implies_true, and_true, true_and, and_false, false_and, or_true, true_or, or_false, false_or, Classical.not_not, ite_true, ite_false]
    unfold s_belief at hpost
    by_cases hv : inR v 0 7
    case neg => (rw [cif_f hv] at hpost; simp only [hv, ↓reduceIte, not_true_eq_false, not_false_eq_true, false_implies, true_implies, implies_true, and_true, true_and, and_false, false_and, or_true, true_or, or_false, false_or, Classical.not_not, ite_true, ite_false]; exact hpost X hR0 (FrM.rf X))
    rw [cif_t hv] at hpost
    simp only [hv, ↓reduceIte, not_true_eq_false, not_false_eq_true, false_implies, true_implies, implies_true, and_true, true_and, and_false, false_and, or_true, true_or, or_false, false_or, Classical.not_not, ite_true, ite_false]
    obtain ⟨-, v2, v3⟩ := inR_cl (lo := 0) (hi := 7) (by omega) hv
    refine ⟨g.now, ⟨hR0.2.1, hw.oks⟩, fun Y hY hL => ?_⟩
    have hfin := hpost Y (scrL hR0 hY) (FrM_L hY)
    have hsum : ∀ k, k ≤ 8 → sumN (LSt g.now) k ≤ 1000000000000 * k := by
      intro k
      induction k with
      | zero => intro _; exact Nat.zero_le _
      | succ k ih =>
        intro hk
        have := ih (by omega)
        have := LSt_12 hw.we k
        show sumN (LSt g.now) k + LSt g.now k ≤ _
        omega
    have key : ∀ k i, i + k = 8 → R 19 [(0, .ref 0), (1, .int v), (2, .long (lN (sumN (LSt g.now) i))), (4, .int (nI i))] [] Y := by
      intro k
      induction k with
      | zero =>
        intro i hi
        refine go hR [(19, [0, 1, 2, 4])] 2 ?_
        simp only [↓reduceIte, Nat.reduceEqDiff, Nat.reduceAdd, Nat.reduceLeDiff, reduceCtorEq, and_true, true_and, false_and, and_false, true_or, or_true, or_false, false_or, true_implies, false_implies, implies_true, not_true_eq_false, not_false_eq_true, eq_self, fx_s, ↓run_s, run_0, ↓rs_n, ↓rs_c, as_s, ls_n, ls_c, lc_s, lget_c, fX3_belief_0, ↓ex_iload_n, ↓xI_i, ↓xIg_c, fX3_belief_1, ↓ex_invokestatic, ↓xc_0, ↓xc_s, ↓xc_1, ↓pk_s, ↓k_s, ↓k_n, catS_n, catS_c, rOk_c, ct_i, ct_l, ct_r, ↓pk_t, fX3_belief_4, ↓ex_ifCond_ne, ↓s1I_c, fX3_belief_7, ↓ex_bipush, fX3_belief_9, ↓ex_ireturn, ↓rt_i, fX3_belief_10, ↓ex_aload_n, ↓xR_r, ↓xRg_c, fX3_belief_11, ↓ex_invokevirtual, ↓pk_f, fX3_belief_14, ↓ex_lconst, fX3_belief_15, ↓ex_lstore_n, ↓s1L_c, ↓lsto_e, ↓lrmK_n, ↓lrmK_t, fX3_belief_16, ↓ex_iconst, fX3_belief_17, ↓ex_istore, ↓lrmK_f, fX3_belief_19, ↓ex_iload, fX3_belief_21, fX3_belief_23, ↓ex_if_icmp_ge, ↓s2I_c, fX3_belief_26, ↓ex_lload_n, ↓xL_l, ↓xLg_c, fX3_belief_27, fX3_belief_28, ↓ex_getfield, ↓s1R_c, ↓fv_3_4, fX3_belief_31, fX3_belief_33, ↓ex_laload, ↓sRI_c, fX3_belief_34, ↓ex_ladd, ↓s2L_c, fX3_belief_35, fX3_belief_36, ↓ex_iinc, fX3_belief_39, ↓ex_goto, fX3_belief_42, fX3_belief_43, fX3_belief_44, ↓ex_lcmp, fX3_belief_45, ↓ex_ifCond_le, fX3_belief_48, ↓ex_ldc2_w, fX3_belief_51, fX3_belief_52, fX3_belief_55, fX3_belief_56, fX3_belief_57, ↓ex_lmul, fX3_belief_58, fX3_belief_59, ↓ex_ldiv, fX3_belief_60, ↓ex_l2i, fX3_belief_61, fX3_belief_64, fX3_belief_65, leI, nI_toInt (n := i) (by omega), tI_m5, tI_m4, tI_m3, tI_m2, tI_m1, tI_0, tI_1, tI_2, tI_3, tI_4, tI_5, tI_7, tI_8, tI_10, tI_12, tI_30, tI_31, tI_32, tI_47, tI_48, tI_57, tI_59, tI_42, tI_43, tI_45, tI_61, tI_62, tI_100, tI_120, tI_255, tI_1000]
        refine ⟨fun _ => ?_, fun z => absurd (by omega) z⟩
        rw [show i = 8 by omega]
        have h8 := hsum 8 (Nat.le_refl _)
        have b1 := LSt_12 hw.we (cl v)
        have h0 : (0 : Int64) = lN 0 := rfl
        have h1000 : (1000 : Int64) = lN 1000 := rfl
        have eL : Y.2.1 20 v.toNatClampNeg = lN (LSt g.now (cl v)) := hL (cl v) (by omega)
        refine go hR [] 40 ?_
        simp only [↓reduceIte, Nat.reduceEqDiff, Nat.reduceAdd, Nat.reduceLeDiff, reduceCtorEq, and_true, true_and, false_and, and_false, true_or, or_true, or_false, false_or, true_implies, false_implies, implies_true, not_true_eq_false, not_false_eq_true, eq_self, fx_s, ↓run_s, run_0, ↓rs_n, ↓rs_c, as_s, ls_n, ls_c, lc_s, lget_c, fX3_belief_0, ↓ex_iload_n, ↓xI_i, ↓xIg_c, fX3_belief_1, ↓ex_invokestatic, ↓xc_0, ↓xc_s, ↓xc_1, ↓pk_s, ↓k_s, ↓k_n, catS_n, catS_c, rOk_c, ct_i, ct_l, ct_r, ↓pk_t, fX3_belief_4, ↓ex_ifCond_ne, ↓s1I_c, fX3_belief_7, ↓ex_bipush, fX3_belief_9, ↓ex_ireturn, ↓rt_i, fX3_belief_10, ↓ex_aload_n, ↓xR_r, ↓xRg_c, fX3_belief_11, ↓ex_invokevirtual, ↓pk_f, fX3_belief_14, ↓ex_lconst, fX3_belief_15, ↓ex_lstore_n, ↓s1L_c, ↓lsto_e, ↓lrmK_n, ↓lrmK_t, fX3_belief_16, ↓ex_iconst, fX3_belief_17, ↓ex_istore, ↓lrmK_f, fX3_belief_19, ↓ex_iload, fX3_belief_21, fX3_belief_23, ↓ex_if_icmp_ge, ↓s2I_c, fX3_belief_26, ↓ex_lload_n, ↓xL_l, ↓xLg_c, fX3_belief_27, fX3_belief_28, ↓ex_getfield, ↓s1R_c, ↓fv_3_4, fX3_belief_31, fX3_belief_33, ↓ex_laload, ↓sRI_c, fX3_belief_34, ↓ex_ladd, ↓s2L_c, fX3_belief_35, fX3_belief_36, ↓ex_iinc, fX3_belief_39, ↓ex_goto, fX3_belief_42, fX3_belief_43, fX3_belief_44, ↓ex_lcmp, fX3_belief_45, ↓ex_ifCond_le, fX3_belief_48, ↓ex_ldc2_w, fX3_belief_51, fX3_belief_52, fX3_belief_55, fX3_belief_56, fX3_belief_57, ↓ex_lmul, fX3_belief_58, fX3_belief_59, ↓ex_ldiv, fX3_belief_60, ↓ex_l2i, fX3_belief_61, fX3_belief_64, fX3_belief_65, p0, p20, q0, q20, lg_cmp_le, h0, h1000, pk_lLE (a := sumN (LSt g.now) 8) (b := 0) (by omega) (by omega), eL, lN_mul, ↓reduceIte, not_true_eq_false, not_false_eq_true, false_implies, true_implies, implies_true, and_true, true_and, and_false, false_and, or_true, true_or, or_false, false_or, Classical.not_not, ite_true, ite_false]
        refine ⟨fun z => ?_, fun z => ⟨by rw [v3]; exact vp_inN (by omega) (by omega), ?_, ?_⟩⟩
        · have : sumN (LSt g.now) 8 = 0 := by omega
          rw [this, Nat.div_zero] at hfin
          exact hfin
        · rw [pk_lEQ (by omega) (by omega)]; omega
        · rw [pk_lDiv (by omega) (by omega) (by omega), lN_i]
          exact hfin
      | succ k ih =>
        intro i hi
        refine go hR [(19, [0, 1, 2, 4])] 2 ?_
        simp only [↓reduceIte, Nat.reduceEqDiff, Nat.reduceAdd, Nat.reduceLeDiff, reduceCtorEq, and_true, true_and, false_and, and_false, true_or, or_true, or_false, false_or, true_implies, false_implies, implies_true, not_true_eq_false, not_false_eq_true, eq_self, fx_s, ↓run_s, run_0, ↓rs_n, ↓rs_c, as_s, ls_n, ls_c, lc_s, lget_c, fX3_belief_0, ↓ex_iload_n, ↓xI_i, ↓xIg_c, fX3_belief_1, ↓ex_invokestatic, ↓xc_0, ↓xc_s, ↓xc_1, ↓pk_s, ↓k_s, ↓k_n, catS_n, catS_c, rOk_c, ct_i, ct_l, ct_r, ↓pk_t, fX3_belief_4, ↓ex_ifCond_ne, ↓s1I_c, fX3_belief_7, ↓ex_bipush, fX3_belief_9, ↓ex_ireturn, ↓rt_i, fX3_belief_10, ↓ex_aload_n, ↓xR_r, ↓xRg_c, fX3_belief_11, ↓ex_invokevirtual, ↓pk_f, fX3_belief_14, ↓ex_lconst, fX3_belief_15, ↓ex_lstore_n, ↓s1L_c, ↓lsto_e, ↓lrmK_n, ↓lrmK_t, fX3_belief_16, ↓ex_iconst, fX3_belief_17, ↓ex_istore, ↓lrmK_f, fX3_belief_19, ↓ex_iload, fX3_belief_21, fX3_belief_23, ↓ex_if_icmp_ge, ↓s2I_c, fX3_belief_26, ↓ex_lload_n, ↓xL_l, ↓xLg_c, fX3_belief_27, fX3_belief_28, ↓ex_getfield, ↓s1R_c, ↓fv_3_4, fX3_belief_31, fX3_belief_33, ↓ex_laload, ↓sRI_c, fX3_belief_34, ↓ex_ladd, ↓s2L_c, fX3_belief_35, fX3_belief_36, ↓ex_iinc, fX3_belief_39, ↓ex_goto, fX3_belief_42, fX3_belief_43, fX3_belief_44, ↓ex_lcmp, fX3_belief_45, ↓ex_ifCond_le, fX3_belief_48, ↓ex_ldc2_w, fX3_belief_51, fX3_belief_52, fX3_belief_55, fX3_belief_56, fX3_belief_57, ↓ex_lmul, fX3_belief_58, fX3_belief_59, ↓ex_ldiv, fX3_belief_60, ↓ex_l2i, fX3_belief_61, fX3_belief_64, fX3_belief_65, leI, nI_toInt (n := i) (by omega), tI_m5, tI_m4, tI_m3, tI_m2, tI_m1, tI_0, tI_1, tI_2, tI_3, tI_4, tI_5, tI_7, tI_8, tI_10, tI_12, tI_30, tI_31, tI_32, tI_47, tI_48, tI_57, tI_59, tI_42, tI_43, tI_45, tI_61, tI_62, tI_100, tI_120, tI_255, tI_1000]
        refine ⟨fun z => absurd z (by omega), fun _ => ?_⟩
        refine go hR [(19, [0, 1, 2, 4])] 40 ?_
        simp only [↓reduceIte, Nat.reduceEqDiff, Nat.reduceAdd, Nat.reduceLeDiff, reduceCtorEq, and_true, true_and, false_and, and_false, true_or, or_true, or_false, false_or, true_implies, false_implies, implies_true, not_true_eq_false, not_false_eq_true, eq_self, fx_s, ↓run_s, run_0, ↓rs_n, ↓rs_c, as_s, ls_n, ls_c, lc_s, lget_c, fX3_belief_0, ↓ex_iload_n, ↓xI_i, ↓xIg_c, fX3_belief_1, ↓ex_invokestatic, ↓xc_0, ↓xc_s, ↓xc_1, ↓pk_s, ↓k_s, ↓k_n, catS_n, catS_c, rOk_c, ct_i, ct_l, ct_r, ↓pk_t, fX3_belief_4, ↓ex_ifCond_ne, ↓s1I_c, fX3_belief_7, ↓ex_bipush, fX3_belief_9, ↓ex_ireturn, ↓rt_i, fX3_belief_10, ↓ex_aload_n, ↓xR_r, ↓xRg_c, fX3_belief_11, ↓ex_invokevirtual, ↓pk_f, fX3_belief_14, ↓ex_lconst, fX3_belief_15, ↓ex_lstore_n, ↓s1L_c, ↓lsto_e, ↓lrmK_n, ↓lrmK_t, fX3_belief_16, ↓ex_iconst, fX3_belief_17, ↓ex_istore, ↓lrmK_f, fX3_belief_19, ↓ex_iload, fX3_belief_21, fX3_belief_23, ↓ex_if_icmp_ge, ↓s2I_c, fX3_belief_26, ↓ex_lload_n, ↓xL_l, ↓xLg_c, fX3_belief_27, fX3_belief_28, ↓ex_getfield, ↓s1R_c, ↓fv_3_4, fX3_belief_31, fX3_belief_33, ↓ex_laload, ↓sRI_c, fX3_belief_34, ↓ex_ladd, ↓s2L_c, fX3_belief_35, fX3_belief_36, ↓ex_iinc, fX3_belief_39, ↓ex_goto, fX3_belief_42, fX3_belief_43, fX3_belief_44, ↓ex_lcmp, fX3_belief_45, ↓ex_ifCond_le, fX3_belief_48, ↓ex_ldc2_w, fX3_belief_51, fX3_belief_52, fX3_belief_55, fX3_belief_56, fX3_belief_57, ↓ex_lmul, fX3_belief_58, fX3_belief_59, ↓ex_ldiv, fX3_belief_60, ↓ex_l2i, fX3_belief_61, fX3_belief_64, fX3_belief_65, p0, p20, q0, q20, clampN (n := i) (by omega), hL i (by omega), lN_add, add1N, ↓reduceIte, not_true_eq_false, not_false_eq_true, false_implies, true_implies, implies_true, and_true, true_and, and_false, false_and, or_true, true_or, or_false, false_or, Classical.not_not, ite_true, ite_false]
        exact ⟨vp_inN (by omega) (by omega), ih (i + 1) (by omega)⟩
    exact key 8 0 (by omega)
  next => exact hC.elim)
/-- the best decoy among the first k nodes, and its likelihood -/
noncomputable def decF (s : SV) (v : Nat) : Nat → Option Nat × Nat
  | 0 => (none, 0)
  | k + 1 => cif (k ≠ v ∧ (decF s v k).2 < LK s (2 ^ v ||| 2 ^ k)) (some k, LK s (2 ^ v ||| 2 ^ k)) (decF s v k)
theorem decF_12 {s : SV} (hW : WE s) (v : Nat) : ∀ k, (decF s v k).2 ≤ 1000000000000
  | 0 => Nat.zero_le _
  | k + 1 => by
    have := decF_12 hW v k
    unfold decF
    by_cases z : k ≠ v ∧ (decF s v k).2 < LK s (2 ^ v ||| 2 ^ k)
    · rw [cif_t z]; exact LK_12 hW _
    · rw [cif_f z]; exact this
noncomputable def s_decoy (v : Int32) (g : SG) : Int32 × SG := (cif (inR v 0 7) (oI (decF g.now (cl v) 8).1) (-2), g)
theorem or_255 {u v : Nat} (hu : u < 8) (hv : v < 8) : 2 ^ u ||| 2 ^ v ≤ 255 := by
  have h1 : 2 ^ u < 2 ^ 8 := Nat.pow_lt_pow_right (by decide) hu
  have h2 : 2 ^ v < 2 ^ 8 := Nat.pow_lt_pow_right (by decide) hv
  have := Nat.or_lt_two_pow h1 h2
  omega
noncomputable def C_X3_decoy : CT := fun As X K => match As with
  | [.ref b, .int v] => b = 0 ∧ PubI (s_decoy v) X K
  | _ => False
set_option maxRecDepth 20000 in
set_option maxHeartbeats 4000000 in
theorem d_X3_decoy (l : Launch) : Does l yX3_decoy (wY yX3_decoy cX3_decoy 8 (retT 0)) (rmF 18) C_X3_decoy := does_of (rt := 0) (by decide +kernel) tkX3_decoy (calls := [(42, true, 1, 3, C_X3_isNode), (157, false, 2, 3, C_X3_likelihoodOf)]) (List.forall_mem_cons.mpr ⟨cr_S (d_X3_isNode l) (by decide +kernel) (by decide +kernel) ⟨rfl, rfl⟩ ⟨Nat.le_of_ble_eq_true rfl, Nat.le_of_ble_eq_true rfl⟩, List.forall_mem_cons.mpr ⟨cr_V (d_X3_likelihoodOf l) rfl (by decide +kernel) (by decide +kernel) ⟨rfl, rfl⟩ ⟨Nat.le_of_ble_eq_true rfl, Nat.le_of_ble_eq_true rfl⟩, fun _ h => absurd h List.not_mem_nil⟩⟩) (by
  intro As X post hC
  unfold C_X3_decoy at hC
  split at hC
  next b v =>
    obtain ⟨rfl, g, hR0, hpost⟩ := hC
    refine ⟨Nat.le_of_ble_eq_true rfl, fun R hR => ?_⟩
    obtain ⟨⟨p0, -⟩, q0, -⟩ := sh_base
    have hw := hR0.1.1
    refine go hR [(17, [0, 1, 2, 3, 5])] 40 ?_
    simp only [lv_args, ↓reduceIte, Nat.reduceEqDiff, Nat.reduceAdd, Nat.reduceLeDiff, reduceCtorEq, and_true, true_and, false_and, and_false, true_or, or_true, or_false, false_or, true_implies, false_implies, implies_true, not_true_eq_false, not_false_eq_true, eq_self, fx_s, ↓run_s, run_0, ↓rs_n, ↓rs_c, as_s, ls_n, ls_c, lc_s, lget_c, fX3_decoy_0, ↓ex_iload_n, ↓xI_i, ↓xIg_c, fX3_decoy_1, ↓ex_invokestatic, ↓xc_0, ↓xc_s, ↓xc_1, ↓pk_s, ↓k_s, ↓k_n, catS_n, catS_c, rOk_c, ct_i, ct_l, ct_r, ↓pk_t, fX3_decoy_4, ↓ex_ifCond_ne, ↓s1I_c, fX3_decoy_7, ↓ex_bipush, fX3_decoy_9, ↓ex_ireturn, ↓rt_i, fX3_decoy_10, ↓ex_iconst, fX3_decoy_11, ↓ex_istore_n, ↓lsto_e, ↓lrmK_n, ↓lrmK_f, fX3_decoy_12, ↓ex_lconst, fX3_decoy_13, ↓ex_lstore_n, ↓s1L_c, ↓lrmK_t, fX3_decoy_14, fX3_decoy_15, ↓ex_istore, fX3_decoy_17, ↓ex_iload, fX3_decoy_19, fX3_decoy_21, ↓ex_if_icmp_ge, ↓s2I_c, fX3_decoy_24, fX3_decoy_26, fX3_decoy_27, ↓ex_if_icmp_ne, fX3_decoy_30, ↓ex_goto, fX3_decoy_33, ↓ex_aload_n, ↓xR_r, ↓xRg_c, fX3_decoy_34, fX3_decoy_35, fX3_decoy_36, ↓ex_ishl, fX3_decoy_37, fX3_decoy_38, fX3_decoy_40, fX3_decoy_41, ↓ex_ior, fX3_decoy_42, ↓ex_invokevirtual, ↓pk_f, fX3_decoy_45, ↓ex_lstore, fX3_decoy_47, ↓ex_lload, ↓xL_l, ↓xLg_c, fX3_decoy_49, ↓ex_lload_n, fX3_decoy_50, ↓ex_lcmp, ↓s2L_c, fX3_decoy_51, ↓ex_ifCond_le, fX3_decoy_54, fX3_decoy_56, fX3_decoy_57, fX3_decoy_59, fX3_decoy_60, ↓ex_iinc, fX3_decoy_63, fX3_decoy_66, fX3_decoy_67, p0, q0, ↓C_X3_isNode, b2i_0, Classical.not_not, ↓reduceIte, not_true_eq_false, not_false_eq_true, false_implies, true_implies, implies_true, and_true, true_and, and_false, false_and, or_true, true_or, or_false, false_or, Classical.not_not, ite_true, ite_false]
    unfold s_decoy at hpost
    by_cases hv : inR v 0 7
    case neg => (rw [cif_f hv] at hpost; simp only [hv, ↓reduceIte, not_true_eq_false, not_false_eq_true, false_implies, true_implies, implies_true, and_true, true_and, and_false, false_and, or_true, true_or, or_false, false_or, Classical.not_not, ite_true, ite_false]; exact hpost X hR0 (FrM.rf X))
    rw [cif_t hv] at hpost
    simp only [hv, ↓reduceIte, not_true_eq_false, not_false_eq_true, false_implies, true_implies, implies_true, and_true, true_and, and_false, false_and, or_true, true_or, or_false, false_or, Classical.not_not, ite_true, ite_false]
    obtain ⟨-, v2, v3⟩ := inR_cl (lo := 0) (hi := 7) (by omega) hv
    generalize cl v = u at v2 v3 hpost
    subst v3
    have key : ∀ k i Y, i + k = 8 → Fr spW X Y → R 17 [(0, .ref 0), (1, .int (nI u)), (2, .int (oI (decF g.now u i).1)), (3, .long (lN (decF g.now u i).2)), (5, .int (nI i))] [] Y := by
      intro k
      induction k with
      | zero =>
        intro i Y hi hF
        refine go hR [(17, [0, 1, 2, 3, 5])] 2 ?_
        simp only [↓reduceIte, Nat.reduceEqDiff, Nat.reduceAdd, Nat.reduceLeDiff, reduceCtorEq, and_true, true_and, false_and, and_false, true_or, or_true, or_false, false_or, true_implies, false_implies, implies_true, not_true_eq_false, not_false_eq_true, eq_self, fx_s, ↓run_s, run_0, ↓rs_n, ↓rs_c, as_s, ls_n, ls_c, lc_s, lget_c, fX3_decoy_0, ↓ex_iload_n, ↓xI_i, ↓xIg_c, fX3_decoy_1, ↓ex_invokestatic, ↓xc_0, ↓xc_s, ↓xc_1, ↓pk_s, ↓k_s, ↓k_n, catS_n, catS_c, rOk_c, ct_i, ct_l, ct_r, ↓pk_t, fX3_decoy_4, ↓ex_ifCond_ne, ↓s1I_c, fX3_decoy_7, ↓ex_bipush, fX3_decoy_9, ↓ex_ireturn, ↓rt_i, fX3_decoy_10, ↓ex_iconst, fX3_decoy_11, ↓ex_istore_n, ↓lsto_e, ↓lrmK_n, ↓lrmK_f, fX3_decoy_12, ↓ex_lconst, fX3_decoy_13, ↓ex_lstore_n, ↓s1L_c, ↓lrmK_t, fX3_decoy_14, fX3_decoy_15, ↓ex_istore, fX3_decoy_17, ↓ex_iload, fX3_decoy_19, fX3_decoy_21, ↓ex_if_icmp_ge, ↓s2I_c, fX3_decoy_24, fX3_decoy_26, fX3_decoy_27, ↓ex_if_icmp_ne, fX3_decoy_30, ↓ex_goto, fX3_decoy_33, ↓ex_aload_n, ↓xR_r, ↓xRg_c, fX3_decoy_34, fX3_decoy_35, fX3_decoy_36, ↓ex_ishl, fX3_decoy_37, fX3_decoy_38, fX3_decoy_40, fX3_decoy_41, ↓ex_ior, fX3_decoy_42, ↓ex_invokevirtual, ↓pk_f, fX3_decoy_45, ↓ex_lstore, fX3_decoy_47, ↓ex_lload, ↓xL_l, ↓xLg_c, fX3_decoy_49, ↓ex_lload_n, fX3_decoy_50, ↓ex_lcmp, ↓s2L_c, fX3_decoy_51, ↓ex_ifCond_le, fX3_decoy_54, fX3_decoy_56, fX3_decoy_57, fX3_decoy_59, fX3_decoy_60, ↓ex_iinc, fX3_decoy_63, fX3_decoy_66, fX3_decoy_67, leI, nI_toInt (n := i) (by omega), tI_m5, tI_m4, tI_m3, tI_m2, tI_m1, tI_0, tI_1, tI_2, tI_3, tI_4, tI_5, tI_7, tI_8, tI_10, tI_12, tI_30, tI_31, tI_32, tI_47, tI_48, tI_57, tI_59, tI_42, tI_43, tI_45, tI_61, tI_62, tI_100, tI_120, tI_255, tI_1000]
        refine ⟨fun _ => ?_, fun z => absurd (by omega) z⟩
        refine go hR [] 2 ?_
        simp only [↓reduceIte, Nat.reduceEqDiff, Nat.reduceAdd, Nat.reduceLeDiff, reduceCtorEq, and_true, true_and, false_and, and_false, true_or, or_true, or_false, false_or, true_implies, false_implies, implies_true, not_true_eq_false, not_false_eq_true, eq_self, fx_s, ↓run_s, run_0, ↓rs_n, ↓rs_c, as_s, ls_n, ls_c, lc_s, lget_c, fX3_decoy_0, ↓ex_iload_n, ↓xI_i, ↓xIg_c, fX3_decoy_1, ↓ex_invokestatic, ↓xc_0, ↓xc_s, ↓xc_1, ↓pk_s, ↓k_s, ↓k_n, catS_n, catS_c, rOk_c, ct_i, ct_l, ct_r, ↓pk_t, fX3_decoy_4, ↓ex_ifCond_ne, ↓s1I_c, fX3_decoy_7, ↓ex_bipush, fX3_decoy_9, ↓ex_ireturn, ↓rt_i, fX3_decoy_10, ↓ex_iconst, fX3_decoy_11, ↓ex_istore_n, ↓lsto_e, ↓lrmK_n, ↓lrmK_f, fX3_decoy_12, ↓ex_lconst, fX3_decoy_13, ↓ex_lstore_n, ↓s1L_c, ↓lrmK_t, fX3_decoy_14, fX3_decoy_15, ↓ex_istore, fX3_decoy_17, ↓ex_iload, fX3_decoy_19, fX3_decoy_21, ↓ex_if_icmp_ge, ↓s2I_c, fX3_decoy_24, fX3_decoy_26, fX3_decoy_27, ↓ex_if_icmp_ne, fX3_decoy_30, ↓ex_goto, fX3_decoy_33, ↓ex_aload_n, ↓xR_r, ↓xRg_c, fX3_decoy_34, fX3_decoy_35, fX3_decoy_36, ↓ex_ishl, fX3_decoy_37, fX3_decoy_38, fX3_decoy_40, fX3_decoy_41, ↓ex_ior, fX3_decoy_42, ↓ex_invokevirtual, ↓pk_f, fX3_decoy_45, ↓ex_lstore, fX3_decoy_47, ↓ex_lload, ↓xL_l, ↓xLg_c, fX3_decoy_49, ↓ex_lload_n, fX3_decoy_50, ↓ex_lcmp, ↓s2L_c, fX3_decoy_51, ↓ex_ifCond_le, fX3_decoy_54, fX3_decoy_56, fX3_decoy_57, fX3_decoy_59, fX3_decoy_60, ↓ex_iinc, fX3_decoy_63, fX3_decoy_66, fX3_decoy_67]
        rw [show i = 8 by omega]
        exact hpost Y (scrW hR0 hF) (FrM_W hF)
      | succ k ih =>
        intro i Y hi hF
        refine go hR [(17, [0, 1, 2, 3, 5])] 2 ?_
        simp only [↓reduceIte, Nat.reduceEqDiff, Nat.reduceAdd, Nat.reduceLeDiff, reduceCtorEq, and_true, true_and, false_and, and_false, true_or, or_true, or_false, false_or, true_implies, false_implies, implies_true, not_true_eq_false, not_false_eq_true, eq_self, fx_s, ↓run_s, run_0, ↓rs_n, ↓rs_c, as_s, ls_n, ls_c, lc_s, lget_c, fX3_decoy_0, ↓ex_iload_n, ↓xI_i, ↓xIg_c, fX3_decoy_1, ↓ex_invokestatic, ↓xc_0, ↓xc_s, ↓xc_1, ↓pk_s, ↓k_s, ↓k_n, catS_n, catS_c, rOk_c, ct_i, ct_l, ct_r, ↓pk_t, fX3_decoy_4, ↓ex_ifCond_ne, ↓s1I_c, fX3_decoy_7, ↓ex_bipush, fX3_decoy_9, ↓ex_ireturn, ↓rt_i, fX3_decoy_10, ↓ex_iconst, fX3_decoy_11, ↓ex_istore_n, ↓lsto_e, ↓lrmK_n, ↓lrmK_f, fX3_decoy_12, ↓ex_lconst, fX3_decoy_13, ↓ex_lstore_n, ↓s1L_c, ↓lrmK_t, fX3_decoy_14, fX3_decoy_15, ↓ex_istore, fX3_decoy_17, ↓ex_iload, fX3_decoy_19, fX3_decoy_21, ↓ex_if_icmp_ge, ↓s2I_c, fX3_decoy_24, fX3_decoy_26, fX3_decoy_27, ↓ex_if_icmp_ne, fX3_decoy_30, ↓ex_goto, fX3_decoy_33, ↓ex_aload_n, ↓xR_r, ↓xRg_c, fX3_decoy_34, fX3_decoy_35, fX3_decoy_36, ↓ex_ishl, fX3_decoy_37, fX3_decoy_38, fX3_decoy_40, fX3_decoy_41, ↓ex_ior, fX3_decoy_42, ↓ex_invokevirtual, ↓pk_f, fX3_decoy_45, ↓ex_lstore, fX3_decoy_47, ↓ex_lload, ↓xL_l, ↓xLg_c, fX3_decoy_49, ↓ex_lload_n, fX3_decoy_50, ↓ex_lcmp, ↓s2L_c, fX3_decoy_51, ↓ex_ifCond_le, fX3_decoy_54, fX3_decoy_56, fX3_decoy_57, fX3_decoy_59, fX3_decoy_60, ↓ex_iinc, fX3_decoy_63, fX3_decoy_66, fX3_decoy_67, leI, nI_toInt (n := i) (by omega), tI_m5, tI_m4, tI_m3, tI_m2, tI_m1, tI_0, tI_1, tI_2, tI_3, tI_4, tI_5, tI_7, tI_8, tI_10, tI_12, tI_30, tI_31, tI_32, tI_47, tI_48, tI_57, tI_59, tI_42, tI_43, tI_45, tI_61, tI_62, tI_100, tI_120, tI_255, tI_1000]
        refine ⟨fun z => absurd z (by omega), fun _ => ?_⟩
        have b1 := decF_12 hw.we u i
        have b2 := LK_12 hw.we (2 ^ u ||| 2 ^ i)
        refine go hR [(17, [0, 1, 2, 3, 5])] 40 ?_
        simp only [↓reduceIte, Nat.reduceEqDiff, Nat.reduceAdd, Nat.reduceLeDiff, reduceCtorEq, and_true, true_and, false_and, and_false, true_or, or_true, or_false, false_or, true_implies, false_implies, implies_true, not_true_eq_false, not_false_eq_true, eq_self, fx_s, ↓run_s, run_0, ↓rs_n, ↓rs_c, as_s, ls_n, ls_c, lc_s, lget_c, fX3_decoy_0, ↓ex_iload_n, ↓xI_i, ↓xIg_c, fX3_decoy_1, ↓ex_invokestatic, ↓xc_0, ↓xc_s, ↓xc_1, ↓pk_s, ↓k_s, ↓k_n, catS_n, catS_c, rOk_c, ct_i, ct_l, ct_r, ↓pk_t, fX3_decoy_4, ↓ex_ifCond_ne, ↓s1I_c, fX3_decoy_7, ↓ex_bipush, fX3_decoy_9, ↓ex_ireturn, ↓rt_i, fX3_decoy_10, ↓ex_iconst, fX3_decoy_11, ↓ex_istore_n, ↓lsto_e, ↓lrmK_n, ↓lrmK_f, fX3_decoy_12, ↓ex_lconst, fX3_decoy_13, ↓ex_lstore_n, ↓s1L_c, ↓lrmK_t, fX3_decoy_14, fX3_decoy_15, ↓ex_istore, fX3_decoy_17, ↓ex_iload, fX3_decoy_19, fX3_decoy_21, ↓ex_if_icmp_ge, ↓s2I_c, fX3_decoy_24, fX3_decoy_26, fX3_decoy_27, ↓ex_if_icmp_ne, fX3_decoy_30, ↓ex_goto, fX3_decoy_33, ↓ex_aload_n, ↓xR_r, ↓xRg_c, fX3_decoy_34, fX3_decoy_35, fX3_decoy_36, ↓ex_ishl, fX3_decoy_37, fX3_decoy_38, fX3_decoy_40, fX3_decoy_41, ↓ex_ior, fX3_decoy_42, ↓ex_invokevirtual, ↓pk_f, fX3_decoy_45, ↓ex_lstore, fX3_decoy_47, ↓ex_lload, ↓xL_l, ↓xLg_c, fX3_decoy_49, ↓ex_lload_n, fX3_decoy_50, ↓ex_lcmp, ↓s2L_c, fX3_decoy_51, ↓ex_ifCond_le, fX3_decoy_54, fX3_decoy_56, fX3_decoy_57, fX3_decoy_59, fX3_decoy_60, ↓ex_iinc, fX3_decoy_63, fX3_decoy_66, fX3_decoy_67, p0, q0, ↓C_X3_likelihoodOf, shlN (e := i) (by omega), shlN (e := u) (by omega), fa_or, eqN (a := i) (b := u) (by omega) (by omega), lg_cmp_le, add1N, ↓reduceIte, not_true_eq_false, not_false_eq_true, false_implies, true_implies, implies_true, and_true, true_and, and_false, false_and, or_true, true_or, or_false, false_or, Classical.not_not, ite_true, ite_false]
        refine ⟨fun z => ⟨g.now, 2 ^ u ||| 2 ^ i, ⟨RS_W hR0.2.1 hF, hw.oks, rfl, or_255 (by omega) (by omega)⟩, fun Z hZ => ?_⟩, fun z => ?_⟩
        · rw [pk_lLE (a := LK g.now (2 ^ u ||| 2 ^ i)) (b := (decF g.now u i).2) (by omega) (by omega)]
          have hi1 := ih (i + 1) Z (by omega) (hF.tr hZ)
          unfold decF at hi1
          refine ⟨fun y => ?_, fun y => ?_⟩
          · rw [cif_f (fun x => by have := x.2; omega)] at hi1; exact hi1
          · rw [cif_t ⟨z, by omega⟩] at hi1; exact hi1
        · have hi1 := ih (i + 1) Y (by omega) hF
          unfold decF at hi1
          rw [cif_f (fun x => x.1 z)] at hi1
          exact hi1
    exact key 8 0 X (by omega) (Fr.rf _ _)
  next => exact hC.elim)
end PUB6
