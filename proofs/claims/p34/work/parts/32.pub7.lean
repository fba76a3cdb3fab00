section PUB7
noncomputable def posI (s : SV) (u : Nat) : Nat → Nat
  | 0 => 0
  | k + 1 => posI s u k + cif (0 < LK s (2 ^ u ||| 2 ^ (u + k))) 1 0
noncomputable def posA (s : SV) : Nat → Nat
  | 0 => 0
  | u + 1 => posA s u + posI s u (8 - u)
noncomputable def s_possible (g : SG) : Int32 × SG := (nI (posA g.now 8), g)
noncomputable def C_X3_possible : CT := fun As X K => match As with
  | [.ref b] => b = 0 ∧ PubI s_possible X K
  | _ => False
set_option maxRecDepth 20000 in
set_option maxHeartbeats 4000000 in
theorem d_X3_possible (l : Launch) : Does l yX3_possible (wY yX3_possible cX3_possible 4 (retT 0)) (rmF 18) C_X3_possible := does_of (rt := 0) (by decide +kernel) tkX3_possible (calls := [(161, false, 2, 3, C_X3_countIfPossible)]) (List.forall_mem_cons.mpr ⟨cr_V (d_X3_countIfPossible l) rfl (by decide +kernel) (by decide +kernel) ⟨rfl, rfl⟩ ⟨Nat.le_of_ble_eq_true rfl, Nat.le_of_ble_eq_true rfl⟩, fun _ h => absurd h List.not_mem_nil⟩) (by
  intro As X post hC
  unfold C_X3_possible at hC
  split at hC
  next b =>
    obtain ⟨rfl, g, hR0, hpost⟩ := hC
    refine ⟨Nat.le_of_ble_eq_true rfl, fun R hR => ?_⟩
    obtain ⟨⟨p0, -⟩, q0, -⟩ := sh_base
    have hw := hR0.1.1
    have inner : ∀ u, u < 8 → (∀ Y, Fr spW X Y → R 4 [(0, .ref 0), (1, .int (nI (posA g.now (u + 1)))), (2, .int (nI (u + 1)))] [] Y) →
        ∀ k i Y, i + k = 8 - u → Fr spW X Y → R 12 [(0, .ref 0), (1, .int (nI (posA g.now u + posI g.now u i))), (2, .int (nI u)), (3, .int (nI (u + i)))] [] Y := by
      intro u hu hout k
      induction k with
      | zero =>
        intro i Y hi hF
        refine go hR [(4, [0, 1, 2]), (12, [0, 1, 2, 3])] 2 ?_
        simp only [↓reduceIte, Nat.reduceEqDiff, Nat.reduceAdd, Nat.reduceLeDiff, reduceCtorEq, and_true, true_and, false_and, and_false, true_or, or_true, or_false, false_or, true_implies, false_implies, implies_true, not_true_eq_false, not_false_eq_true, eq_self, fx_s, ↓run_s, run_0, ↓rs_n, ↓rs_c, as_s, ls_n, ls_c, lc_s, lget_c, fX3_possible_0, ↓ex_iconst, fX3_possible_1, ↓ex_istore_n, ↓s1I_c, ↓lsto_e, ↓lrmK_n, ↓lrmK_f, ct_i, ct_l, ct_r, fX3_possible_2, fX3_possible_3, fX3_possible_4, ↓ex_iload_n, ↓xI_i, ↓xIg_c, fX3_possible_5, ↓ex_bipush, fX3_possible_7, ↓ex_if_icmp_ge, ↓s2I_c, fX3_possible_10, fX3_possible_11, fX3_possible_12, fX3_possible_13, fX3_possible_15, fX3_possible_18, fX3_possible_19, ↓ex_aload_n, ↓xR_r, ↓xRg_c, fX3_possible_20, fX3_possible_21, fX3_possible_22, ↓ex_ishl, fX3_possible_23, fX3_possible_24, fX3_possible_25, fX3_possible_26, ↓ex_ior, fX3_possible_27, ↓ex_invokevirtual, ↓xc_0, ↓xc_s, ↓xc_1, ↓pk_s, ↓k_s, ↓k_n, catS_n, catS_c, rOk_c, ↓pk_f, fX3_possible_30, ↓ex_iadd, fX3_possible_31, fX3_possible_32, ↓ex_iinc, fX3_possible_35, ↓ex_goto, fX3_possible_38, fX3_possible_41, fX3_possible_44, fX3_possible_45, ↓ex_ireturn, ↓rt_i, leI, nI_toInt (n := u + i) (by omega), tI_m5, tI_m4, tI_m3, tI_m2, tI_m1, tI_0, tI_1, tI_2, tI_3, tI_4, tI_5, tI_7, tI_8, tI_10, tI_12, tI_30, tI_31, tI_32, tI_47, tI_48, tI_57, tI_59, tI_42, tI_43, tI_45, tI_61, tI_62, tI_100, tI_120, tI_255, tI_1000]
        refine ⟨fun _ => ?_, fun z => absurd (by omega) z⟩
        refine go hR [(4, [0, 1, 2]), (12, [0, 1, 2, 3])] 3 ?_
        simp only [↓reduceIte, Nat.reduceEqDiff, Nat.reduceAdd, Nat.reduceLeDiff, reduceCtorEq, and_true, true_and, false_and, and_false, true_or, or_true, or_false, false_or, true_implies, false_implies, implies_true, not_true_eq_false, not_false_eq_true, eq_self, fx_s, ↓run_s, run_0, ↓rs_n, ↓rs_c, as_s, ls_n, ls_c, lc_s, lget_c, fX3_possible_0, ↓ex_iconst, fX3_possible_1, ↓ex_istore_n, ↓s1I_c, ↓lsto_e, ↓lrmK_n, ↓lrmK_f, ct_i, ct_l, ct_r, fX3_possible_2, fX3_possible_3, fX3_possible_4, ↓ex_iload_n, ↓xI_i, ↓xIg_c, fX3_possible_5, ↓ex_bipush, fX3_possible_7, ↓ex_if_icmp_ge, ↓s2I_c, fX3_possible_10, fX3_possible_11, fX3_possible_12, fX3_possible_13, fX3_possible_15, fX3_possible_18, fX3_possible_19, ↓ex_aload_n, ↓xR_r, ↓xRg_c, fX3_possible_20, fX3_possible_21, fX3_possible_22, ↓ex_ishl, fX3_possible_23, fX3_possible_24, fX3_possible_25, fX3_possible_26, ↓ex_ior, fX3_possible_27, ↓ex_invokevirtual, ↓xc_0, ↓xc_s, ↓xc_1, ↓pk_s, ↓k_s, ↓k_n, catS_n, catS_c, rOk_c, ↓pk_f, fX3_possible_30, ↓ex_iadd, fX3_possible_31, fX3_possible_32, ↓ex_iinc, fX3_possible_35, ↓ex_goto, fX3_possible_38, fX3_possible_41, fX3_possible_44, fX3_possible_45, ↓ex_ireturn, ↓rt_i, add1N]
        have := hout Y hF
        unfold posA at this
        rw [show 8 - u = i by omega] at this
        exact this
      | succ k ih =>
        intro i Y hi hF
        refine go hR [(4, [0, 1, 2]), (12, [0, 1, 2, 3])] 2 ?_
        simp only [↓reduceIte, Nat.reduceEqDiff, Nat.reduceAdd, Nat.reduceLeDiff, reduceCtorEq, and_true, true_and, false_and, and_false, true_or, or_true, or_false, false_or, true_implies, false_implies, implies_true, not_true_eq_false, not_false_eq_true, eq_self, fx_s, ↓run_s, run_0, ↓rs_n, ↓rs_c, as_s, ls_n, ls_c, lc_s, lget_c, fX3_possible_0, ↓ex_iconst, fX3_possible_1, ↓ex_istore_n, ↓s1I_c, ↓lsto_e, ↓lrmK_n, ↓lrmK_f, ct_i, ct_l, ct_r, fX3_possible_2, fX3_possible_3, fX3_possible_4, ↓ex_iload_n, ↓xI_i, ↓xIg_c, fX3_possible_5, ↓ex_bipush, fX3_possible_7, ↓ex_if_icmp_ge, ↓s2I_c, fX3_possible_10, fX3_possible_11, fX3_possible_12, fX3_possible_13, fX3_possible_15, fX3_possible_18, fX3_possible_19, ↓ex_aload_n, ↓xR_r, ↓xRg_c, fX3_possible_20, fX3_possible_21, fX3_possible_22, ↓ex_ishl, fX3_possible_23, fX3_possible_24, fX3_possible_25, fX3_possible_26, ↓ex_ior, fX3_possible_27, ↓ex_invokevirtual, ↓xc_0, ↓xc_s, ↓xc_1, ↓pk_s, ↓k_s, ↓k_n, catS_n, catS_c, rOk_c, ↓pk_f, fX3_possible_30, ↓ex_iadd, fX3_possible_31, fX3_possible_32, ↓ex_iinc, fX3_possible_35, ↓ex_goto, fX3_possible_38, fX3_possible_41, fX3_possible_44, fX3_possible_45, ↓ex_ireturn, ↓rt_i, leI, nI_toInt (n := u + i) (by omega), tI_m5, tI_m4, tI_m3, tI_m2, tI_m1, tI_0, tI_1, tI_2, tI_3, tI_4, tI_5, tI_7, tI_8, tI_10, tI_12, tI_30, tI_31, tI_32, tI_47, tI_48, tI_57, tI_59, tI_42, tI_43, tI_45, tI_61, tI_62, tI_100, tI_120, tI_255, tI_1000]
        refine ⟨fun z => absurd z (by omega), fun _ => ?_⟩
        refine go hR [(4, [0, 1, 2]), (12, [0, 1, 2, 3])] 40 ?_
        simp only [↓reduceIte, Nat.reduceEqDiff, Nat.reduceAdd, Nat.reduceLeDiff, reduceCtorEq, and_true, true_and, false_and, and_false, true_or, or_true, or_false, false_or, true_implies, false_implies, implies_true, not_true_eq_false, not_false_eq_true, eq_self, fx_s, ↓run_s, run_0, ↓rs_n, ↓rs_c, as_s, ls_n, ls_c, lc_s, lget_c, fX3_possible_0, ↓ex_iconst, fX3_possible_1, ↓ex_istore_n, ↓s1I_c, ↓lsto_e, ↓lrmK_n, ↓lrmK_f, ct_i, ct_l, ct_r, fX3_possible_2, fX3_possible_3, fX3_possible_4, ↓ex_iload_n, ↓xI_i, ↓xIg_c, fX3_possible_5, ↓ex_bipush, fX3_possible_7, ↓ex_if_icmp_ge, ↓s2I_c, fX3_possible_10, fX3_possible_11, fX3_possible_12, fX3_possible_13, fX3_possible_15, fX3_possible_18, fX3_possible_19, ↓ex_aload_n, ↓xR_r, ↓xRg_c, fX3_possible_20, fX3_possible_21, fX3_possible_22, ↓ex_ishl, fX3_possible_23, fX3_possible_24, fX3_possible_25, fX3_possible_26, ↓ex_ior, fX3_possible_27, ↓ex_invokevirtual, ↓xc_0, ↓xc_s, ↓xc_1, ↓pk_s, ↓k_s, ↓k_n, catS_n, catS_c, rOk_c, ↓pk_f, fX3_possible_30, ↓ex_iadd, fX3_possible_31, fX3_possible_32, ↓ex_iinc, fX3_possible_35, ↓ex_goto, fX3_possible_38, fX3_possible_41, fX3_possible_44, fX3_possible_45, ↓ex_ireturn, ↓rt_i, p0, q0, ↓C_X3_countIfPossible, shlN (e := u) (by omega), shlN (e := u + i) (by omega), fa_or, add1N, b2i_N, nI_add, ↓reduceIte, not_true_eq_false, not_false_eq_true, false_implies, true_implies, implies_true, and_true, true_and, and_false, false_and, or_true, true_or, or_false, false_or, Classical.not_not, ite_true, ite_false]
        exact ⟨g.now, 2 ^ u ||| 2 ^ (u + i), ⟨RS_W hR0.2.1 hF, hw.oks, rfl, or_255 (by omega) (by omega)⟩, fun Z hZ => by
          have h := ih (i + 1) Z (by omega) (hF.tr hZ)
          simp only [posI, ← Nat.add_assoc] at h
          exact h⟩
    have outer : ∀ k u Y, u + k = 8 → Fr spW X Y → R 4 [(0, .ref 0), (1, .int (nI (posA g.now u))), (2, .int (nI u))] [] Y := by
      intro k
      induction k with
      | zero =>
        intro u Y hu hF
        refine go hR [(4, [0, 1, 2])] 2 ?_
        simp only [↓reduceIte, Nat.reduceEqDiff, Nat.reduceAdd, Nat.reduceLeDiff, reduceCtorEq, and_true, true_and, false_and, and_false, true_or, or_true, or_false, false_or, true_implies, false_implies, implies_true, not_true_eq_false, not_false_eq_true, eq_self, fx_s, ↓run_s, run_0, ↓rs_n, ↓rs_c, as_s, ls_n, ls_c, lc_s, lget_c, fX3_possible_0, ↓ex_iconst, fX3_possible_1, ↓ex_istore_n, ↓s1I_c, ↓lsto_e, ↓lrmK_n, ↓lrmK_f, ct_i, ct_l, ct_r, fX3_possible_2, fX3_possible_3, fX3_possible_4, ↓ex_iload_n, ↓xI_i, ↓xIg_c, fX3_possible_5, ↓ex_bipush, fX3_possible_7, ↓ex_if_icmp_ge, ↓s2I_c, fX3_possible_10, fX3_possible_11, fX3_possible_12, fX3_possible_13, fX3_possible_15, fX3_possible_18, fX3_possible_19, ↓ex_aload_n, ↓xR_r, ↓xRg_c, fX3_possible_20, fX3_possible_21, fX3_possible_22, ↓ex_ishl, fX3_possible_23, fX3_possible_24, fX3_possible_25, fX3_possible_26, ↓ex_ior, fX3_possible_27, ↓ex_invokevirtual, ↓xc_0, ↓xc_s, ↓xc_1, ↓pk_s, ↓k_s, ↓k_n, catS_n, catS_c, rOk_c, ↓pk_f, fX3_possible_30, ↓ex_iadd, fX3_possible_31, fX3_possible_32, ↓ex_iinc, fX3_possible_35, ↓ex_goto, fX3_possible_38, fX3_possible_41, fX3_possible_44, fX3_possible_45, ↓ex_ireturn, ↓rt_i, leI, nI_toInt (n := u) (by omega), tI_m5, tI_m4, tI_m3, tI_m2, tI_m1, tI_0, tI_1, tI_2, tI_3, tI_4, tI_5, tI_7, tI_8, tI_10, tI_12, tI_30, tI_31, tI_32, tI_47, tI_48, tI_57, tI_59, tI_42, tI_43, tI_45, tI_61, tI_62, tI_100, tI_120, tI_255, tI_1000]
        refine ⟨fun _ => ?_, fun z => absurd (by omega) z⟩
        refine go hR [] 2 ?_
        simp only [↓reduceIte, Nat.reduceEqDiff, Nat.reduceAdd, Nat.reduceLeDiff, reduceCtorEq, and_true, true_and, false_and, and_false, true_or, or_true, or_false, false_or, true_implies, false_implies, implies_true, not_true_eq_false, not_false_eq_true, eq_self, fx_s, ↓run_s, run_0, ↓rs_n, ↓rs_c, as_s, ls_n, ls_c, lc_s, lget_c, fX3_possible_0, ↓ex_iconst, fX3_possible_1, ↓ex_istore_n, ↓s1I_c, ↓lsto_e, ↓lrmK_n, ↓lrmK_f, ct_i, ct_l, ct_r, fX3_possible_2, fX3_possible_3, fX3_possible_4, ↓ex_iload_n, ↓xI_i, ↓xIg_c, fX3_possible_5, ↓ex_bipush, fX3_possible_7, ↓ex_if_icmp_ge, ↓s2I_c, fX3_possible_10, fX3_possible_11, fX3_possible_12, fX3_possible_13, fX3_possible_15, fX3_possible_18, fX3_possible_19, ↓ex_aload_n, ↓xR_r, ↓xRg_c, fX3_possible_20, fX3_possible_21, fX3_possible_22, ↓ex_ishl, fX3_possible_23, fX3_possible_24, fX3_possible_25, fX3_possible_26, ↓ex_ior, fX3_possible_27, ↓ex_invokevirtual, ↓xc_0, ↓xc_s, ↓xc_1, ↓pk_s, ↓k_s, ↓k_n, catS_n, catS_c, rOk_c, ↓pk_f, fX3_possible_30, ↓ex_iadd, fX3_possible_31, fX3_possible_32, ↓ex_iinc, fX3_possible_35, ↓ex_goto, fX3_possible_38, fX3_possible_41, fX3_possible_44, fX3_possible_45, ↓ex_ireturn, ↓rt_i]
        rw [show u = 8 by omega]
        exact hpost Y (scrW hR0 hF) (FrM_W hF)
      | succ k ih =>
        intro u Y hu hF
        refine go hR [(4, [0, 1, 2])] 2 ?_
        simp only [↓reduceIte, Nat.reduceEqDiff, Nat.reduceAdd, Nat.reduceLeDiff, reduceCtorEq, and_true, true_and, false_and, and_false, true_or, or_true, or_false, false_or, true_implies, false_implies, implies_true, not_true_eq_false, not_false_eq_true, eq_self, fx_s, ↓run_s, run_0, ↓rs_n, ↓rs_c, as_s, ls_n, ls_c, lc_s, lget_c, fX3_possible_0, ↓ex_iconst, fX3_possible_1, ↓ex_istore_n, ↓s1I_c, ↓lsto_e, ↓lrmK_n, ↓lrmK_f, ct_i, ct_l, ct_r, fX3_possible_2, fX3_possible_3, fX3_possible_4, ↓ex_iload_n, ↓xI_i, ↓xIg_c, fX3_possible_5, ↓ex_bipush, fX3_possible_7, ↓ex_if_icmp_ge, ↓s2I_c, fX3_possible_10, fX3_possible_11, fX3_possible_12, fX3_possible_13, fX3_possible_15, fX3_possible_18, fX3_possible_19, ↓ex_aload_n, ↓xR_r, ↓xRg_c, fX3_possible_20, fX3_possible_21, fX3_possible_22, ↓ex_ishl, fX3_possible_23, fX3_possible_24, fX3_possible_25, fX3_possible_26, ↓ex_ior, fX3_possible_27, ↓ex_invokevirtual, ↓xc_0, ↓xc_s, ↓xc_1, ↓pk_s, ↓k_s, ↓k_n, catS_n, catS_c, rOk_c, ↓pk_f, fX3_possible_30, ↓ex_iadd, fX3_possible_31, fX3_possible_32, ↓ex_iinc, fX3_possible_35, ↓ex_goto, fX3_possible_38, fX3_possible_41, fX3_possible_44, fX3_possible_45, ↓ex_ireturn, ↓rt_i, leI, nI_toInt (n := u) (by omega), tI_m5, tI_m4, tI_m3, tI_m2, tI_m1, tI_0, tI_1, tI_2, tI_3, tI_4, tI_5, tI_7, tI_8, tI_10, tI_12, tI_30, tI_31, tI_32, tI_47, tI_48, tI_57, tI_59, tI_42, tI_43, tI_45, tI_61, tI_62, tI_100, tI_120, tI_255, tI_1000]
        refine ⟨fun z => absurd z (by omega), fun _ => ?_⟩
        refine go hR [(4, [0, 1, 2]), (12, [0, 1, 2, 3])] 3 ?_
        simp only [↓reduceIte, Nat.reduceEqDiff, Nat.reduceAdd, Nat.reduceLeDiff, reduceCtorEq, and_true, true_and, false_and, and_false, true_or, or_true, or_false, false_or, true_implies, false_implies, implies_true, not_true_eq_false, not_false_eq_true, eq_self, fx_s, ↓run_s, run_0, ↓rs_n, ↓rs_c, as_s, ls_n, ls_c, lc_s, lget_c, fX3_possible_0, ↓ex_iconst, fX3_possible_1, ↓ex_istore_n, ↓s1I_c, ↓lsto_e, ↓lrmK_n, ↓lrmK_f, ct_i, ct_l, ct_r, fX3_possible_2, fX3_possible_3, fX3_possible_4, ↓ex_iload_n, ↓xI_i, ↓xIg_c, fX3_possible_5, ↓ex_bipush, fX3_possible_7, ↓ex_if_icmp_ge, ↓s2I_c, fX3_possible_10, fX3_possible_11, fX3_possible_12, fX3_possible_13, fX3_possible_15, fX3_possible_18, fX3_possible_19, ↓ex_aload_n, ↓xR_r, ↓xRg_c, fX3_possible_20, fX3_possible_21, fX3_possible_22, ↓ex_ishl, fX3_possible_23, fX3_possible_24, fX3_possible_25, fX3_possible_26, ↓ex_ior, fX3_possible_27, ↓ex_invokevirtual, ↓xc_0, ↓xc_s, ↓xc_1, ↓pk_s, ↓k_s, ↓k_n, catS_n, catS_c, rOk_c, ↓pk_f, fX3_possible_30, ↓ex_iadd, fX3_possible_31, fX3_possible_32, ↓ex_iinc, fX3_possible_35, ↓ex_goto, fX3_possible_38, fX3_possible_41, fX3_possible_44, fX3_possible_45, ↓ex_ireturn, ↓rt_i]
        exact inner u (by omega) (fun Z hZ => ih (u + 1) Z (by omega) hZ) (8 - u) 0 Y (by omega) hF
    refine go hR [(4, [0, 1, 2])] 40 ?_
    simp only [lv_args, ↓reduceIte, Nat.reduceEqDiff, Nat.reduceAdd, Nat.reduceLeDiff, reduceCtorEq, and_true, true_and, false_and, and_false, true_or, or_true, or_false, false_or, true_implies, false_implies, implies_true, not_true_eq_false, not_false_eq_true, eq_self, fx_s, ↓run_s, run_0, ↓rs_n, ↓rs_c, as_s, ls_n, ls_c, lc_s, lget_c, fX3_possible_0, ↓ex_iconst, fX3_possible_1, ↓ex_istore_n, ↓s1I_c, ↓lsto_e, ↓lrmK_n, ↓lrmK_f, ct_i, ct_l, ct_r, fX3_possible_2, fX3_possible_3, fX3_possible_4, ↓ex_iload_n, ↓xI_i, ↓xIg_c, fX3_possible_5, ↓ex_bipush, fX3_possible_7, ↓ex_if_icmp_ge, ↓s2I_c, fX3_possible_10, fX3_possible_11, fX3_possible_12, fX3_possible_13, fX3_possible_15, fX3_possible_18, fX3_possible_19, ↓ex_aload_n, ↓xR_r, ↓xRg_c, fX3_possible_20, fX3_possible_21, fX3_possible_22, ↓ex_ishl, fX3_possible_23, fX3_possible_24, fX3_possible_25, fX3_possible_26, ↓ex_ior, fX3_possible_27, ↓ex_invokevirtual, ↓xc_0, ↓xc_s, ↓xc_1, ↓pk_s, ↓k_s, ↓k_n, catS_n, catS_c, rOk_c, ↓pk_f, fX3_possible_30, ↓ex_iadd, fX3_possible_31, fX3_possible_32, ↓ex_iinc, fX3_possible_35, ↓ex_goto, fX3_possible_38, fX3_possible_41, fX3_possible_44, fX3_possible_45, ↓ex_ireturn, ↓rt_i]
    exact outer 8 0 X (by omega) (Fr.rf _ _)
  next => exact hC.elim)
/-- what the sensors tell -/
def s_told (s : SV) (t : Nat → Nat) : SV := (s.n, s.F, s.T, s.W, s.D, s.H, fun v => if s.Q.testBit v = true then tN (t v) else 100, s.Q)
noncomputable def s_simulate (st x : Int32) (g : SG) : Int32 × SG := cif (inR st 1 255) (nI (hc (tau g.now (cl st) (drawN g.now.W x g.now.n))), withS (s_told g.now (tau g.now (cl st) (drawN g.now.W x g.now.n))) (s_rem g)) (-3, g)
theorem okS_tN {t : Nat} (h : t ≤ 31) : okS (tN t) := by
  unfold tN
  split
  · exact Or.inl rfl
  · exact Or.inr (Or.inr ⟨t, by omega, rfl⟩)
theorem WF_told {s : SV} (h : WF s) {t : Nat → Nat} (ht : ∀ v, v < 8 → t v ≤ 31) : WF (s_told s t) := by
  obtain ⟨h1, h2, h3, h4, h5, h6⟩ := h
  refine ⟨h1, h2, h3, h4, fun v hv => ?_, h6⟩
  show okS (if s.Q.testBit v = true then tN (t v) else 100)
  split
  · exact okS_tN (ht v hv)
  · exact Or.inr (Or.inl rfl)
noncomputable def C_X3_simulate : CT := fun As X K => match As with
  | [.ref b, .int st, .int x] => b = 0 ∧ PubI (s_simulate st x) X K
  | _ => False
def spS (k : Nat) : Prop := k = 6 ∨ k = 9
set_option maxRecDepth 20000 in
set_option maxHeartbeats 4000000 in
theorem d_X3_simulate (l : Launch) : Does l yX3_simulate (wY yX3_simulate cX3_simulate 6 (retT 0)) (rmF 3) C_X3_simulate := does_of (rt := 0) (by decide +kernel) tkX3_simulate (calls := [(108, true, 1, 3, C_X3_isStart), (60, false, 1, 3, C_X3_remember), (111, false, 2, 3, C_X3_drawOutcome), (115, false, 4, 1, C_X1_follow), (122, true, 1, 3, C_X3_timeOrNone)]) (List.forall_mem_cons.mpr ⟨cr_S (d_X3_isStart l) (by decide +kernel) (by decide +kernel) ⟨rfl, rfl⟩ ⟨Nat.le_of_ble_eq_true rfl, Nat.le_of_ble_eq_true rfl⟩, List.forall_mem_cons.mpr ⟨cr_V (d_X3_remember l) rfl (by decide +kernel) (by decide +kernel) ⟨rfl, rfl⟩ ⟨Nat.le_of_ble_eq_true rfl, Nat.le_of_ble_eq_true rfl⟩, List.forall_mem_cons.mpr ⟨cr_V (d_X3_drawOutcome l) rfl (by decide +kernel) (by decide +kernel) ⟨rfl, rfl⟩ ⟨Nat.le_of_ble_eq_true rfl, Nat.le_of_ble_eq_true rfl⟩, List.forall_mem_cons.mpr ⟨cr_NV (d_X1_follow l) rfl (by decide +kernel) (by decide +kernel) (by decide +kernel) ⟨rfl, rfl⟩ ⟨Nat.le_of_ble_eq_true rfl, Nat.le_of_ble_eq_true rfl⟩, List.forall_mem_cons.mpr ⟨cr_S (d_X3_timeOrNone l) (by decide +kernel) (by decide +kernel) ⟨rfl, rfl⟩ ⟨Nat.le_of_ble_eq_true rfl, Nat.le_of_ble_eq_true rfl⟩, fun _ h => absurd h List.not_mem_nil⟩⟩⟩⟩⟩) (by
  intro As X post hC
  unfold C_X3_simulate at hC
  split at hC
  next b st x =>
    obtain ⟨rfl, g, hR0, hpost⟩ := hC
    refine ⟨Nat.le_of_ble_eq_true rfl, fun R hR => ?_⟩
    obtain ⟨⟨p8, p9, p10, p11⟩, q8, q9, q10, q11⟩ := sh_sp
    obtain ⟨⟨p0, p1, p2, p3, p4, p5, p6⟩, q0, q1, q2, q3, q4, q5, q6⟩ := sh_base
    have hw := hR0.1.1
    have hn := hw.1
    refine go hR [(36, [0, 3, 4])] 60 ?_
    simp only [lv_args, ↓reduceIte, Nat.reduceEqDiff, Nat.reduceAdd, Nat.reduceLeDiff, reduceCtorEq, and_true, true_and, false_and, and_false, true_or, or_true, or_false, false_or, true_implies, false_implies, implies_true, not_true_eq_false, not_false_eq_true, eq_self, fx_s, ↓run_s, run_0, ↓rs_n, ↓rs_c, as_s, ls_n, ls_c, lc_s, lget_c, fX3_simulate_0, ↓ex_iload_n, ↓xI_i, ↓xIg_c, fX3_simulate_1, ↓ex_invokestatic, ↓xc_0, ↓xc_s, ↓xc_1, ↓pk_s, ↓k_s, ↓k_n, catS_n, catS_c, rOk_c, ct_i, ct_l, ct_r, ↓pk_t, fX3_simulate_4, ↓ex_ifCond_ne, ↓s1I_c, fX3_simulate_7, ↓ex_bipush, fX3_simulate_9, ↓ex_ireturn, ↓rt_i, fX3_simulate_10, ↓ex_aload_n, ↓xR_r, ↓xRg_c, fX3_simulate_11, ↓ex_invokevirtual, ↓pk_f, fX3_simulate_14, fX3_simulate_15, ↓ex_getfield, ↓s1R_c, ↓fv_3_2, fX3_simulate_18, fX3_simulate_19, ↓fv_3_0, fX3_simulate_22, fX3_simulate_23, fX3_simulate_24, fX3_simulate_25, fX3_simulate_28, fX3_simulate_31, ↓ex_iconst, fX3_simulate_32, ↓ex_istore_n, ↓lsto_e, ↓lrmK_n, ↓lrmK_f, fX3_simulate_33, fX3_simulate_34, ↓ex_istore, fX3_simulate_36, ↓ex_iload, fX3_simulate_38, fX3_simulate_40, ↓ex_if_icmp_ge, ↓s2I_c, fX3_simulate_43, fX3_simulate_44, fX3_simulate_47, ↓fv_1_0, fX3_simulate_50, fX3_simulate_52, ↓ex_iaload, ↓sRI_c, ↓scrR_n, fX3_simulate_53, fX3_simulate_56, fX3_simulate_58, fX3_simulate_59, fX3_simulate_62, ↓fv_0_6, fX3_simulate_65, fX3_simulate_67, fX3_simulate_68, fX3_simulate_71, ↓fv_0_7, fX3_simulate_74, fX3_simulate_76, ↓ex_ishr, fX3_simulate_77, fX3_simulate_78, ↓ex_iand, fX3_simulate_79, fX3_simulate_80, ↓ex_if_icmp_ne, fX3_simulate_83, fX3_simulate_85, ↓ex_goto, fX3_simulate_88, fX3_simulate_90, ↓ex_iastore, ↓sRII_c, fX3_simulate_91, fX3_simulate_93, fX3_simulate_94, ↓ex_if_icmp_eq, fX3_simulate_97, ↓ex_iinc, fX3_simulate_100, fX3_simulate_103, fX3_simulate_106, fX3_simulate_107, p0, p8, q0, q8, ↓C_X3_isStart, ↓C_X3_remember, ↓C_X3_drawOutcome, ↓C_X1_follow, b2i_0, Classical.not_not, ↓reduceIte, not_true_eq_false, not_false_eq_true, false_implies, true_implies, implies_true, and_true, true_and, and_false, false_and, or_true, true_or, or_false, false_or, Classical.not_not, ite_true, ite_false]
    unfold s_simulate at hpost
    by_cases h : inR st 1 255
    case neg => (rw [cif_f h] at hpost; simp only [h, ↓reduceIte, not_true_eq_false, not_false_eq_true, false_implies, true_implies, implies_true, and_true, true_and, and_false, false_and, or_true, true_or, or_false, false_or, Classical.not_not, ite_true, ite_false]; exact hpost X hR0 (FrM.rf X))
    rw [cif_t h] at hpost
    simp only [h, ↓reduceIte, not_true_eq_false, not_false_eq_true, false_implies, true_implies, implies_true, and_true, true_and, and_false, false_and, or_true, true_or, or_false, false_or, Classical.not_not, ite_true, ite_false]
    obtain ⟨-, h2, h3⟩ := inR_cl (lo := 1) (hi := 255) (by omega) h
    refine ⟨g, hR0, fun Y hY hFY => ?_⟩
    have hYs : RS Y 1 g.now := by have := hY.2.1; rw [rem_now] at this; exact this
    have hdl := drawN_lt g.now.W x g.now.n
    have h12 := p2_lt hn
    refine ⟨g.now, ⟨hYs, hn⟩, g.now, cl st, drawN g.now.W x g.now.n, ⟨hYs, hw.we, h3, h2, rfl, by omega⟩, fun Z hZ hT => ?_⟩
    generalize htau : tau g.now (cl st) (drawN g.now.W x g.now.n) = t at hpost hT
    have h31 : ∀ v, v < 8 → t v ≤ 31 := fun v hv => (hT v hv).2
    have key : ∀ k i V, i + k = 8 → Fr spS Y V → TM V t → (∀ v, v < i → V.1 6 v = (if g.now.Q.testBit v = true then tN (t v) else 100)) → V.1 1 7 = nI g.now.Q → R 36 [(0, .ref 0), (3, .int (nI (sumN (fun u => if t u = 31 then 0 else 1) i))), (4, .int (nI i))] [] V := by
      intro k
      induction k with
      | zero =>
        intro i V hi hF hTV hV h7
        refine go hR [(36, [0, 3, 4])] 2 ?_
        simp only [↓reduceIte, Nat.reduceEqDiff, Nat.reduceAdd, Nat.reduceLeDiff, reduceCtorEq, and_true, true_and, false_and, and_false, true_or, or_true, or_false, false_or, true_implies, false_implies, implies_true, not_true_eq_false, not_false_eq_true, eq_self, fx_s, ↓run_s, run_0, ↓rs_n, ↓rs_c, as_s, ls_n, ls_c, lc_s, lget_c, fX3_simulate_0, ↓ex_iload_n, ↓xI_i, ↓xIg_c, fX3_simulate_1, ↓ex_invokestatic, ↓xc_0, ↓xc_s, ↓xc_1, ↓pk_s, ↓k_s, ↓k_n, catS_n, catS_c, rOk_c, ct_i, ct_l, ct_r, ↓pk_t, fX3_simulate_4, ↓ex_ifCond_ne, ↓s1I_c, fX3_simulate_7, ↓ex_bipush, fX3_simulate_9, ↓ex_ireturn, ↓rt_i, fX3_simulate_10, ↓ex_aload_n, ↓xR_r, ↓xRg_c, fX3_simulate_11, ↓ex_invokevirtual, ↓pk_f, fX3_simulate_14, fX3_simulate_15, ↓ex_getfield, ↓s1R_c, ↓fv_3_2, fX3_simulate_18, fX3_simulate_19, ↓fv_3_0, fX3_simulate_22, fX3_simulate_23, fX3_simulate_24, fX3_simulate_25, fX3_simulate_28, fX3_simulate_31, ↓ex_iconst, fX3_simulate_32, ↓ex_istore_n, ↓lsto_e, ↓lrmK_n, ↓lrmK_f, fX3_simulate_33, fX3_simulate_34, ↓ex_istore, fX3_simulate_36, ↓ex_iload, fX3_simulate_38, fX3_simulate_40, ↓ex_if_icmp_ge, ↓s2I_c, fX3_simulate_43, fX3_simulate_44, fX3_simulate_47, ↓fv_1_0, fX3_simulate_50, fX3_simulate_52, ↓ex_iaload, ↓sRI_c, ↓scrR_n, fX3_simulate_53, fX3_simulate_56, fX3_simulate_58, fX3_simulate_59, fX3_simulate_62, ↓fv_0_6, fX3_simulate_65, fX3_simulate_67, fX3_simulate_68, fX3_simulate_71, ↓fv_0_7, fX3_simulate_74, fX3_simulate_76, ↓ex_ishr, fX3_simulate_77, fX3_simulate_78, ↓ex_iand, fX3_simulate_79, fX3_simulate_80, ↓ex_if_icmp_ne, fX3_simulate_83, fX3_simulate_85, ↓ex_goto, fX3_simulate_88, fX3_simulate_90, ↓ex_iastore, ↓sRII_c, fX3_simulate_91, fX3_simulate_93, fX3_simulate_94, ↓ex_if_icmp_eq, fX3_simulate_97, ↓ex_iinc, fX3_simulate_100, fX3_simulate_103, fX3_simulate_106, fX3_simulate_107, leI, nI_toInt (n := i) (by omega), tI_m5, tI_m4, tI_m3, tI_m2, tI_m1, tI_0, tI_1, tI_2, tI_3, tI_4, tI_5, tI_7, tI_8, tI_10, tI_12, tI_30, tI_31, tI_32, tI_47, tI_48, tI_57, tI_59, tI_42, tI_43, tI_45, tI_61, tI_62, tI_100, tI_120, tI_255, tI_1000]
        refine ⟨fun _ => ?_, fun z => absurd (by omega) z⟩
        refine go hR [] 2 ?_
        simp only [↓reduceIte, Nat.reduceEqDiff, Nat.reduceAdd, Nat.reduceLeDiff, reduceCtorEq, and_true, true_and, false_and, and_false, true_or, or_true, or_false, false_or, true_implies, false_implies, implies_true, not_true_eq_false, not_false_eq_true, eq_self, fx_s, ↓run_s, run_0, ↓rs_n, ↓rs_c, as_s, ls_n, ls_c, lc_s, lget_c, fX3_simulate_0, ↓ex_iload_n, ↓xI_i, ↓xIg_c, fX3_simulate_1, ↓ex_invokestatic, ↓xc_0, ↓xc_s, ↓xc_1, ↓pk_s, ↓k_s, ↓k_n, catS_n, catS_c, rOk_c, ct_i, ct_l, ct_r, ↓pk_t, fX3_simulate_4, ↓ex_ifCond_ne, ↓s1I_c, fX3_simulate_7, ↓ex_bipush, fX3_simulate_9, ↓ex_ireturn, ↓rt_i, fX3_simulate_10, ↓ex_aload_n, ↓xR_r, ↓xRg_c, fX3_simulate_11, ↓ex_invokevirtual, ↓pk_f, fX3_simulate_14, fX3_simulate_15, ↓ex_getfield, ↓s1R_c, ↓fv_3_2, fX3_simulate_18, fX3_simulate_19, ↓fv_3_0, fX3_simulate_22, fX3_simulate_23, fX3_simulate_24, fX3_simulate_25, fX3_simulate_28, fX3_simulate_31, ↓ex_iconst, fX3_simulate_32, ↓ex_istore_n, ↓lsto_e, ↓lrmK_n, ↓lrmK_f, fX3_simulate_33, fX3_simulate_34, ↓ex_istore, fX3_simulate_36, ↓ex_iload, fX3_simulate_38, fX3_simulate_40, ↓ex_if_icmp_ge, ↓s2I_c, fX3_simulate_43, fX3_simulate_44, fX3_simulate_47, ↓fv_1_0, fX3_simulate_50, fX3_simulate_52, ↓ex_iaload, ↓sRI_c, ↓scrR_n, fX3_simulate_53, fX3_simulate_56, fX3_simulate_58, fX3_simulate_59, fX3_simulate_62, ↓fv_0_6, fX3_simulate_65, fX3_simulate_67, fX3_simulate_68, fX3_simulate_71, ↓fv_0_7, fX3_simulate_74, fX3_simulate_76, ↓ex_ishr, fX3_simulate_77, fX3_simulate_78, ↓ex_iand, fX3_simulate_79, fX3_simulate_80, ↓ex_if_icmp_ne, fX3_simulate_83, fX3_simulate_85, ↓ex_goto, fX3_simulate_88, fX3_simulate_90, ↓ex_iastore, ↓sRII_c, fX3_simulate_91, fX3_simulate_93, fX3_simulate_94, ↓ex_if_icmp_eq, fX3_simulate_97, ↓ex_iinc, fX3_simulate_100, fX3_simulate_103, fX3_simulate_106, fX3_simulate_107]
        rw [show i = 8 by omega]
        have hp := hpost V
        -- first the spread's cells, then the present state's
        have hF9 : ∀ q, ¬ spS q → V.1 q = Y.1 q ∧ V.2.1 q = Y.2.1 q := fun q hq => ⟨hF.1 q hq, hF.2.1 q hq⟩
        obtain ⟨o1, c1, c2, ⟨r, c3, c4⟩, c5, c6⟩ := hY
        refine hp ⟨⟨WF_told hw h31, o1.2.1, o1.2.2.1, o1.2.2.2⟩, ?_, ?_, ⟨r, fun j hj => by rw [hF.2.2]; exact c3 j hj, fun j hj => ?_⟩, ?_, fun i hi => ?_⟩ (fun q hq => ?_)
        · obtain ⟨d1, d2, d3, d4, d5⟩ := hYs
          have e : ∀ q, q = 1 ∨ q = 2 ∨ q = 3 ∨ q = 4 ∨ q = 5 → V.1 q = Y.1 q := fun q hq => hF.1 q (by unfold spS; omega)
          refine ⟨by rw [e 1 (by omega)]; exact d1, fun q hq => ?_, by rw [e 1 (by omega)]; exact d3, fun v hv => hV v (by omega), by rw [e 1 (by omega)]; exact d5⟩
          show V.1 2 q = _ ∧ V.1 3 q = _ ∧ V.1 4 q = _ ∧ V.1 5 q = _
          rw [e 2 (by omega), e 3 (by omega), e 4 (by omega), e 5 (by omega)]
          exact d2 q hq
        · rw [hF.1 0 (by unfold spS; omega)]; exact c2
        · refine (c4 j hj).fr1 (fun q hq => hF.1 q ?_)
          have := pastR_hi r j
          unfold scn at hq
          unfold spS
          omega
        · rw [hF.1 12 (by unfold spS; omega)]; exact c5
        · rw [hF.1 13 (by unfold spS; omega)]; exact c6 i hi
        · have := hF9 q (by unfold spS; omega)
          have := hFY.M q hq
          exact ⟨by rw [(hF9 q (by unfold spS; omega)).1]; exact this.1, by rw [(hF9 q (by unfold spS; omega)).2]; exact this.2⟩
      | succ k ih =>
        intro i V hi hF hTV hV h7
        refine go hR [(36, [0, 3, 4])] 2 ?_
        simp only [↓reduceIte, Nat.reduceEqDiff, Nat.reduceAdd, Nat.reduceLeDiff, reduceCtorEq, and_true, true_and, false_and, and_false, true_or, or_true, or_false, false_or, true_implies, false_implies, implies_true, not_true_eq_false, not_false_eq_true, eq_self, fx_s, ↓run_s, run_0, ↓rs_n, ↓rs_c, as_s, ls_n, ls_c, lc_s, lget_c, fX3_simulate_0, ↓ex_iload_n, ↓xI_i, ↓xIg_c, fX3_simulate_1, ↓ex_invokestatic, ↓xc_0, ↓xc_s, ↓xc_1, ↓pk_s, ↓k_s, ↓k_n, catS_n, catS_c, rOk_c, ct_i, ct_l, ct_r, ↓pk_t, fX3_simulate_4, ↓ex_ifCond_ne, ↓s1I_c, fX3_simulate_7, ↓ex_bipush, fX3_simulate_9, ↓ex_ireturn, ↓rt_i, fX3_simulate_10, ↓ex_aload_n, ↓xR_r, ↓xRg_c, fX3_simulate_11, ↓ex_invokevirtual, ↓pk_f, fX3_simulate_14, fX3_simulate_15, ↓ex_getfield, ↓s1R_c, ↓fv_3_2, fX3_simulate_18, fX3_simulate_19, ↓fv_3_0, fX3_simulate_22, fX3_simulate_23, fX3_simulate_24, fX3_simulate_25, fX3_simulate_28, fX3_simulate_31, ↓ex_iconst, fX3_simulate_32, ↓ex_istore_n, ↓lsto_e, ↓lrmK_n, ↓lrmK_f, fX3_simulate_33, fX3_simulate_34, ↓ex_istore, fX3_simulate_36, ↓ex_iload, fX3_simulate_38, fX3_simulate_40, ↓ex_if_icmp_ge, ↓s2I_c, fX3_simulate_43, fX3_simulate_44, fX3_simulate_47, ↓fv_1_0, fX3_simulate_50, fX3_simulate_52, ↓ex_iaload, ↓sRI_c, ↓scrR_n, fX3_simulate_53, fX3_simulate_56, fX3_simulate_58, fX3_simulate_59, fX3_simulate_62, ↓fv_0_6, fX3_simulate_65, fX3_simulate_67, fX3_simulate_68, fX3_simulate_71, ↓fv_0_7, fX3_simulate_74, fX3_simulate_76, ↓ex_ishr, fX3_simulate_77, fX3_simulate_78, ↓ex_iand, fX3_simulate_79, fX3_simulate_80, ↓ex_if_icmp_ne, fX3_simulate_83, fX3_simulate_85, ↓ex_goto, fX3_simulate_88, fX3_simulate_90, ↓ex_iastore, ↓sRII_c, fX3_simulate_91, fX3_simulate_93, fX3_simulate_94, ↓ex_if_icmp_eq, fX3_simulate_97, ↓ex_iinc, fX3_simulate_100, fX3_simulate_103, fX3_simulate_106, fX3_simulate_107, leI, nI_toInt (n := i) (by omega), tI_m5, tI_m4, tI_m3, tI_m2, tI_m1, tI_0, tI_1, tI_2, tI_3, tI_4, tI_5, tI_7, tI_8, tI_10, tI_12, tI_30, tI_31, tI_32, tI_47, tI_48, tI_57, tI_59, tI_42, tI_43, tI_45, tI_61, tI_62, tI_100, tI_120, tI_255, tI_1000]
        refine ⟨fun z => absurd z (by omega), fun _ => ?_⟩
        obtain ⟨t1, t2⟩ := hTV i (by omega)
        have hQ := hw.2.2.2.2.2
        have htn : (if nI (t i) = 31 then (-1 : Int32) else nI (t i)) = tN (t i) := by
          unfold tN
          by_cases z : t i = 31
          · rw [if_pos z, if_pos (by rw [z]; rfl)]
          · have hz : ¬ nI (t i) = 31 := fun y => z (by rw [eq31N (by omega)] at y; exact y)
            rw [if_neg z, if_neg hz]
        have hm1 : (tN (t i) = -1) = (t i = 31) := by
          unfold tN
          by_cases z : t i = 31
          · rw [if_pos z]; simp [z]
          · rw [if_neg z]
            have : ¬ nI (t i) = -1 := fun y => by
              have := (eqI _ _).mp y
              rw [nI_toInt (by omega), tI_m1] at this
              omega
            simp [z, this]
        have hv : vp_in (nI i) 8 := vp_inN (by omega) (by omega)
        have fin : ∀ (y : Int32), y = (if g.now.Q.testBit i = true then tN (t i) else 100) → (t i = 31 → R 36 [(0, .ref 0), (3, .int (nI (sumN (fun u => if t u = 31 then 0 else 1) i))), (4, .int (nI (i + 1)))] [] (sI V 6 i y)) ∧ (¬ t i = 31 → R 36 [(0, .ref 0), (3, .int (nI (sumN (fun u => if t u = 31 then 0 else 1) i + 1))), (4, .int (nI (i + 1)))] [] (sI V 6 i y)) := fun y hy => by
          have hi1 := ih (i + 1) (sI V 6 i y) (by omega) (hF.pI (Or.inl rfl) _ _) (fun v hv => by
            have := hTV v hv
            exact ⟨by simp [sI_1, this.1], this.2⟩) (fun v hv => by
            by_cases e : v = i
            · subst e; simp [sI_1, upd_a, hy]
            · simp only [sI_1, if_true, upd_a, e, if_false]
              exact hV v (by omega)) (by simpa [sI_1] using h7)
          have hs : sumN (fun u => if t u = 31 then 0 else 1) (i + 1) = sumN (fun u => if t u = 31 then 0 else 1) i + (if t i = 31 then 0 else 1) := rfl
          rw [hs] at hi1
          exact ⟨fun z => by rw [if_pos z] at hi1; exact hi1, fun z => by rw [if_neg z] at hi1; exact hi1⟩
        refine go hR [(36, [0, 3, 4])] 60 ?_
        simp only [↓reduceIte, Nat.reduceEqDiff, Nat.reduceAdd, Nat.reduceLeDiff, reduceCtorEq, and_true, true_and, false_and, and_false, true_or, or_true, or_false, false_or, true_implies, false_implies, implies_true, not_true_eq_false, not_false_eq_true, eq_self, fx_s, ↓run_s, run_0, ↓rs_n, ↓rs_c, as_s, ls_n, ls_c, lc_s, lget_c, fX3_simulate_0, ↓ex_iload_n, ↓xI_i, ↓xIg_c, fX3_simulate_1, ↓ex_invokestatic, ↓xc_0, ↓xc_s, ↓xc_1, ↓pk_s, ↓k_s, ↓k_n, catS_n, catS_c, rOk_c, ct_i, ct_l, ct_r, ↓pk_t, fX3_simulate_4, ↓ex_ifCond_ne, ↓s1I_c, fX3_simulate_7, ↓ex_bipush, fX3_simulate_9, ↓ex_ireturn, ↓rt_i, fX3_simulate_10, ↓ex_aload_n, ↓xR_r, ↓xRg_c, fX3_simulate_11, ↓ex_invokevirtual, ↓pk_f, fX3_simulate_14, fX3_simulate_15, ↓ex_getfield, ↓s1R_c, ↓fv_3_2, fX3_simulate_18, fX3_simulate_19, ↓fv_3_0, fX3_simulate_22, fX3_simulate_23, fX3_simulate_24, fX3_simulate_25, fX3_simulate_28, fX3_simulate_31, ↓ex_iconst, fX3_simulate_32, ↓ex_istore_n, ↓lsto_e, ↓lrmK_n, ↓lrmK_f, fX3_simulate_33, fX3_simulate_34, ↓ex_istore, fX3_simulate_36, ↓ex_iload, fX3_simulate_38, fX3_simulate_40, ↓ex_if_icmp_ge, ↓s2I_c, fX3_simulate_43, fX3_simulate_44, fX3_simulate_47, ↓fv_1_0, fX3_simulate_50, fX3_simulate_52, ↓ex_iaload, ↓sRI_c, ↓scrR_n, fX3_simulate_53, fX3_simulate_56, fX3_simulate_58, fX3_simulate_59, fX3_simulate_62, ↓fv_0_6, fX3_simulate_65, fX3_simulate_67, fX3_simulate_68, fX3_simulate_71, ↓fv_0_7, fX3_simulate_74, fX3_simulate_76, ↓ex_ishr, fX3_simulate_77, fX3_simulate_78, ↓ex_iand, fX3_simulate_79, fX3_simulate_80, ↓ex_if_icmp_ne, fX3_simulate_83, fX3_simulate_85, ↓ex_goto, fX3_simulate_88, fX3_simulate_90, ↓ex_iastore, ↓sRII_c, fX3_simulate_91, fX3_simulate_93, fX3_simulate_94, ↓ex_if_icmp_eq, fX3_simulate_97, ↓ex_iinc, fX3_simulate_100, fX3_simulate_103, fX3_simulate_106, fX3_simulate_107, p0, p1, p6, p8, p9, q0, q1, q6, q8, q9, ↓C_X3_timeOrNone, clampN (n := i) (by omega), t1, htn, h7, bit1 (m := g.now.Q) (e := i) (by omega) (by omega), hm1, add1N, ↓reduceIte, not_true_eq_false, not_false_eq_true, false_implies, true_implies, implies_true, and_true, true_and, and_false, false_and, or_true, true_or, or_false, false_or, Classical.not_not, ite_true, ite_false]
        refine ⟨hv, fun z => ⟨hv, (fin 100 (by rw [if_neg z])).1, (fin 100 (by rw [if_neg z])).2⟩, fun z => ⟨hv, (fin _ (by rw [if_pos z])).1, (fin _ (by rw [if_pos z])).2⟩⟩
    refine key 8 0 Z (by omega) (hZ.mono (fun q hq => Or.inr hq)) hT (fun v hv => absurd hv (by omega)) ?_
    rw [hZ.1 1 (by omega)]
    exact hYs.2.2.2.2
  next => exact hC.elim)
end PUB7
