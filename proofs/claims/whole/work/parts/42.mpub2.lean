section MPUB2
theorem sLL (X : XT) (k j : Nat) (a b : Int64) : sL (sL X k j a) k j b = sL X k j b := by
  refine Prod.ext rfl (Prod.ext (funext fun q => ?_) rfl)
  show (if q = k then vp_updL ((sL X k j a).2.1 k) j b else (sL X k j a).2.1 q) = (if q = k then vp_updL (X.2.1 k) j b else X.2.1 q)
  by_cases h : q = k
  · rw [if_pos h, if_pos h]
    funext i
    rw [updL_a, updL_a, sL_2, if_pos rfl, updL_a]
    by_cases z : i = j
    · rw [if_pos z, if_pos z]
    · rw [if_neg z, if_neg z, if_neg z]
  · rw [if_neg h, if_neg h, sL_2, if_neg h]
noncomputable def C_X4_removeEdge : CT := fun As X K => match As with
  | [.ref b, .int e] => b = 51 ∧ PubMI (s_removeEdge e) X K
  | _ => False
set_option maxRecDepth 20000 in
set_option maxHeartbeats 4000000 in
theorem d_X4_removeEdge (l : Launch) : Does l yX4_removeEdge (wY yX4_removeEdge cX4_removeEdge 3 (retT 0)) (rmF 2) C_X4_removeEdge := does_of (rt := 0) (by decide +kernel) tkX4_removeEdge (calls := [(64, false, 2, 4, C_X4_isEdge), (57, false, 1, 4, C_X4_saves), (46, false, 3, 4, C_X4_of), (60, false, 6, 4, C_X4_lays)]) (List.forall_mem_cons.mpr ⟨cr_V (d_X4_isEdge l) rfl (by decide +kernel) (by decide +kernel) ⟨rfl, rfl⟩ ⟨Nat.le_of_ble_eq_true rfl, Nat.le_of_ble_eq_true rfl⟩, List.forall_mem_cons.mpr ⟨cr_V (d_X4_saves l) rfl (by decide +kernel) (by decide +kernel) ⟨rfl, rfl⟩ ⟨Nat.le_of_ble_eq_true rfl, Nat.le_of_ble_eq_true rfl⟩, List.forall_mem_cons.mpr ⟨cr_V (d_X4_of l) rfl (by decide +kernel) (by decide +kernel) ⟨rfl, rfl⟩ ⟨Nat.le_of_ble_eq_true rfl, Nat.le_of_ble_eq_true rfl⟩, List.forall_mem_cons.mpr ⟨cr_V (d_X4_lays l) rfl (by decide +kernel) (by decide +kernel) ⟨rfl, rfl⟩ ⟨Nat.le_of_ble_eq_true rfl, Nat.le_of_ble_eq_true rfl⟩, fun _ h => absurd h List.not_mem_nil⟩⟩⟩⟩) (by
  intro As X post hC
  unfold C_X4_removeEdge at hC
  split at hC
  next b e =>
    obtain ⟨rfl, g, hR0, hpost⟩ := hC
    refine ⟨Nat.le_of_ble_eq_true rfl, fun R hR => ?_⟩
    obtain ⟨⟨p1, p2, p3, p4, p5, p6, p7⟩, q1, q2, q3, q4, q5, q6, q7⟩ := sh_m
    obtain ⟨⟨w1, w2, w3, w4⟩, m1, m2, m3, m4, m5, m6⟩ := id hR0
    have hn := w1.1
    have ok := fun {r : Int32} => pubM_same (r := r) hR0 hpost
    refine go hR [(17, [0, 2])] 60 ?_
    simp only [lv_args, ↓reduceIte, Nat.reduceEqDiff, Nat.reduceAdd, Nat.reduceLeDiff, reduceCtorEq, and_true, true_and, false_and, and_false, true_or, or_true, or_false, false_or, true_implies, false_implies, implies_true, not_true_eq_false, not_false_eq_true, eq_self, fx_s, ↓run_s, run_0, ↓rs_n, ↓rs_c, as_s, ls_n, ls_c, lc_s, lget_c, fX4_removeEdge_0, ↓ex_aload_n, ↓xR_r, ↓xRg_c, fX4_removeEdge_1, ↓ex_iload_n, ↓xI_i, ↓xIg_c, fX4_removeEdge_2, ↓ex_invokevirtual, ↓xc_0, ↓xc_s, ↓xc_1, ↓pk_s, ↓k_s, ↓k_n, catS_n, catS_c, rOk_c, ct_i, ct_l, ct_r, ↓pk_f, fX4_removeEdge_5, ↓ex_ifCond_ne, ↓s1I_c, fX4_removeEdge_8, ↓ex_bipush, fX4_removeEdge_10, ↓ex_ireturn, ↓rt_i, fX4_removeEdge_11, fX4_removeEdge_12, fX4_removeEdge_15, fX4_removeEdge_16, ↓ex_istore_n, ↓lsto_e, ↓lrmK_n, ↓lrmK_f, fX4_removeEdge_17, fX4_removeEdge_18, ↓ex_iconst, fX4_removeEdge_19, ↓ex_iadd, ↓s2I_c, fX4_removeEdge_20, fX4_removeEdge_21, ↓ex_getfield, ↓s1R_c, ↓fv_4_0, fX4_removeEdge_24, fX4_removeEdge_25, ↓ex_iaload, ↓sRI_c, ↓scrR_n, fX4_removeEdge_26, ↓ex_if_icmp_ge, fX4_removeEdge_29, fX4_removeEdge_30, fX4_removeEdge_31, fX4_removeEdge_32, fX4_removeEdge_33, fX4_removeEdge_34, fX4_removeEdge_35, fX4_removeEdge_36, fX4_removeEdge_39, fX4_removeEdge_40, fX4_removeEdge_41, fX4_removeEdge_42, fX4_removeEdge_43, fX4_removeEdge_44, fX4_removeEdge_47, fX4_removeEdge_48, fX4_removeEdge_49, fX4_removeEdge_50, fX4_removeEdge_51, fX4_removeEdge_52, fX4_removeEdge_55, fX4_removeEdge_56, fX4_removeEdge_57, fX4_removeEdge_58, fX4_removeEdge_59, fX4_removeEdge_60, fX4_removeEdge_63, fX4_removeEdge_66, ↓ex_iinc, fX4_removeEdge_69, ↓ex_goto, fX4_removeEdge_72, fX4_removeEdge_73, fX4_removeEdge_76, fX4_removeEdge_77, ↓ex_dup2, fX4_removeEdge_78, fX4_removeEdge_79, fX4_removeEdge_80, ↓ex_isub, fX4_removeEdge_81, ↓ex_iastore, ↓sRII_c, fX4_removeEdge_82, fX4_removeEdge_83, fX4_removeEdge_86, fX4_removeEdge_87, fX4_removeEdge_88, p1, p2, q1, q2, ↓C_X4_isEdge, ↓C_X4_saves, b2i_0, Classical.not_not, ↓reduceIte, not_true_eq_false, not_false_eq_true, false_implies, true_implies, implies_true, and_true, true_and, and_false, false_and, or_true, true_or, or_false, false_or, Classical.not_not, ite_true, ite_false]
    refine ⟨g.now, ⟨m1, hn⟩, ?_⟩
    by_cases he : 0 ≤ e.toInt ∧ e.toInt < (g.now.n : Int)
    case neg => (simp only [he, ↓reduceIte, not_true_eq_false, not_false_eq_true, false_implies, true_implies, implies_true, and_true, true_and, and_false, false_and, or_true, true_or, or_false, false_or, Classical.not_not, ite_true, ite_false]; exact ok (by unfold s_removeEdge; rw [cif_f he]))
    simp only [he, ↓reduceIte, not_true_eq_false, not_false_eq_true, false_implies, true_implies, implies_true, and_true, true_and, and_false, false_and, or_true, true_or, or_false, false_or, Classical.not_not, ite_true, ite_false]
    obtain ⟨-, he2, he3⟩ := inR_cl (lo := 0) (hi := 12) (by omega) (show inR e 0 12 from ⟨he.1, by omega⟩)
    have he4 : cl e < g.now.n := by have := nI_toInt (n := cl e) (by omega); rw [← he3] at this; omega
    have hsp : s_removeEdge e g = (nI (g.now.n - 1), withS (s_drop g.now (cl e)) (s_rem g)) := by unfold s_removeEdge; rw [cif_t he]
    rw [hsp] at hpost
    refine ⟨g, hR0, fun Y hY hFY hY2 => ?_⟩
    have hYs := hY.remNow
    obtain ⟨k, hk⟩ : ∃ k, k = cl e := ⟨_, rfl⟩
    rw [← hk] at he4 hpost he3
    rw [he3]
    obtain ⟨s, hs⟩ : ∃ s, s = g.now := ⟨_, rfl⟩
    rw [← hs] at hYs he4 hpost hn w1
    have key : ∀ q i Z, i + q = s.n - 1 → k ≤ i → Fr (fun k => k = 52) Y Z → Z.1 52 0 = nI s.n → Z.1 52 1 = nI s.H → Z.1 52 2 = nI s.Q → (∀ v, v < 8 → Z.1 52 (51 + v) = s.S v) → (∀ p, 59 ≤ p → Z.1 52 p = Y.1 52 p) →
        (∀ e, e < i → Z.1 52 (3 + 4 * e) = nI (dn s.F k e) ∧ Z.1 52 (3 + 4 * e + 1) = nI (dn s.T k e) ∧ Z.1 52 (3 + 4 * e + 2) = nI (dn s.W k e) ∧ Z.1 52 (3 + 4 * e + 3) = nI (dn s.D k e)) →
        (∀ e, i < e → e < s.n → Z.1 52 (3 + 4 * e) = nI (s.F e) ∧ Z.1 52 (3 + 4 * e + 1) = nI (s.T e) ∧ Z.1 52 (3 + 4 * e + 2) = nI (s.W e) ∧ Z.1 52 (3 + 4 * e + 3) = nI (s.D e)) → R 17 [(0, .ref 51), (2, .int (nI i))] [] Z := by
      intro q
      induction q with
      | zero =>
        intro i Z hi hki hF z0 z1 z2 z5 zp zlo zhi
        refine go hR [(17, [0, 2])] 80 ?_
        have e1 : nI s.n - 1 = nI (s.n - 1) := pk_sub (a := s.n) (b := 1) (by omega)
        simp only [↓reduceIte, Nat.reduceEqDiff, Nat.reduceAdd, Nat.reduceLeDiff, reduceCtorEq, and_true, true_and, false_and, and_false, true_or, or_true, or_false, false_or, true_implies, false_implies, implies_true, not_true_eq_false, not_false_eq_true, eq_self, fx_s, ↓run_s, run_0, ↓rs_n, ↓rs_c, as_s, ls_n, ls_c, lc_s, lget_c, fX4_removeEdge_0, ↓ex_aload_n, ↓xR_r, ↓xRg_c, fX4_removeEdge_1, ↓ex_iload_n, ↓xI_i, ↓xIg_c, fX4_removeEdge_2, ↓ex_invokevirtual, ↓xc_0, ↓xc_s, ↓xc_1, ↓pk_s, ↓k_s, ↓k_n, catS_n, catS_c, rOk_c, ct_i, ct_l, ct_r, ↓pk_f, fX4_removeEdge_5, ↓ex_ifCond_ne, ↓s1I_c, fX4_removeEdge_8, ↓ex_bipush, fX4_removeEdge_10, ↓ex_ireturn, ↓rt_i, fX4_removeEdge_11, fX4_removeEdge_12, fX4_removeEdge_15, fX4_removeEdge_16, ↓ex_istore_n, ↓lsto_e, ↓lrmK_n, ↓lrmK_f, fX4_removeEdge_17, fX4_removeEdge_18, ↓ex_iconst, fX4_removeEdge_19, ↓ex_iadd, ↓s2I_c, fX4_removeEdge_20, fX4_removeEdge_21, ↓ex_getfield, ↓s1R_c, ↓fv_4_0, fX4_removeEdge_24, fX4_removeEdge_25, ↓ex_iaload, ↓sRI_c, ↓scrR_n, fX4_removeEdge_26, ↓ex_if_icmp_ge, fX4_removeEdge_29, fX4_removeEdge_30, fX4_removeEdge_31, fX4_removeEdge_32, fX4_removeEdge_33, fX4_removeEdge_34, fX4_removeEdge_35, fX4_removeEdge_36, fX4_removeEdge_39, fX4_removeEdge_40, fX4_removeEdge_41, fX4_removeEdge_42, fX4_removeEdge_43, fX4_removeEdge_44, fX4_removeEdge_47, fX4_removeEdge_48, fX4_removeEdge_49, fX4_removeEdge_50, fX4_removeEdge_51, fX4_removeEdge_52, fX4_removeEdge_55, fX4_removeEdge_56, fX4_removeEdge_57, fX4_removeEdge_58, fX4_removeEdge_59, fX4_removeEdge_60, fX4_removeEdge_63, fX4_removeEdge_66, ↓ex_iinc, fX4_removeEdge_69, ↓ex_goto, fX4_removeEdge_72, fX4_removeEdge_73, fX4_removeEdge_76, fX4_removeEdge_77, ↓ex_dup2, fX4_removeEdge_78, fX4_removeEdge_79, fX4_removeEdge_80, ↓ex_isub, fX4_removeEdge_81, ↓ex_iastore, ↓sRII_c, fX4_removeEdge_82, fX4_removeEdge_83, fX4_removeEdge_86, fX4_removeEdge_87, fX4_removeEdge_88, p1, p2, q1, q2, vr_0, clamp0, z0, add1N, leN (a := s.n) (b := i + 1) (by omega) (by omega), e1, sI_1, upd_a, ↓reduceIte, not_true_eq_false, not_false_eq_true, false_implies, true_implies, implies_true, and_true, true_and, and_false, false_and, or_true, true_or, or_false, false_or, Classical.not_not, ite_true, ite_false]
        refine ⟨fun _ => ?_, fun z => absurd (by omega) z⟩
        have hfr : Fr (fun k => k = 52) Y (sI Z 52 0 (nI (s.n - 1))) := Fr.pI (P := fun k => k = 52) hF rfl _ _
        refine hpost _ (hY.setNow hfr.m52 hY2 ⟨?_, ?_, ?_, fun e he => ?_, fun v hv => ?_⟩ (WF_drop w1 he4) (fun p hp => ?_)) (hFY.c51.tr hfr.c52)
        · simp [sI_1, upd_a, s_drop]
        · simp [sI_1, upd_a, s_drop, z1]
        · simp [sI_1, upd_a, s_drop, z2]
        · have he' : e < s.n - 1 := he
          have := zlo e (by omega)
          rw [sI_1, if_pos rfl, upd_a, upd_a, upd_a, upd_a, if_neg (by omega), if_neg (by omega), if_neg (by omega), if_neg (by omega)]
          exact this
        · rw [sI_1, if_pos rfl, upd_a, if_neg (by omega)]; exact z5 v hv
        · rw [sI_1, if_pos rfl, upd_a, if_neg (by omega)]; exact zp p hp
      | succ q ih =>
        intro i Z hi hki hF z0 z1 z2 z5 zp zlo zhi
        refine go hR [(17, [0, 2])] 80 ?_
        obtain ⟨g1, g2, g3, g4⟩ := zhi (i + 1) (by omega) (by omega)
        simp only [↓reduceIte, Nat.reduceEqDiff, Nat.reduceAdd, Nat.reduceLeDiff, reduceCtorEq, and_true, true_and, false_and, and_false, true_or, or_true, or_false, false_or, true_implies, false_implies, implies_true, not_true_eq_false, not_false_eq_true, eq_self, fx_s, ↓run_s, run_0, ↓rs_n, ↓rs_c, as_s, ls_n, ls_c, lc_s, lget_c, fX4_removeEdge_0, ↓ex_aload_n, ↓xR_r, ↓xRg_c, fX4_removeEdge_1, ↓ex_iload_n, ↓xI_i, ↓xIg_c, fX4_removeEdge_2, ↓ex_invokevirtual, ↓xc_0, ↓xc_s, ↓xc_1, ↓pk_s, ↓k_s, ↓k_n, catS_n, catS_c, rOk_c, ct_i, ct_l, ct_r, ↓pk_f, fX4_removeEdge_5, ↓ex_ifCond_ne, ↓s1I_c, fX4_removeEdge_8, ↓ex_bipush, fX4_removeEdge_10, ↓ex_ireturn, ↓rt_i, fX4_removeEdge_11, fX4_removeEdge_12, fX4_removeEdge_15, fX4_removeEdge_16, ↓ex_istore_n, ↓lsto_e, ↓lrmK_n, ↓lrmK_f, fX4_removeEdge_17, fX4_removeEdge_18, ↓ex_iconst, fX4_removeEdge_19, ↓ex_iadd, ↓s2I_c, fX4_removeEdge_20, fX4_removeEdge_21, ↓ex_getfield, ↓s1R_c, ↓fv_4_0, fX4_removeEdge_24, fX4_removeEdge_25, ↓ex_iaload, ↓sRI_c, ↓scrR_n, fX4_removeEdge_26, ↓ex_if_icmp_ge, fX4_removeEdge_29, fX4_removeEdge_30, fX4_removeEdge_31, fX4_removeEdge_32, fX4_removeEdge_33, fX4_removeEdge_34, fX4_removeEdge_35, fX4_removeEdge_36, fX4_removeEdge_39, fX4_removeEdge_40, fX4_removeEdge_41, fX4_removeEdge_42, fX4_removeEdge_43, fX4_removeEdge_44, fX4_removeEdge_47, fX4_removeEdge_48, fX4_removeEdge_49, fX4_removeEdge_50, fX4_removeEdge_51, fX4_removeEdge_52, fX4_removeEdge_55, fX4_removeEdge_56, fX4_removeEdge_57, fX4_removeEdge_58, fX4_removeEdge_59, fX4_removeEdge_60, fX4_removeEdge_63, fX4_removeEdge_66, ↓ex_iinc, fX4_removeEdge_69, ↓ex_goto, fX4_removeEdge_72, fX4_removeEdge_73, fX4_removeEdge_76, fX4_removeEdge_77, ↓ex_dup2, fX4_removeEdge_78, fX4_removeEdge_79, fX4_removeEdge_80, ↓ex_isub, fX4_removeEdge_81, ↓ex_iastore, ↓sRII_c, fX4_removeEdge_82, fX4_removeEdge_83, fX4_removeEdge_86, fX4_removeEdge_87, fX4_removeEdge_88, p1, p2, q1, q2, vr_0, clamp0, cl_1, cl_2, cl_3, vq_0, vq_1, vq_2, vq_3, z0, add1N, leN (a := s.n) (b := i + 1) (by omega) (by omega), ↓C_X4_of, ↓C_X4_lays, clampN (n := i) (by omega), clampN (n := i + 1) (by omega), Nat.add_zero, g1, g2, g3, g4, ↓reduceIte, not_true_eq_false, not_false_eq_true, false_implies, true_implies, implies_true, and_true, true_and, and_false, false_and, or_true, true_or, or_false, false_or, Classical.not_not, ite_true, ite_false]
        have v1 : vp_in (nI i) 12 := vp_inN (by omega) (by omega)
        have v2 : vp_in (nI (i + 1)) 12 := vp_inN (by omega) (by omega)
        refine ⟨fun z => absurd z (by omega), fun _ => ⟨v2, v2, v2, v2, v1, ih (i + 1) _ (by omega) (by omega) (hF.tr (layX_fr _ _ _ _ _ _)) ?_ ?_ ?_ (fun v hv => ?_) (fun p hp => ?_) (fun e he => ?_) (fun e he he2 => ?_)⟩⟩
        · rw [layX_52, layF_lo _ _ _ _ _ _ (by omega)]; exact z0
        · rw [layX_52, layF_lo _ _ _ _ _ _ (by omega)]; exact z1
        · rw [layX_52, layF_lo _ _ _ _ _ _ (by omega)]; exact z2
        · rw [layX_52, layF_hi _ _ _ _ _ _ (by omega)]; exact z5 v hv
        · rw [layX_52, layF_hi _ _ _ _ _ _ (by omega)]; exact zp p hp
        · rw [layX_52]
          by_cases e1 : e = i
          · subst e1
            have d1 : ¬ e < k := by omega
            unfold dn
            rw [if_neg d1, if_neg d1, if_neg d1, if_neg d1]
            exact layF_e _ _ _ _ _ _
          · obtain ⟨o1, o2, o3, o4⟩ := layF_o (Z.1 52) i e (nI (s.F (i + 1))) (nI (s.T (i + 1))) (nI (s.W (i + 1))) (nI (s.D (i + 1))) e1
            rw [o1, o2, o3, o4]
            exact zlo e (by omega)
        · rw [layX_52]
          obtain ⟨o1, o2, o3, o4⟩ := layF_o (Z.1 52) i e (nI (s.F (i + 1))) (nI (s.T (i + 1))) (nI (s.W (i + 1))) (nI (s.D (i + 1))) (by omega)
          rw [o1, o2, o3, o4]
          exact zhi e (by omega) he2
    refine key (s.n - 1 - k) k Y (by omega) (by omega) (Fr.rf _ _) hYs.1 hYs.2.1 hYs.2.2.1 hYs.2.2.2.2 (fun p _ => rfl) (fun e he => ?_) (fun e he he2 => hYs.2.2.2.1 e he2)
    have := hYs.2.2.2.1 e (by omega)
    unfold dn
    rw [if_pos he, if_pos he, if_pos he, if_pos he]
    exact this
  next => exact hC.elim)
noncomputable def C_X4_undo : CT := fun As X K => match As with
  | [.ref b] => b = 51 ∧ PubMI s_undo X K
  | _ => False
set_option maxRecDepth 20000 in
set_option maxHeartbeats 4000000 in
theorem d_X4_undo (l : Launch) : Does l yX4_undo (wY yX4_undo cX4_undo 1 (retT 0)) (rmF 1) C_X4_undo := does_of (rt := 0) (by decide +kernel) tkX4_undo (calls := [(34, false, 3, 4, C_X4_copies)]) (List.forall_mem_cons.mpr ⟨cr_V (d_X4_copies l) rfl (by decide +kernel) (by decide +kernel) ⟨rfl, rfl⟩ ⟨Nat.le_of_ble_eq_true rfl, Nat.le_of_ble_eq_true rfl⟩, fun _ h => absurd h List.not_mem_nil⟩) (by
  intro As X post hC
  unfold C_X4_undo at hC
  split at hC
  next b =>
    obtain ⟨rfl, g, hR0, hpost⟩ := hC
    refine ⟨Nat.le_of_ble_eq_true rfl, fun R hR => ?_⟩
    obtain ⟨⟨p1, p2, p3, p4, p5, p6, p7⟩, q1, q2, q3, q4, q5, q6, q7⟩ := sh_m
    obtain ⟨⟨w1, w2, w3, w4⟩, m1, m2, m3, m4, m5, m6⟩ := id hR0
    have ok := fun {r : Int32} => pubM_same (r := r) hR0 hpost
    have e0 : (nI g.kept = 0) = (g.kept = 0) := propext (eqN (b := 0) (by omega) (by decide))
    refine go hR [] 60 ?_
    simp only [lv_args, ↓reduceIte, Nat.reduceEqDiff, Nat.reduceAdd, Nat.reduceLeDiff, reduceCtorEq, and_true, true_and, false_and, and_false, true_or, or_true, or_false, false_or, true_implies, false_implies, implies_true, not_true_eq_false, not_false_eq_true, eq_self, fx_s, ↓run_s, run_0, ↓rs_n, ↓rs_c, as_s, ls_n, ls_c, lc_s, lget_c, fX4_undo_0, ↓ex_aload_n, ↓xR_r, ↓xRg_c, fX4_undo_1, ↓ex_getfield, ↓s1R_c, ↓fv_4_1, fX4_undo_4, ↓ex_ifCond_ne, ↓s1I_c, fX4_undo_7, ↓ex_bipush, fX4_undo_9, ↓ex_ireturn, ↓rt_i, fX4_undo_10, fX4_undo_11, fX4_undo_12, fX4_undo_15, ↓ex_iconst, fX4_undo_16, ↓ex_invokevirtual, ↓xc_0, ↓xc_s, ↓xc_1, ↓pk_s, ↓k_s, ↓k_n, catS_n, catS_c, rOk_c, ct_i, ct_l, ct_r, ↓pk_f, fX4_undo_19, fX4_undo_20, ↓ex_dup, fX4_undo_21, fX4_undo_24, fX4_undo_25, ↓ex_isub, ↓s2I_c, fX4_undo_26, ↓ex_putfield, ↓pf_4_1, fX4_undo_29, fX4_undo_30, fX4_undo_31, ↓pf_4_2, fX4_undo_34, fX4_undo_35, fX4_undo_38, p1, q1, m2, e0, ↓C_X4_copies, sI_1, upd_a, ↓reduceIte, not_true_eq_false, not_false_eq_true, false_implies, true_implies, implies_true, and_true, true_and, and_false, false_and, or_true, true_or, or_false, false_or, Classical.not_not, ite_true, ite_false]
    refine ⟨fun hz => ?_, fun hz => ok (by unfold s_undo; rw [cif_t hz])⟩
    have hsp : s_undo g = (nI (g.kept - 1), (g.hist (g.kept - 1), g.kept - 1, g.hist, g.size, g.bytes)) := by unfold s_undo; rw [cif_f hz]
    rw [hsp] at hpost
    have e1 : nI g.kept - 1 = nI (g.kept - 1) := pk_sub (a := g.kept) (b := 1) (by omega)
    refine ⟨g.kept, 0, ⟨rfl, rfl, by omega, by omega, hz⟩, fun Z hZ z1 z2 => ?_⟩
    have e51 : Z.1 51 = X.1 51 := hZ.1 51 (by decide)
    have e56 : Z.1 56 = X.1 56 := hZ.1 56 (by decide)
    rw [e51, m2, e1]
    refine ⟨bl_0, hpost _ ⟨⟨w3 _ (by omega), (by show g.kept - 1 ≤ 5; omega), fun j hj => w3 j (by have : j < g.kept - 1 := hj; omega), w4⟩, ?_, ?_, fun j hj => ?_, ?_, fun i hi => ?_, fun z => ?_⟩ ⟨fun k hk => ?_, ?_⟩⟩
    · refine (m3 (g.kept - 1) (by omega)).cg (w3 _ (by omega)).1 (fun k hk => ?_)
      simp only [sI_1]
      rw [if_neg (by decide), if_neg (by decide)]
      have := z1 k hk
      rw [Nat.mul_zero, Nat.zero_add] at this
      rw [this, show g.kept - 1 + 1 = g.kept by omega]
    · simp [sI_1, upd_a]
    · have hj' : j < g.kept - 1 := hj
      refine (m3 j (by omega)).cg (w3 j (by omega)).1 (fun k hk => ?_)
      simp only [sI_1]
      rw [if_neg (by decide), if_neg (by decide)]
      exact z2 _ (by omega)
    · simp [sI_1, upd_a, e51, m4]
    · simp only [sI_1]
      rw [if_neg (by decide), if_neg (by decide), e56]; exact m5 i hi
    · exact absurd (by simp [sI_1, upd_a]) z
    · simp only [sI_1]
      rw [if_neg (by omega), if_neg (by omega)]
      exact ⟨hZ.1 k (by omega), hZ.2.1 k (by omega)⟩
    · exact hZ.2.2
  next => exact hC.elim)
theorem RelM.setText {X X' : XT} {g g' : SG} (h : RelM X g) (h52 : X'.1 52 = X.1 52) (h54 : X'.2.1 54 = X.2.1 54) (h1 : X'.1 51 1 = X.1 51 1) (h2 : X'.1 51 2 = X.1 51 2) (hg : g'.now = g.now ∧ g'.kept = g.kept ∧ g'.hist = g.hist) (hb : bytesOK g') (h7 : X'.1 51 7 = nI g'.size) (h56 : ∀ i, i < g'.size → X'.1 56 i = g'.bytes i) : RelM X' g' := by
  obtain ⟨⟨w1, w2, w3, w4⟩, m1, m2, m3, m4, m5, m6⟩ := h
  obtain ⟨e1, e2, e3⟩ := hg
  refine ⟨⟨by rw [e1]; exact w1, by rw [e2]; exact w2, fun j hj => by rw [e3]; exact w3 j (by rw [← e2]; exact hj), hb⟩, by rw [e1, h52]; exact m1, by rw [h1, e2]; exact m2, fun j hj => by rw [e3, h52]; exact m3 j (by rw [← e2]; exact hj), h7, h56, fun z => ?_⟩
  rw [h2] at z
  rw [e1, h54]
  exact m6 z
noncomputable def C_X4_type : CT := fun As X K => match As with
  | [.ref b, .int c] => b = 51 ∧ PubMI (s_type c) X K
  | _ => False
set_option maxRecDepth 20000 in
set_option maxHeartbeats 4000000 in
theorem d_X4_type (l : Launch) : Does l yX4_type (wY yX4_type cX4_type 2 (retT 0)) (rmF 1) C_X4_type := does_of (rt := 0) (by decide +kernel) tkX4_type (calls := [(42, true, 3, 4, C_X4_in)]) (List.forall_mem_cons.mpr ⟨cr_S (d_X4_in l) (by decide +kernel) (by decide +kernel) ⟨rfl, rfl⟩ ⟨Nat.le_of_ble_eq_true rfl, Nat.le_of_ble_eq_true rfl⟩, fun _ h => absurd h List.not_mem_nil⟩) (by
  intro As X post hC
  unfold C_X4_type at hC
  split at hC
  next b c =>
    obtain ⟨rfl, g, hR0, hpost⟩ := hC
    refine ⟨Nat.le_of_ble_eq_true rfl, fun R hR => ?_⟩
    obtain ⟨⟨p1, p2, p3, p4, p5, p6, p7⟩, q1, q2, q3, q4, q5, q6, q7⟩ := sh_m
    obtain ⟨⟨w1, w2, w3, w4, w5⟩, m1, m2, m3, m4, m5, m6⟩ := id hR0
    have ok := fun {r : Int32} => pubM_same (r := r) hR0 hpost
    have e0 : (nI g.size = 120) = (g.size = 120) := propext (eqN (b := 120) (by omega) (by decide))
    refine go hR [] 60 ?_
    simp only [lv_args, ↓reduceIte, Nat.reduceEqDiff, Nat.reduceAdd, Nat.reduceLeDiff, reduceCtorEq, and_true, true_and, false_and, and_false, true_or, or_true, or_false, false_or, true_implies, false_implies, implies_true, not_true_eq_false, not_false_eq_true, eq_self, fx_s, ↓run_s, run_0, ↓rs_n, ↓rs_c, as_s, ls_n, ls_c, lc_s, lget_c, fX4_type_0, ↓ex_iload_n, ↓xI_i, ↓xIg_c, fX4_type_1, ↓ex_iconst, fX4_type_2, ↓ex_sipush, fX4_type_5, ↓ex_invokestatic, ↓xc_0, ↓xc_s, ↓xc_1, ↓pk_s, ↓k_s, ↓k_n, catS_n, catS_c, rOk_c, ct_i, ct_l, ct_r, ↓pk_t, fX4_type_8, ↓ex_ifCond_ne, ↓s1I_c, fX4_type_11, ↓ex_bipush, fX4_type_13, ↓ex_ireturn, ↓rt_i, fX4_type_14, ↓ex_aload_n, ↓xR_r, ↓xRg_c, fX4_type_15, ↓ex_getfield, ↓s1R_c, ↓fv_4_7, fX4_type_18, fX4_type_20, ↓ex_if_icmp_ne, ↓s2I_c, fX4_type_23, fX4_type_25, fX4_type_26, fX4_type_27, ↓fv_4_6, fX4_type_30, fX4_type_31, fX4_type_34, fX4_type_35, ↓ex_iastore, ↓sRII_c, fX4_type_36, fX4_type_37, ↓ex_dup, fX4_type_38, fX4_type_41, fX4_type_42, ↓ex_iadd, fX4_type_43, ↓ex_putfield, ↓pf_4_7, fX4_type_46, fX4_type_47, fX4_type_50, p1, p6, q1, q6, m4, e0, ↓C_X4_in, b2i_0, tI_m5, tI_m4, tI_m3, tI_m2, tI_m1, tI_0, tI_1, tI_2, tI_3, tI_4, tI_5, tI_7, tI_8, tI_10, tI_12, tI_30, tI_31, tI_32, tI_47, tI_48, tI_57, tI_59, tI_42, tI_43, tI_45, tI_61, tI_62, tI_100, tI_120, tI_255, tI_1000, clampN (n := g.size) (by omega), sI_1, upd_a, add1N, ↓reduceIte, not_true_eq_false, not_false_eq_true, false_implies, true_implies, implies_true, and_true, true_and, and_false, false_and, or_true, true_or, or_false, false_or, Classical.not_not, ite_true, ite_false]
    by_cases hh : inR c 0 255
    case neg => (simp only [hh, ↓reduceIte, not_true_eq_false, not_false_eq_true, false_implies, true_implies, implies_true, and_true, true_and, and_false, false_and, or_true, true_or, or_false, false_or, Classical.not_not, ite_true, ite_false]; exact ok (by unfold s_type; rw [cif_f hh]))
    simp only [hh, ↓reduceIte, not_true_eq_false, not_false_eq_true, false_implies, true_implies, implies_true, and_true, true_and, and_false, false_and, or_true, true_or, or_false, false_or, Classical.not_not, ite_true, ite_false]
    refine ⟨fun hs => ⟨vp_inN (by omega) (by omega), ?_⟩, fun hs => ok (by unfold s_type; rw [cif_t hh, cif_t hs])⟩
    have hsp : s_type c g = (nI (g.size + 1), (g.now, g.kept, g.hist, g.size + 1, fun i => if i = g.size then c else g.bytes i)) := by unfold s_type; rw [cif_t hh, cif_f hs]
    rw [hsp] at hpost
    refine hpost _ (hR0.setText ?_ rfl ?_ ?_ ⟨rfl, rfl, rfl⟩ ⟨(by show g.size + 1 ≤ 120; omega), fun i hi => ?_⟩ ?_ (fun i hi => ?_)) (FrC.of (P := fun k => k = 51 ∨ k = 56) ⟨fun k hk => ?_, fun k hk => rfl, rfl⟩ (fun k hk => by omega))
    · simp [sI_1]
    · simp [sI_1, upd_a]
    · simp [sI_1, upd_a]
    · show 0 ≤ (if i = g.size then c else g.bytes i).toInt ∧ (if i = g.size then c else g.bytes i).toInt ≤ 255
      have hi' : i < g.size + 1 := hi
      by_cases z : i = g.size
      · rw [if_pos z]; exact hh
      · rw [if_neg z]; exact w5 i (by omega)
    · simp [sI_1, upd_a]
    · have hi' : i < g.size + 1 := hi
      show _ = (if i = g.size then c else g.bytes i)
      by_cases z : i = g.size
      · simp [sI_1, upd_a, z]
      · have z' : ¬ i = g.2.2.2.1 := z
        simp [sI_1, upd_a, z, z', m5 i (by omega)]
    · simp only [sI_1]
      rw [if_neg (by omega), if_neg (by omega)]
  next => exact hC.elim)
noncomputable def C_X4_clearText : CT := fun As X K => match As with
  | [.ref b] => b = 51 ∧ PubMI s_clearText X K
  | _ => False
set_option maxRecDepth 20000 in
set_option maxHeartbeats 4000000 in
theorem d_X4_clearText (l : Launch) : Does l yX4_clearText (wY yX4_clearText cX4_clearText 2 (retT 0)) (rmF 0) C_X4_clearText := does_of (rt := 0) (by decide +kernel) tkX4_clearText (calls := []) (fun _ h => absurd h List.not_mem_nil) (by
  intro As X post hC
  unfold C_X4_clearText at hC
  split at hC
  next b =>
    obtain ⟨rfl, g, hR0, hpost⟩ := hC
    refine ⟨Nat.le_of_ble_eq_true rfl, fun R hR => ?_⟩
    obtain ⟨⟨p1, p2, p3, p4, p5, p6, p7⟩, q1, q2, q3, q4, q5, q6, q7⟩ := sh_m
    obtain ⟨⟨w1, w2, w3, w4, w5⟩, m1, m2, m3, m4, m5, m6⟩ := id hR0
    refine go hR [] 60 ?_
    simp only [lv_args, ↓reduceIte, Nat.reduceEqDiff, Nat.reduceAdd, Nat.reduceLeDiff, reduceCtorEq, and_true, true_and, false_and, and_false, true_or, or_true, or_false, false_or, true_implies, false_implies, implies_true, not_true_eq_false, not_false_eq_true, eq_self, fx_s, ↓run_s, run_0, ↓rs_n, ↓rs_c, as_s, ls_n, ls_c, lc_s, lget_c, fX4_clearText_0, ↓ex_aload_n, ↓xR_r, ↓xRg_c, fX4_clearText_1, ↓ex_getfield, ↓s1R_c, ↓fv_4_7, fX4_clearText_4, ↓ex_istore_n, ↓s1I_c, ↓lsto_e, ↓lrmK_n, ↓lrmK_f, ct_i, ct_l, ct_r, fX4_clearText_5, fX4_clearText_6, ↓ex_iconst, fX4_clearText_7, ↓ex_putfield, ↓pf_4_7, fX4_clearText_10, ↓ex_iload_n, ↓xI_i, ↓xIg_c, fX4_clearText_11, ↓ex_ireturn, ↓rt_i, p1, q1, m4, ↓reduceIte, not_true_eq_false, not_false_eq_true, false_implies, true_implies, implies_true, and_true, true_and, and_false, false_and, or_true, true_or, or_false, false_or, Classical.not_not, ite_true, ite_false]
    refine hpost _ (hR0.setText ?_ rfl ?_ ?_ ⟨rfl, rfl, rfl⟩ ⟨Nat.zero_le _, fun i hi => absurd hi (Nat.not_lt_zero i)⟩ ?_ (fun i hi => absurd hi (Nat.not_lt_zero i))) (FrC.of (P := fun k => k = 51) (Fr.pI (P := fun k => k = 51) (Fr.rf _ X) rfl _ _) (fun k hk => by omega))
    · simp [sI_1]
    · simp [sI_1, upd_a]
    · simp [sI_1, upd_a]
    · simp [sI_1, upd_a, s_clearText]; rfl
  next => exact hC.elim)
noncomputable def C_X4_weightOf : CT := fun As X K => match As with
  | [.ref b, .int o] => ∃ (s : SV) (o' : Nat), (b = 51 ∧ RSf (X.1 52) s ∧ s.n ≤ 12 ∧ (∀ e, e < s.n → s.W e ≤ 10) ∧ o = nI o' ∧ o' < 4096) ∧ K (some (.long (lN (wtN s.W o' s.n)))) X
  | _ => False
set_option maxRecDepth 20000 in
set_option maxHeartbeats 4000000 in
theorem d_X4_weightOf (l : Launch) : Does l yX4_weightOf (wY yX4_weightOf cX4_weightOf 5 (retT 2)) (rmF 1) C_X4_weightOf := does_of (rt := 2) (by decide +kernel) tkX4_weightOf (calls := [(46, false, 3, 4, C_X4_of)]) (List.forall_mem_cons.mpr ⟨cr_V (d_X4_of l) rfl (by decide +kernel) (by decide +kernel) ⟨rfl, rfl⟩ ⟨Nat.le_of_ble_eq_true rfl, Nat.le_of_ble_eq_true rfl⟩, fun _ h => absurd h List.not_mem_nil⟩) (by
  intro As X post hC
  unfold C_X4_weightOf at hC
  split at hC
  next b o =>
    obtain ⟨s, o', ⟨rfl, hS, hn, hWW, rfl, ho⟩, hfin⟩ := hC
    refine ⟨Nat.le_of_ble_eq_true rfl, fun R hR => ?_⟩
    obtain ⟨⟨p1, p2, p3, p4, p5, p6, p7⟩, q1, q2, q3, q4, q5, q6, q7⟩ := sh_m
    obtain ⟨h1, h2, h3, h4, h5⟩ := id hS
    have key : ∀ k i, i + k = s.n → R 5 [(0, .ref 51), (1, .int (nI o')), (2, .long (lN (wtN s.W o' i))), (4, .int (nI i))] [] X := by
      intro k
      induction k with
      | zero =>
        intro i hi
        refine go hR [(5, [0, 1, 2, 4])] 60 ?_
        simp only [↓reduceIte, Nat.reduceEqDiff, Nat.reduceAdd, Nat.reduceLeDiff, reduceCtorEq, and_true, true_and, false_and, and_false, true_or, or_true, or_false, false_or, true_implies, false_implies, implies_true, not_true_eq_false, not_false_eq_true, eq_self, fx_s, ↓run_s, run_0, ↓rs_n, ↓rs_c, as_s, ls_n, ls_c, lc_s, lget_c, fX4_weightOf_0, ↓ex_lconst, fX4_weightOf_1, ↓ex_lstore_n, ↓s1L_c, ↓lsto_e, ↓lrmK_n, ↓lrmK_t, ct_i, ct_l, ct_r, fX4_weightOf_2, ↓ex_iconst, fX4_weightOf_3, ↓ex_istore, ↓s1I_c, ↓lrmK_f, fX4_weightOf_5, ↓ex_iload, ↓xI_i, ↓xIg_c, fX4_weightOf_7, ↓ex_aload_n, ↓xR_r, ↓xRg_c, fX4_weightOf_8, ↓ex_getfield, ↓s1R_c, ↓fv_4_0, fX4_weightOf_11, fX4_weightOf_12, ↓ex_iaload, ↓sRI_c, ↓scrR_n, fX4_weightOf_13, ↓ex_if_icmp_ge, ↓s2I_c, fX4_weightOf_16, ↓ex_lload_n, ↓xL_l, ↓xLg_c, fX4_weightOf_17, ↓ex_iload_n, fX4_weightOf_18, fX4_weightOf_20, ↓ex_ishr, fX4_weightOf_21, fX4_weightOf_22, ↓ex_iand, fX4_weightOf_23, fX4_weightOf_24, ↓ex_if_icmp_ne, fX4_weightOf_27, fX4_weightOf_28, fX4_weightOf_30, fX4_weightOf_31, ↓ex_invokevirtual, ↓xc_0, ↓xc_s, ↓xc_1, ↓pk_s, ↓k_s, ↓k_n, catS_n, catS_c, rOk_c, ↓pk_f, fX4_weightOf_34, ↓ex_i2l, fX4_weightOf_35, ↓ex_goto, fX4_weightOf_38, ↓ex_bipush, fX4_weightOf_40, fX4_weightOf_41, fX4_weightOf_43, fX4_weightOf_44, fX4_weightOf_47, ↓ex_isub, fX4_weightOf_48, fX4_weightOf_49, ↓ex_lmul, ↓s2L_c, fX4_weightOf_50, fX4_weightOf_51, ↓ex_iinc, fX4_weightOf_54, fX4_weightOf_57, fX4_weightOf_58, ↓ex_lreturn, ↓rt_l, p1, p2, q1, q2, vr_0, clamp0, h1, leN (a := s.n) (b := i) (by omega) (by omega), ↓reduceIte, not_true_eq_false, not_false_eq_true, false_implies, true_implies, implies_true, and_true, true_and, and_false, false_and, or_true, true_or, or_false, false_or, Classical.not_not, ite_true, ite_false]
        refine ⟨fun _ => ?_, fun z => absurd (by omega) z⟩
        rw [show i = s.n by omega]
        exact hfin
      | succ k ih =>
        intro i hi
        refine go hR [(5, [0, 1, 2, 4])] 60 ?_
        have hW := hWW i (by omega)
        have eo := bit1 (m := o') (e := i) (by omega) (by omega)
        have e10 : (10 : Int32) - nI (s.W i) = nI (10 - s.W i) := pk_sub (a := 10) hW
        simp only [↓reduceIte, Nat.reduceEqDiff, Nat.reduceAdd, Nat.reduceLeDiff, reduceCtorEq, and_true, true_and, false_and, and_false, true_or, or_true, or_false, false_or, true_implies, false_implies, implies_true, not_true_eq_false, not_false_eq_true, eq_self, fx_s, ↓run_s, run_0, ↓rs_n, ↓rs_c, as_s, ls_n, ls_c, lc_s, lget_c, fX4_weightOf_0, ↓ex_lconst, fX4_weightOf_1, ↓ex_lstore_n, ↓s1L_c, ↓lsto_e, ↓lrmK_n, ↓lrmK_t, ct_i, ct_l, ct_r, fX4_weightOf_2, ↓ex_iconst, fX4_weightOf_3, ↓ex_istore, ↓s1I_c, ↓lrmK_f, fX4_weightOf_5, ↓ex_iload, ↓xI_i, ↓xIg_c, fX4_weightOf_7, ↓ex_aload_n, ↓xR_r, ↓xRg_c, fX4_weightOf_8, ↓ex_getfield, ↓s1R_c, ↓fv_4_0, fX4_weightOf_11, fX4_weightOf_12, ↓ex_iaload, ↓sRI_c, ↓scrR_n, fX4_weightOf_13, ↓ex_if_icmp_ge, ↓s2I_c, fX4_weightOf_16, ↓ex_lload_n, ↓xL_l, ↓xLg_c, fX4_weightOf_17, ↓ex_iload_n, fX4_weightOf_18, fX4_weightOf_20, ↓ex_ishr, fX4_weightOf_21, fX4_weightOf_22, ↓ex_iand, fX4_weightOf_23, fX4_weightOf_24, ↓ex_if_icmp_ne, fX4_weightOf_27, fX4_weightOf_28, fX4_weightOf_30, fX4_weightOf_31, ↓ex_invokevirtual, ↓xc_0, ↓xc_s, ↓xc_1, ↓pk_s, ↓k_s, ↓k_n, catS_n, catS_c, rOk_c, ↓pk_f, fX4_weightOf_34, ↓ex_i2l, fX4_weightOf_35, ↓ex_goto, fX4_weightOf_38, ↓ex_bipush, fX4_weightOf_40, fX4_weightOf_41, fX4_weightOf_43, fX4_weightOf_44, fX4_weightOf_47, ↓ex_isub, fX4_weightOf_48, fX4_weightOf_49, ↓ex_lmul, ↓s2L_c, fX4_weightOf_50, fX4_weightOf_51, ↓ex_iinc, fX4_weightOf_54, fX4_weightOf_57, fX4_weightOf_58, ↓ex_lreturn, ↓rt_l, p1, p2, q1, q2, vr_0, clamp0, cl_2, vq_2, h1, ↓C_X4_of, leN (a := s.n) (b := i) (by omega) (by omega), clampN (n := i) (by omega), add1N, (h4 i (by omega)).2.2.1, eo, e10, i2lN (n := s.W i) (by omega), i2lN (n := 10 - s.W i) (by omega), lN_mul, ↓reduceIte, not_true_eq_false, not_false_eq_true, false_implies, true_implies, implies_true, and_true, true_and, and_false, false_and, or_true, true_or, or_false, false_or, Classical.not_not, ite_true, ite_false]
        have v1 : vp_in (nI i) 12 := vp_inN (by omega) (by omega)
        refine ⟨fun z => absurd z (by omega), fun _ => ⟨fun hb => ⟨v1, ?_⟩, fun hb => ⟨v1, ?_⟩⟩⟩
        · have := ih (i + 1) (by omega)
          unfold wtN at this
          rw [if_neg hb] at this
          exact this
        · have := ih (i + 1) (by omega)
          unfold wtN at this
          rw [if_pos hb] at this
          exact this
    refine go hR [(5, [0, 1, 2, 4])] 60 ?_
    simp only [lv_args, ↓reduceIte, Nat.reduceEqDiff, Nat.reduceAdd, Nat.reduceLeDiff, reduceCtorEq, and_true, true_and, false_and, and_false, true_or, or_true, or_false, false_or, true_implies, false_implies, implies_true, not_true_eq_false, not_false_eq_true, eq_self, fx_s, ↓run_s, run_0, ↓rs_n, ↓rs_c, as_s, ls_n, ls_c, lc_s, lget_c, fX4_weightOf_0, ↓ex_lconst, fX4_weightOf_1, ↓ex_lstore_n, ↓s1L_c, ↓lsto_e, ↓lrmK_n, ↓lrmK_t, ct_i, ct_l, ct_r, fX4_weightOf_2, ↓ex_iconst, fX4_weightOf_3, ↓ex_istore, ↓s1I_c, ↓lrmK_f, fX4_weightOf_5, ↓ex_iload, ↓xI_i, ↓xIg_c, fX4_weightOf_7, ↓ex_aload_n, ↓xR_r, ↓xRg_c, fX4_weightOf_8, ↓ex_getfield, ↓s1R_c, ↓fv_4_0, fX4_weightOf_11, fX4_weightOf_12, ↓ex_iaload, ↓sRI_c, ↓scrR_n, fX4_weightOf_13, ↓ex_if_icmp_ge, ↓s2I_c, fX4_weightOf_16, ↓ex_lload_n, ↓xL_l, ↓xLg_c, fX4_weightOf_17, ↓ex_iload_n, fX4_weightOf_18, fX4_weightOf_20, ↓ex_ishr, fX4_weightOf_21, fX4_weightOf_22, ↓ex_iand, fX4_weightOf_23, fX4_weightOf_24, ↓ex_if_icmp_ne, fX4_weightOf_27, fX4_weightOf_28, fX4_weightOf_30, fX4_weightOf_31, ↓ex_invokevirtual, ↓xc_0, ↓xc_s, ↓xc_1, ↓pk_s, ↓k_s, ↓k_n, catS_n, catS_c, rOk_c, ↓pk_f, fX4_weightOf_34, ↓ex_i2l, fX4_weightOf_35, ↓ex_goto, fX4_weightOf_38, ↓ex_bipush, fX4_weightOf_40, fX4_weightOf_41, fX4_weightOf_43, fX4_weightOf_44, fX4_weightOf_47, ↓ex_isub, fX4_weightOf_48, fX4_weightOf_49, ↓ex_lmul, ↓s2L_c, fX4_weightOf_50, fX4_weightOf_51, ↓ex_iinc, fX4_weightOf_54, fX4_weightOf_57, fX4_weightOf_58, ↓ex_lreturn, ↓rt_l, ↓reduceIte, not_true_eq_false, not_false_eq_true, false_implies, true_implies, implies_true, and_true, true_and, and_false, false_and, or_true, true_or, or_false, false_or, Classical.not_not, ite_true, ite_false]
    exact key s.n 0 (by omega)
  next => exact hC.elim)
noncomputable def C_X4_weight : CT := fun As X K => match As with
  | [.ref b, .int o] => b = 51 ∧ PubML (s_weight o) X K
  | _ => False
set_option maxRecDepth 20000 in
set_option maxHeartbeats 4000000 in
theorem d_X4_weight (l : Launch) : Does l yX4_weight (wY yX4_weight cX4_weight 2 (retT 2)) (rmF 2) C_X4_weight := does_of (rt := 2) (by decide +kernel) tkX4_weight (calls := [(81, false, 2, 4, C_X4_isOutcome), (84, false, 2, 4, C_X4_weightOf)]) (List.forall_mem_cons.mpr ⟨cr_V (d_X4_isOutcome l) rfl (by decide +kernel) (by decide +kernel) ⟨rfl, rfl⟩ ⟨Nat.le_of_ble_eq_true rfl, Nat.le_of_ble_eq_true rfl⟩, List.forall_mem_cons.mpr ⟨cr_V (d_X4_weightOf l) rfl (by decide +kernel) (by decide +kernel) ⟨rfl, rfl⟩ ⟨Nat.le_of_ble_eq_true rfl, Nat.le_of_ble_eq_true rfl⟩, fun _ h => absurd h List.not_mem_nil⟩⟩) (by
  intro As X post hC
  unfold C_X4_weight at hC
  split at hC
  next b o =>
    obtain ⟨rfl, g, hR0, hpost⟩ := hC
    refine ⟨Nat.le_of_ble_eq_true rfl, fun R hR => ?_⟩
    obtain ⟨⟨w1, w2, w3, w4, w5⟩, m1, m2, m3, m4, m5, m6⟩ := id hR0
    have hfin := hpost X hR0 (FrC.rf X)
    refine go hR [] 60 ?_
    obtain ⟨⟨p1, p2, p3, p4, p5, p6, p7⟩, q1, q2, q3, q4, q5, q6, q7⟩ := sh_m
    simp only [lv_args, ↓reduceIte, Nat.reduceEqDiff, Nat.reduceAdd, Nat.reduceLeDiff, reduceCtorEq, and_true, true_and, false_and, and_false, true_or, or_true, or_false, false_or, true_implies, false_implies, implies_true, not_true_eq_false, not_false_eq_true, eq_self, fx_s, ↓run_s, run_0, ↓rs_n, ↓rs_c, as_s, ls_n, ls_c, lc_s, lget_c, fX4_weight_0, ↓ex_aload_n, ↓xR_r, ↓xRg_c, fX4_weight_1, ↓ex_iload_n, ↓xI_i, ↓xIg_c, fX4_weight_2, ↓ex_invokevirtual, ↓xc_0, ↓xc_s, ↓xc_1, ↓pk_s, ↓k_s, ↓k_n, catS_n, catS_c, rOk_c, ct_i, ct_l, ct_r, ↓pk_f, fX4_weight_5, ↓ex_ifCond_eq, ↓s1I_c, fX4_weight_8, fX4_weight_9, fX4_weight_10, fX4_weight_13, ↓ex_goto, fX4_weight_16, ↓ex_ldc2_w, fX4_weight_19, ↓ex_lreturn, ↓rt_l, p1, q1, ↓C_X4_isOutcome, ↓C_X4_weightOf, b2i_0, ↓reduceIte, not_true_eq_false, not_false_eq_true, false_implies, true_implies, implies_true, and_true, true_and, and_false, false_and, or_true, true_or, or_false, false_or, Classical.not_not, ite_true, ite_false]
    refine ⟨g.now, ⟨m1, w1.1⟩, ?_⟩
    unfold s_weight at hfin
    by_cases ho : isO g.now o
    · rw [cif_t ho] at hfin
      obtain ⟨o1, o2, o3⟩ := isO_cl w1.1 ho
      simp only [ho, ↓reduceIte, not_true_eq_false, not_false_eq_true, false_implies, true_implies, implies_true, and_true, true_and, and_false, false_and, or_true, true_or, or_false, false_or, Classical.not_not, ite_true, ite_false]
      exact ⟨g.now, cl o, ⟨m1, w1.1, fun e he => (w1.2.1 e he).2.2.2.1, o3, o2⟩, hfin⟩
    · rw [cif_f ho] at hfin
      simp only [ho, ↓reduceIte, not_true_eq_false, not_false_eq_true, false_implies, true_implies, implies_true, and_true, true_and, and_false, false_and, or_true, true_or, or_false, false_or, Classical.not_not, ite_true, ite_false]
      exact hfin
  next => exact hC.elim)
def C_X4_note : CT := fun As X K => match As with
  | [.ref b, .int v] => b = 51 ∧ K none (sL X 51 11 (31 * X.2.1 51 11 + v.toInt64))
  | _ => False
set_option maxRecDepth 20000 in
set_option maxHeartbeats 4000000 in
theorem d_X4_note (l : Launch) : Does l yX4_note (wY yX4_note cX4_note 2 (retT 3)) (rmF 0) C_X4_note := does_of (rt := 3) (by decide +kernel) tkX4_note (calls := []) (fun _ h => absurd h List.not_mem_nil) (by
  intro As X post hC
  unfold C_X4_note at hC
  split at hC
  next b v =>
    obtain ⟨rfl, hpost⟩ := hC
    refine ⟨Nat.le_of_ble_eq_true rfl, fun R hR => ?_⟩
    obtain ⟨⟨p1, p2, p3, p4, p5, p6, p7⟩, q1, q2, q3, q4, q5, q6, q7⟩ := sh_m
    refine go hR [] 60 ?_
    simp only [lv_args, ↓reduceIte, Nat.reduceEqDiff, Nat.reduceAdd, Nat.reduceLeDiff, reduceCtorEq, and_true, true_and, false_and, and_false, true_or, or_true, or_false, false_or, true_implies, false_implies, implies_true, not_true_eq_false, not_false_eq_true, eq_self, fx_s, ↓run_s, run_0, ↓rs_n, ↓rs_c, as_s, ls_n, ls_c, lc_s, lget_c, fX4_note_0, ↓ex_aload_n, ↓xR_r, ↓xRg_c, fX4_note_1, ↓ex_ldc2_w, fX4_note_4, fX4_note_5, ↓ex_getfield, ↓s1R_c, ↓fv_4_11, fX4_note_8, ↓ex_lmul, ↓s2L_c, fX4_note_9, ↓ex_iload_n, ↓xI_i, ↓xIg_c, fX4_note_10, ↓ex_i2l, ↓s1I_c, fX4_note_11, ↓ex_ladd, fX4_note_12, ↓ex_putfield, ↓pf_4_11, fX4_note_15, ↓ex_return_, ↓rt_v, p1, q1, ↓reduceIte, not_true_eq_false, not_false_eq_true, false_implies, true_implies, implies_true, and_true, true_and, and_false, false_and, or_true, true_or, or_false, false_or, Classical.not_not, ite_true, ite_false]
    exact hpost
  next => exact hC.elim)
def dgK (f : Nat → Int32) : Nat → Int64 → Int64
  | 0, h => h
  | k + 1, h => 31 * dgK f k h + (f (3 + k)).toInt64
theorem dgK_E {f : Nat → Int32} {s : SV} (h : RSf f s) (h0 : Int64) : ∀ e, e ≤ s.n → dgK f (4 * e) h0 = dgE s.F s.T s.W s.D e h0 := by
  intro e
  induction e with
  | zero => intro _; rfl
  | succ e ih =>
    intro he
    obtain ⟨a1, a2, a3, a4⟩ := h.2.2.2.1 e (by omega)
    show 31 * (31 * (31 * (31 * dgK f (4 * e) h0 + (f (3 + 4 * e)).toInt64) + (f (3 + (4 * e + 1))).toInt64) + (f (3 + (4 * e + 2))).toInt64) + (f (3 + (4 * e + 3))).toInt64 = _
    rw [ih (by omega), ← Nat.add_assoc, ← Nat.add_assoc, ← Nat.add_assoc, a1, a2, a3, a4]
    rfl
noncomputable def C_X4_digest : CT := fun As X K => match As with
  | [.ref b] => b = 51 ∧ PubML s_digest X K
  | _ => False
set_option maxRecDepth 20000 in
set_option maxHeartbeats 4000000 in
theorem d_X4_digest (l : Launch) : Does l yX4_digest (wY yX4_digest cX4_digest 2 (retT 2)) (rmF 1) C_X4_digest := does_of (rt := 2) (by decide +kernel) tkX4_digest (calls := [(143, false, 2, 4, C_X4_note)]) (List.forall_mem_cons.mpr ⟨cr_V (d_X4_note l) rfl (by decide +kernel) (by decide +kernel) ⟨rfl, rfl⟩ ⟨Nat.le_of_ble_eq_true rfl, Nat.le_of_ble_eq_true rfl⟩, fun _ h => absurd h List.not_mem_nil⟩) (by
  intro As X post hC
  unfold C_X4_digest at hC
  split at hC
  next b =>
    obtain ⟨rfl, g, hR0, hpost⟩ := hC
    refine ⟨Nat.le_of_ble_eq_true rfl, fun R hR => ?_⟩
    obtain ⟨⟨p1, p2, p3, p4, p5, p6, p7⟩, q1, q2, q3, q4, q5, q6, q7⟩ := sh_m
    obtain ⟨⟨w1, w2, w3, w4, w5⟩, m1, m2, m3, m4, m5, m6⟩ := id hR0
    obtain ⟨h1, h2, h3, h4, h5⟩ := id m1
    have hn := w1.1
    have hfin : ∀ v, v = (s_digest g).1 → post (some (.long v)) (sL X 51 11 v) := fun v hv => by
      rw [hv]
      exact hpost _ (show RelM _ g from ⟨⟨w1, w2, w3, w4, w5⟩, m1, m2, m3, m4, m5, m6⟩) (FrC.of (P := fun k => k = 51) (Fr.pL (P := fun k => k = 51) (Fr.rf _ X) rfl _ _) (fun k hk => by omega))
    unfold s_digest at hfin
    rw [← dgK_E m1 _ g.now.n (Nat.le_refl _)] at hfin
    generalize hh : (31 * dgK (X.1 52) (4 * g.now.n) (527 + (nI g.now.n).toInt64) + (nI g.now.H).toInt64 : Int64) = hv at hfin
    have key2 : ∀ k i, i + k = 8 → R 61 [(0, .ref 51), (1, .int (nI i))] [] (sL X 51 11 (dgS g.now.S i hv)) := by
      intro k
      induction k with
      | zero =>
        intro i hi
        refine go hR [(61, [0, 1])] 60 ?_
        simp only [↓reduceIte, Nat.reduceEqDiff, Nat.reduceAdd, Nat.reduceLeDiff, reduceCtorEq, and_true, true_and, false_and, and_false, true_or, or_true, or_false, false_or, true_implies, false_implies, implies_true, not_true_eq_false, not_false_eq_true, eq_self, fx_s, ↓run_s, run_0, ↓rs_n, ↓rs_c, as_s, ls_n, ls_c, lc_s, lget_c, fX4_digest_0, ↓ex_aload_n, ↓xR_r, ↓xRg_c, fX4_digest_1, ↓ex_ldc2_w, fX4_digest_4, ↓ex_putfield, ↓pf_4_11, fX4_digest_7, fX4_digest_8, fX4_digest_9, ↓ex_getfield, ↓s1R_c, ↓fv_4_0, fX4_digest_12, ↓ex_iconst, fX4_digest_13, ↓ex_iaload, ↓sRI_c, ↓scrR_n, fX4_digest_14, ↓ex_invokevirtual, ↓xc_0, ↓xc_s, ↓xc_1, ↓pk_s, ↓k_s, ↓k_n, catS_n, catS_c, rOk_c, ct_i, ct_l, ct_r, ↓pk_f, fX4_digest_17, fX4_digest_18, ↓ex_istore_n, ↓s1I_c, ↓lsto_e, ↓lrmK_n, ↓lrmK_f, fX4_digest_19, ↓ex_iload_n, ↓xI_i, ↓xIg_c, fX4_digest_20, fX4_digest_21, fX4_digest_22, fX4_digest_25, fX4_digest_26, fX4_digest_27, ↓ex_imul, ↓s2I_c, fX4_digest_28, ↓ex_if_icmp_ge, fX4_digest_31, fX4_digest_32, fX4_digest_33, fX4_digest_36, fX4_digest_37, fX4_digest_38, ↓ex_iadd, fX4_digest_39, fX4_digest_40, fX4_digest_43, ↓ex_iinc, fX4_digest_46, ↓ex_goto, fX4_digest_49, fX4_digest_50, fX4_digest_51, fX4_digest_54, fX4_digest_55, fX4_digest_56, fX4_digest_59, fX4_digest_60, fX4_digest_61, fX4_digest_62, ↓ex_bipush, fX4_digest_64, fX4_digest_67, fX4_digest_68, fX4_digest_69, fX4_digest_72, fX4_digest_74, fX4_digest_75, fX4_digest_76, fX4_digest_77, fX4_digest_80, fX4_digest_83, fX4_digest_86, fX4_digest_87, fX4_digest_88, fX4_digest_91, fX4_digest_92, fX4_digest_93, fX4_digest_96, fX4_digest_97, ↓fv_4_11, fX4_digest_100, ↓ex_lreturn, ↓rt_l, p1, p2, q1, q2, vr_2, cl_2, h3, ↓C_X4_note, sL_1, sL_at, updL_a, sLL, leI, nI_toInt (n := i) (by omega), tI_m5, tI_m4, tI_m3, tI_m2, tI_m1, tI_0, tI_1, tI_2, tI_3, tI_4, tI_5, tI_7, tI_8, tI_10, tI_12, tI_30, tI_31, tI_32, tI_47, tI_48, tI_57, tI_59, tI_42, tI_43, tI_45, tI_61, tI_62, tI_100, tI_120, tI_255, tI_1000, ↓reduceIte, not_true_eq_false, not_false_eq_true, false_implies, true_implies, implies_true, and_true, true_and, and_false, false_and, or_true, true_or, or_false, false_or, Classical.not_not, ite_true, ite_false]
        refine ⟨fun _ => ?_, fun z => absurd (by omega) z⟩
        rw [show i = 8 by omega]
        exact hfin _ rfl
      | succ k ih =>
        intro i hi
        refine go hR [(61, [0, 1])] 60 ?_
        simp only [↓reduceIte, Nat.reduceEqDiff, Nat.reduceAdd, Nat.reduceLeDiff, reduceCtorEq, and_true, true_and, false_and, and_false, true_or, or_true, or_false, false_or, true_implies, false_implies, implies_true, not_true_eq_false, not_false_eq_true, eq_self, fx_s, ↓run_s, run_0, ↓rs_n, ↓rs_c, as_s, ls_n, ls_c, lc_s, lget_c, fX4_digest_0, ↓ex_aload_n, ↓xR_r, ↓xRg_c, fX4_digest_1, ↓ex_ldc2_w, fX4_digest_4, ↓ex_putfield, ↓pf_4_11, fX4_digest_7, fX4_digest_8, fX4_digest_9, ↓ex_getfield, ↓s1R_c, ↓fv_4_0, fX4_digest_12, ↓ex_iconst, fX4_digest_13, ↓ex_iaload, ↓sRI_c, ↓scrR_n, fX4_digest_14, ↓ex_invokevirtual, ↓xc_0, ↓xc_s, ↓xc_1, ↓pk_s, ↓k_s, ↓k_n, catS_n, catS_c, rOk_c, ct_i, ct_l, ct_r, ↓pk_f, fX4_digest_17, fX4_digest_18, ↓ex_istore_n, ↓s1I_c, ↓lsto_e, ↓lrmK_n, ↓lrmK_f, fX4_digest_19, ↓ex_iload_n, ↓xI_i, ↓xIg_c, fX4_digest_20, fX4_digest_21, fX4_digest_22, fX4_digest_25, fX4_digest_26, fX4_digest_27, ↓ex_imul, ↓s2I_c, fX4_digest_28, ↓ex_if_icmp_ge, fX4_digest_31, fX4_digest_32, fX4_digest_33, fX4_digest_36, fX4_digest_37, fX4_digest_38, ↓ex_iadd, fX4_digest_39, fX4_digest_40, fX4_digest_43, ↓ex_iinc, fX4_digest_46, ↓ex_goto, fX4_digest_49, fX4_digest_50, fX4_digest_51, fX4_digest_54, fX4_digest_55, fX4_digest_56, fX4_digest_59, fX4_digest_60, fX4_digest_61, fX4_digest_62, ↓ex_bipush, fX4_digest_64, fX4_digest_67, fX4_digest_68, fX4_digest_69, fX4_digest_72, fX4_digest_74, fX4_digest_75, fX4_digest_76, fX4_digest_77, fX4_digest_80, fX4_digest_83, fX4_digest_86, fX4_digest_87, fX4_digest_88, fX4_digest_91, fX4_digest_92, fX4_digest_93, fX4_digest_96, fX4_digest_97, ↓fv_4_11, fX4_digest_100, ↓ex_lreturn, ↓rt_l, p1, p2, q1, q2, ↓C_X4_note, ix_v, clampN (n := 51 + i) (by omega), h5 i (by omega), sL_1, sL_at, updL_a, sLL, leI, nI_toInt (n := i) (by omega), tI_m5, tI_m4, tI_m3, tI_m2, tI_m1, tI_0, tI_1, tI_2, tI_3, tI_4, tI_5, tI_7, tI_8, tI_10, tI_12, tI_30, tI_31, tI_32, tI_47, tI_48, tI_57, tI_59, tI_42, tI_43, tI_45, tI_61, tI_62, tI_100, tI_120, tI_255, tI_1000, add1N, ↓reduceIte, not_true_eq_false, not_false_eq_true, false_implies, true_implies, implies_true, and_true, true_and, and_false, false_and, or_true, true_or, or_false, false_or, Classical.not_not, ite_true, ite_false]
        exact ⟨fun z => absurd z (by omega), fun _ => ⟨vp_inN (by omega) (by omega), ih (i + 1) (by omega)⟩⟩
    have e4 : (4 : Int32) * nI g.now.n = nI (4 * g.now.n) := pk_mul 4 g.now.n
    have key1 : ∀ k i, i + k = 4 * g.now.n → R 19 [(0, .ref 51), (1, .int (nI i))] [] (sL X 51 11 (dgK (X.1 52) i (527 + (nI g.now.n).toInt64))) := by
      intro k
      induction k with
      | zero =>
        intro i hi
        refine go hR [(19, [0, 1]), (61, [0, 1])] 100 ?_
        simp only [↓reduceIte, Nat.reduceEqDiff, Nat.reduceAdd, Nat.reduceLeDiff, reduceCtorEq, and_true, true_and, false_and, and_false, true_or, or_true, or_false, false_or, true_implies, false_implies, implies_true, not_true_eq_false, not_false_eq_true, eq_self, fx_s, ↓run_s, run_0, ↓rs_n, ↓rs_c, as_s, ls_n, ls_c, lc_s, lget_c, fX4_digest_0, ↓ex_aload_n, ↓xR_r, ↓xRg_c, fX4_digest_1, ↓ex_ldc2_w, fX4_digest_4, ↓ex_putfield, ↓pf_4_11, fX4_digest_7, fX4_digest_8, fX4_digest_9, ↓ex_getfield, ↓s1R_c, ↓fv_4_0, fX4_digest_12, ↓ex_iconst, fX4_digest_13, ↓ex_iaload, ↓sRI_c, ↓scrR_n, fX4_digest_14, ↓ex_invokevirtual, ↓xc_0, ↓xc_s, ↓xc_1, ↓pk_s, ↓k_s, ↓k_n, catS_n, catS_c, rOk_c, ct_i, ct_l, ct_r, ↓pk_f, fX4_digest_17, fX4_digest_18, ↓ex_istore_n, ↓s1I_c, ↓lsto_e, ↓lrmK_n, ↓lrmK_f, fX4_digest_19, ↓ex_iload_n, ↓xI_i, ↓xIg_c, fX4_digest_20, fX4_digest_21, fX4_digest_22, fX4_digest_25, fX4_digest_26, fX4_digest_27, ↓ex_imul, ↓s2I_c, fX4_digest_28, ↓ex_if_icmp_ge, fX4_digest_31, fX4_digest_32, fX4_digest_33, fX4_digest_36, fX4_digest_37, fX4_digest_38, ↓ex_iadd, fX4_digest_39, fX4_digest_40, fX4_digest_43, ↓ex_iinc, fX4_digest_46, ↓ex_goto, fX4_digest_49, fX4_digest_50, fX4_digest_51, fX4_digest_54, fX4_digest_55, fX4_digest_56, fX4_digest_59, fX4_digest_60, fX4_digest_61, fX4_digest_62, ↓ex_bipush, fX4_digest_64, fX4_digest_67, fX4_digest_68, fX4_digest_69, fX4_digest_72, fX4_digest_74, fX4_digest_75, fX4_digest_76, fX4_digest_77, fX4_digest_80, fX4_digest_83, fX4_digest_86, fX4_digest_87, fX4_digest_88, fX4_digest_91, fX4_digest_92, fX4_digest_93, fX4_digest_96, fX4_digest_97, ↓fv_4_11, fX4_digest_100, ↓ex_lreturn, ↓rt_l, p1, p2, q1, q2, vr_0, vr_1, clamp0, cl_1, h1, h2, e4, ↓C_X4_note, sL_1, sL_at, updL_a, sLL, leN (a := 4 * g.now.n) (b := i) (by omega) (by omega), ↓reduceIte, not_true_eq_false, not_false_eq_true, false_implies, true_implies, implies_true, and_true, true_and, and_false, false_and, or_true, true_or, or_false, false_or, Classical.not_not, ite_true, ite_false]
        refine ⟨fun _ => ?_, fun z => absurd (by omega) z⟩
        rw [show i = 4 * g.now.n by omega, hh]
        exact key2 8 0 (by omega)
      | succ k ih =>
        intro i hi
        refine go hR [(19, [0, 1]), (61, [0, 1])] 100 ?_
        have e3 : (3 : Int32) + nI i = nI (3 + i) := nI_add 3 i
        simp only [↓reduceIte, Nat.reduceEqDiff, Nat.reduceAdd, Nat.reduceLeDiff, reduceCtorEq, and_true, true_and, false_and, and_false, true_or, or_true, or_false, false_or, true_implies, false_implies, implies_true, not_true_eq_false, not_false_eq_true, eq_self, fx_s, ↓run_s, run_0, ↓rs_n, ↓rs_c, as_s, ls_n, ls_c, lc_s, lget_c, fX4_digest_0, ↓ex_aload_n, ↓xR_r, ↓xRg_c, fX4_digest_1, ↓ex_ldc2_w, fX4_digest_4, ↓ex_putfield, ↓pf_4_11, fX4_digest_7, fX4_digest_8, fX4_digest_9, ↓ex_getfield, ↓s1R_c, ↓fv_4_0, fX4_digest_12, ↓ex_iconst, fX4_digest_13, ↓ex_iaload, ↓sRI_c, ↓scrR_n, fX4_digest_14, ↓ex_invokevirtual, ↓xc_0, ↓xc_s, ↓xc_1, ↓pk_s, ↓k_s, ↓k_n, catS_n, catS_c, rOk_c, ct_i, ct_l, ct_r, ↓pk_f, fX4_digest_17, fX4_digest_18, ↓ex_istore_n, ↓s1I_c, ↓lsto_e, ↓lrmK_n, ↓lrmK_f, fX4_digest_19, ↓ex_iload_n, ↓xI_i, ↓xIg_c, fX4_digest_20, fX4_digest_21, fX4_digest_22, fX4_digest_25, fX4_digest_26, fX4_digest_27, ↓ex_imul, ↓s2I_c, fX4_digest_28, ↓ex_if_icmp_ge, fX4_digest_31, fX4_digest_32, fX4_digest_33, fX4_digest_36, fX4_digest_37, fX4_digest_38, ↓ex_iadd, fX4_digest_39, fX4_digest_40, fX4_digest_43, ↓ex_iinc, fX4_digest_46, ↓ex_goto, fX4_digest_49, fX4_digest_50, fX4_digest_51, fX4_digest_54, fX4_digest_55, fX4_digest_56, fX4_digest_59, fX4_digest_60, fX4_digest_61, fX4_digest_62, ↓ex_bipush, fX4_digest_64, fX4_digest_67, fX4_digest_68, fX4_digest_69, fX4_digest_72, fX4_digest_74, fX4_digest_75, fX4_digest_76, fX4_digest_77, fX4_digest_80, fX4_digest_83, fX4_digest_86, fX4_digest_87, fX4_digest_88, fX4_digest_91, fX4_digest_92, fX4_digest_93, fX4_digest_96, fX4_digest_97, ↓fv_4_11, fX4_digest_100, ↓ex_lreturn, ↓rt_l, p1, p2, q1, q2, vr_0, clamp0, h1, e4, e3, clampN (n := 3 + i) (by omega), ↓C_X4_note, sL_1, sL_at, updL_a, sLL, leN (a := 4 * g.now.n) (b := i) (by omega) (by omega), add1N, ↓reduceIte, not_true_eq_false, not_false_eq_true, false_implies, true_implies, implies_true, and_true, true_and, and_false, false_and, or_true, true_or, or_false, false_or, Classical.not_not, ite_true, ite_false]
        exact ⟨fun z => absurd z (by omega), fun _ => ⟨vp_inN (by omega) (by omega), ih (i + 1) (by omega)⟩⟩
    refine go hR [(19, [0, 1])] 60 ?_
    simp only [lv_args, ↓reduceIte, Nat.reduceEqDiff, Nat.reduceAdd, Nat.reduceLeDiff, reduceCtorEq, and_true, true_and, false_and, and_false, true_or, or_true, or_false, false_or, true_implies, false_implies, implies_true, not_true_eq_false, not_false_eq_true, eq_self, fx_s, ↓run_s, run_0, ↓rs_n, ↓rs_c, as_s, ls_n, ls_c, lc_s, lget_c, fX4_digest_0, ↓ex_aload_n, ↓xR_r, ↓xRg_c, fX4_digest_1, ↓ex_ldc2_w, fX4_digest_4, ↓ex_putfield, ↓pf_4_11, fX4_digest_7, fX4_digest_8, fX4_digest_9, ↓ex_getfield, ↓s1R_c, ↓fv_4_0, fX4_digest_12, ↓ex_iconst, fX4_digest_13, ↓ex_iaload, ↓sRI_c, ↓scrR_n, fX4_digest_14, ↓ex_invokevirtual, ↓xc_0, ↓xc_s, ↓xc_1, ↓pk_s, ↓k_s, ↓k_n, catS_n, catS_c, rOk_c, ct_i, ct_l, ct_r, ↓pk_f, fX4_digest_17, fX4_digest_18, ↓ex_istore_n, ↓s1I_c, ↓lsto_e, ↓lrmK_n, ↓lrmK_f, fX4_digest_19, ↓ex_iload_n, ↓xI_i, ↓xIg_c, fX4_digest_20, fX4_digest_21, fX4_digest_22, fX4_digest_25, fX4_digest_26, fX4_digest_27, ↓ex_imul, ↓s2I_c, fX4_digest_28, ↓ex_if_icmp_ge, fX4_digest_31, fX4_digest_32, fX4_digest_33, fX4_digest_36, fX4_digest_37, fX4_digest_38, ↓ex_iadd, fX4_digest_39, fX4_digest_40, fX4_digest_43, ↓ex_iinc, fX4_digest_46, ↓ex_goto, fX4_digest_49, fX4_digest_50, fX4_digest_51, fX4_digest_54, fX4_digest_55, fX4_digest_56, fX4_digest_59, fX4_digest_60, fX4_digest_61, fX4_digest_62, ↓ex_bipush, fX4_digest_64, fX4_digest_67, fX4_digest_68, fX4_digest_69, fX4_digest_72, fX4_digest_74, fX4_digest_75, fX4_digest_76, fX4_digest_77, fX4_digest_80, fX4_digest_83, fX4_digest_86, fX4_digest_87, fX4_digest_88, fX4_digest_91, fX4_digest_92, fX4_digest_93, fX4_digest_96, fX4_digest_97, ↓fv_4_11, fX4_digest_100, ↓ex_lreturn, ↓rt_l, p1, p2, q1, q2, vr_0, clamp0, h1, ↓C_X4_note, sL_1, sL_at, updL_a, sLL, ↓reduceIte, not_true_eq_false, not_false_eq_true, false_implies, true_implies, implies_true, and_true, true_and, and_false, false_and, or_true, true_or, or_false, false_or, Classical.not_not, ite_true, ite_false]
    exact key1 (4 * g.now.n) 0 (by omega)
  next => exact hC.elim)
end MPUB2
