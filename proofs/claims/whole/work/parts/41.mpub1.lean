section MPUB1
noncomputable def C_X4_addEdge : CT := fun As X K => match As with
  | [.ref b, .int a, .int c, .int w, .int d] => b = 51 ∧ PubMI (s_addEdge a c w d) X K
  | _ => False
set_option maxRecDepth 20000 in
set_option maxHeartbeats 4000000 in
theorem d_X4_addEdge (l : Launch) : Does l yX4_addEdge (wY yX4_addEdge cX4_addEdge 6 (retT 0)) (rmF 2) C_X4_addEdge := does_of (rt := 0) (by decide +kernel) tkX4_addEdge (calls := [(50, true, 1, 4, C_X4_isNode), (42, true, 3, 4, C_X4_in), (54, false, 3, 4, C_X4_between), (57, false, 1, 4, C_X4_saves), (60, false, 6, 4, C_X4_lays)]) (List.forall_mem_cons.mpr ⟨cr_S (d_X4_isNode l) (by decide +kernel) (by decide +kernel) ⟨rfl, rfl⟩ ⟨Nat.le_of_ble_eq_true rfl, Nat.le_of_ble_eq_true rfl⟩, List.forall_mem_cons.mpr ⟨cr_S (d_X4_in l) (by decide +kernel) (by decide +kernel) ⟨rfl, rfl⟩ ⟨Nat.le_of_ble_eq_true rfl, Nat.le_of_ble_eq_true rfl⟩, List.forall_mem_cons.mpr ⟨cr_V (d_X4_between l) rfl (by decide +kernel) (by decide +kernel) ⟨rfl, rfl⟩ ⟨Nat.le_of_ble_eq_true rfl, Nat.le_of_ble_eq_true rfl⟩, List.forall_mem_cons.mpr ⟨cr_V (d_X4_saves l) rfl (by decide +kernel) (by decide +kernel) ⟨rfl, rfl⟩ ⟨Nat.le_of_ble_eq_true rfl, Nat.le_of_ble_eq_true rfl⟩, List.forall_mem_cons.mpr ⟨cr_V (d_X4_lays l) rfl (by decide +kernel) (by decide +kernel) ⟨rfl, rfl⟩ ⟨Nat.le_of_ble_eq_true rfl, Nat.le_of_ble_eq_true rfl⟩, fun _ h => absurd h List.not_mem_nil⟩⟩⟩⟩⟩) (by
  intro As X post hC
  unfold C_X4_addEdge at hC
  split at hC
  next b a c w d =>
    obtain ⟨rfl, g, hR0, hpost⟩ := hC
    refine ⟨Nat.le_of_ble_eq_true rfl, fun R hR => ?_⟩
    obtain ⟨⟨p1, p2, p3, p4, p5, p6, p7⟩, q1, q2, q3, q4, q5, q6, q7⟩ := sh_m
    obtain ⟨⟨w1, w2, w3, w4⟩, m1, m2, m3, m4, m5, m6⟩ := id hR0
    have hn := w1.1
    have ok := fun {r : Int32} => pubM_same (r := r) hR0 hpost
    refine go hR [] 200 ?_
    simp only [lv_args, ↓reduceIte, Nat.reduceEqDiff, Nat.reduceAdd, Nat.reduceLeDiff, reduceCtorEq, and_true, true_and, false_and, and_false, true_or, or_true, or_false, false_or, true_implies, false_implies, implies_true, not_true_eq_false, not_false_eq_true, eq_self, fx_s, ↓run_s, run_0, ↓rs_n, ↓rs_c, as_s, ls_n, ls_c, lc_s, lget_c, fX4_addEdge_0, ↓ex_iload_n, ↓xI_i, ↓xIg_c, fX4_addEdge_1, ↓ex_invokestatic, ↓xc_0, ↓xc_s, ↓xc_1, ↓pk_s, ↓k_s, ↓k_n, catS_n, catS_c, rOk_c, ct_i, ct_l, ct_r, ↓pk_t, fX4_addEdge_4, ↓ex_ifCond_eq, ↓s1I_c, fX4_addEdge_7, fX4_addEdge_8, fX4_addEdge_11, ↓ex_ifCond_ne, fX4_addEdge_14, ↓ex_bipush, fX4_addEdge_16, ↓ex_ireturn, ↓rt_i, fX4_addEdge_17, fX4_addEdge_18, ↓ex_iconst, fX4_addEdge_19, fX4_addEdge_21, fX4_addEdge_24, fX4_addEdge_27, ↓ex_iload, fX4_addEdge_29, fX4_addEdge_30, fX4_addEdge_31, fX4_addEdge_34, fX4_addEdge_37, fX4_addEdge_38, fX4_addEdge_39, ↓ex_if_icmp_ne, ↓s2I_c, fX4_addEdge_42, fX4_addEdge_44, fX4_addEdge_45, ↓ex_aload_n, ↓xR_r, ↓xRg_c, fX4_addEdge_46, fX4_addEdge_47, fX4_addEdge_48, ↓ex_invokevirtual, ↓pk_f, fX4_addEdge_51, fX4_addEdge_52, ↓ex_if_icmp_eq, fX4_addEdge_55, fX4_addEdge_57, fX4_addEdge_58, fX4_addEdge_59, ↓ex_getfield, ↓s1R_c, ↓fv_4_0, fX4_addEdge_62, fX4_addEdge_63, ↓ex_iaload, ↓sRI_c, ↓scrR_n, fX4_addEdge_64, fX4_addEdge_66, fX4_addEdge_69, fX4_addEdge_71, fX4_addEdge_72, fX4_addEdge_73, fX4_addEdge_76, fX4_addEdge_77, fX4_addEdge_80, fX4_addEdge_81, fX4_addEdge_82, ↓ex_istore, ↓lsto_e, ↓lrmK_n, ↓lrmK_f, fX4_addEdge_84, fX4_addEdge_85, fX4_addEdge_87, fX4_addEdge_88, fX4_addEdge_89, fX4_addEdge_90, fX4_addEdge_92, fX4_addEdge_95, fX4_addEdge_96, fX4_addEdge_99, fX4_addEdge_100, ↓ex_dup2, fX4_addEdge_101, fX4_addEdge_102, fX4_addEdge_103, ↓ex_iadd, fX4_addEdge_104, ↓ex_iastore, ↓sRII_c, fX4_addEdge_105, fX4_addEdge_107, p1, p2, q1, q2, ↓C_X4_isNode, ↓C_X4_in, ↓C_X4_between, ↓C_X4_saves, ↓C_X4_lays, b2i_0, i10, tI_m5, tI_m4, tI_m3, tI_m2, tI_m1, tI_0, tI_1, tI_2, tI_3, tI_4, tI_5, tI_7, tI_8, tI_10, tI_12, tI_30, tI_31, tI_32, tI_47, tI_48, tI_57, tI_59, tI_42, tI_43, tI_45, tI_61, tI_62, tI_100, tI_120, tI_255, tI_1000, vr_0, vr_1, vr_2, clamp0, cl_1, cl_2, cl_3, vq_0, vq_1, vq_2, vq_3, Nat.add_zero, Classical.not_not, ↓reduceIte, not_true_eq_false, not_false_eq_true, false_implies, true_implies, implies_true, and_true, true_and, and_false, false_and, or_true, true_or, or_false, false_or, Classical.not_not, ite_true, ite_false]
    by_cases ha : inR a 0 7
    case neg => (simp only [ha, ↓reduceIte, not_true_eq_false, not_false_eq_true, false_implies, true_implies, implies_true, and_true, true_and, and_false, false_and, or_true, true_or, or_false, false_or, Classical.not_not, ite_true, ite_false]; exact ok (by unfold s_addEdge; rw [cif_f (fun z => ha z.1)]))
    by_cases hc : inR c 0 7
    case neg => (simp only [ha, hc, ↓reduceIte, not_true_eq_false, not_false_eq_true, false_implies, true_implies, implies_true, and_true, true_and, and_false, false_and, or_true, true_or, or_false, false_or, Classical.not_not, ite_true, ite_false]; exact ok (by unfold s_addEdge; rw [cif_f (fun z => hc z.2)]))
    by_cases hw : inR w 0 10
    case neg => (simp only [ha, hc, hw, ↓reduceIte, not_true_eq_false, not_false_eq_true, false_implies, true_implies, implies_true, and_true, true_and, and_false, false_and, or_true, true_or, or_false, false_or, Classical.not_not, ite_true, ite_false]; exact ok (by unfold s_addEdge; rw [cif_t ⟨ha, hc⟩, cif_f (fun z => hw z.1.1)]))
    by_cases hd : inR d 1 5
    case neg => (simp only [ha, hc, hw, hd, ↓reduceIte, not_true_eq_false, not_false_eq_true, false_implies, true_implies, implies_true, and_true, true_and, and_false, false_and, or_true, true_or, or_false, false_or, Classical.not_not, ite_true, ite_false]; exact ok (by unfold s_addEdge; rw [cif_t ⟨ha, hc⟩, cif_f (fun z => hd z.1.2)]))
    by_cases hac : a = c
    case pos => (simp only [ha, hc, hw, hd, hac, ↓reduceIte, not_true_eq_false, not_false_eq_true, false_implies, true_implies, implies_true, and_true, true_and, and_false, false_and, or_true, true_or, or_false, false_or, Classical.not_not, ite_true, ite_false]; exact ok (by unfold s_addEdge; rw [cif_t ⟨ha, hc⟩, cif_f (fun z => z.2 hac)]))
    simp only [ha, hc, hw, hd, hac, ↓reduceIte, not_true_eq_false, not_false_eq_true, false_implies, true_implies, implies_true, and_true, true_and, and_false, false_and, or_true, true_or, or_false, false_or, Classical.not_not, ite_true, ite_false]
    obtain ⟨-, ha2, ha3⟩ := inR_cl (lo := 0) (hi := 7) (by omega) ha
    obtain ⟨-, hc2, hc3⟩ := inR_cl (lo := 0) (hi := 7) (by omega) hc
    obtain ⟨-, hw2, hw3⟩ := inR_cl (lo := 0) (hi := 10) (by omega) hw
    obtain ⟨hd1, hd2, hd3⟩ := inR_cl (lo := 1) (hi := 5) (by omega) hd
    refine ⟨g.now, cl a, cl c, ⟨m1, w1, ha3, hc3, by omega, by omega⟩, ?_⟩
    have e12 : (X.1 52 0 = 12) = (g.now.n = 12) := by rw [m1.1]; exact propext (eqN (b := 12) (by omega) (by decide))
    rw [oI_m1 (fun j h => (fidx_some h).1) (by omega), e12]
    refine ⟨fun hf => ⟨fun hfull => ⟨g, hR0, fun Y hY hFY hY2 => ?_⟩, fun h => ok (by unfold s_addEdge; rw [cif_t ⟨ha, hc⟩, cif_t ⟨⟨hw, hd⟩, hac⟩, cif_t hf, cif_t h])⟩, fun h => ok (by unfold s_addEdge; rw [cif_t ⟨ha, hc⟩, cif_t ⟨⟨hw, hd⟩, hac⟩, cif_f h])⟩
    have hsp : s_addEdge a c w d g = (nI g.now.n, withS (s_add g.now (cl a) (cl c) (cl w) (cl d)) (s_rem g)) := by unfold s_addEdge; rw [cif_t ⟨ha, hc⟩, cif_t ⟨⟨hw, hd⟩, hac⟩, cif_t hf, cif_f hfull]
    have hYs := hY.remNow
    rw [hYs.1, show cl (nI g.now.n) = g.now.n from clampN (by omega), layX_52, layF_lo _ _ _ _ _ _ (by omega), hYs.1, add1N]
    have hadd := RSf_add hYs (by omega) (cl a) (cl c) (cl w) (cl d)
    rw [← ha3, ← hc3, ← hw3, ← hd3] at hadd
    have hfr : Fr (fun k => k = 52) Y (sI (layX Y g.now.n a c w d) 52 0 (nI (g.now.n + 1))) := (layX_fr _ _ _ _ _ _).tr (fr_52 _ _ _)
    refine ⟨vp_inN (by omega) (by omega), ?_⟩
    have hfin := hpost (sI (layX Y g.now.n a c w d) 52 0 (nI (g.now.n + 1))) (by
      rw [hsp]
      refine hY.setNow hfr.m52 hY2 ?_ (WF_add w1 (by omega) (by omega) (fun z => hac (by rw [ha3, hc3, z])) hw2 ⟨hd1, hd2⟩ (by omega) hf) (fun p hp => ?_)
      · rw [sI_1, if_pos rfl, layX_52]; exact hadd
      · rw [sI_1, if_pos rfl, upd_a, if_neg (by omega), layX_52, layF_hi _ _ _ _ _ _ (by omega)]) (hFY.c51.tr hfr.c52)
    rw [hsp] at hfin
    exact hfin
  next => exact hC.elim)
noncomputable def C_X4_setEdge : CT := fun As X K => match As with
  | [.ref b, .int e, .int w, .int d] => b = 51 ∧ PubMI (s_setEdge e w d) X K
  | _ => False
set_option maxRecDepth 20000 in
set_option maxHeartbeats 4000000 in
theorem d_X4_setEdge (l : Launch) : Does l yX4_setEdge (wY yX4_setEdge cX4_setEdge 5 (retT 0)) (rmF 2) C_X4_setEdge := does_of (rt := 0) (by decide +kernel) tkX4_setEdge (calls := [(64, false, 2, 4, C_X4_isEdge), (42, true, 3, 4, C_X4_in), (57, false, 1, 4, C_X4_saves), (46, false, 3, 4, C_X4_of), (60, false, 6, 4, C_X4_lays)]) (List.forall_mem_cons.mpr ⟨cr_V (d_X4_isEdge l) rfl (by decide +kernel) (by decide +kernel) ⟨rfl, rfl⟩ ⟨Nat.le_of_ble_eq_true rfl, Nat.le_of_ble_eq_true rfl⟩, List.forall_mem_cons.mpr ⟨cr_S (d_X4_in l) (by decide +kernel) (by decide +kernel) ⟨rfl, rfl⟩ ⟨Nat.le_of_ble_eq_true rfl, Nat.le_of_ble_eq_true rfl⟩, List.forall_mem_cons.mpr ⟨cr_V (d_X4_saves l) rfl (by decide +kernel) (by decide +kernel) ⟨rfl, rfl⟩ ⟨Nat.le_of_ble_eq_true rfl, Nat.le_of_ble_eq_true rfl⟩, List.forall_mem_cons.mpr ⟨cr_V (d_X4_of l) rfl (by decide +kernel) (by decide +kernel) ⟨rfl, rfl⟩ ⟨Nat.le_of_ble_eq_true rfl, Nat.le_of_ble_eq_true rfl⟩, List.forall_mem_cons.mpr ⟨cr_V (d_X4_lays l) rfl (by decide +kernel) (by decide +kernel) ⟨rfl, rfl⟩ ⟨Nat.le_of_ble_eq_true rfl, Nat.le_of_ble_eq_true rfl⟩, fun _ h => absurd h List.not_mem_nil⟩⟩⟩⟩⟩) (by
  intro As X post hC
  unfold C_X4_setEdge at hC
  split at hC
  next b e w d =>
    obtain ⟨rfl, g, hR0, hpost⟩ := hC
    refine ⟨Nat.le_of_ble_eq_true rfl, fun R hR => ?_⟩
    obtain ⟨⟨p1, p2, p3, p4, p5, p6, p7⟩, q1, q2, q3, q4, q5, q6, q7⟩ := sh_m
    obtain ⟨⟨w1, w2, w3, w4⟩, m1, m2, m3, m4, m5, m6⟩ := id hR0
    have hn := w1.1
    have ok := fun {r : Int32} => pubM_same (r := r) hR0 hpost
    refine go hR [] 200 ?_
    simp only [lv_args, ↓reduceIte, Nat.reduceEqDiff, Nat.reduceAdd, Nat.reduceLeDiff, reduceCtorEq, and_true, true_and, false_and, and_false, true_or, or_true, or_false, false_or, true_implies, false_implies, implies_true, not_true_eq_false, not_false_eq_true, eq_self, fx_s, ↓run_s, run_0, ↓rs_n, ↓rs_c, as_s, ls_n, ls_c, lc_s, lget_c, fX4_setEdge_0, ↓ex_aload_n, ↓xR_r, ↓xRg_c, fX4_setEdge_1, ↓ex_iload_n, ↓xI_i, ↓xIg_c, fX4_setEdge_2, ↓ex_invokevirtual, ↓xc_0, ↓xc_s, ↓xc_1, ↓pk_s, ↓k_s, ↓k_n, catS_n, catS_c, rOk_c, ct_i, ct_l, ct_r, ↓pk_f, fX4_setEdge_5, ↓ex_ifCond_ne, ↓s1I_c, fX4_setEdge_8, ↓ex_bipush, fX4_setEdge_10, ↓ex_ireturn, ↓rt_i, fX4_setEdge_11, fX4_setEdge_12, ↓ex_iconst, fX4_setEdge_13, fX4_setEdge_15, ↓ex_invokestatic, ↓pk_t, fX4_setEdge_18, ↓ex_ifCond_eq, fX4_setEdge_21, fX4_setEdge_22, fX4_setEdge_23, fX4_setEdge_24, fX4_setEdge_27, fX4_setEdge_30, fX4_setEdge_32, fX4_setEdge_33, fX4_setEdge_34, fX4_setEdge_37, fX4_setEdge_38, fX4_setEdge_39, fX4_setEdge_40, fX4_setEdge_43, ↓ex_istore, ↓lsto_e, ↓lrmK_n, ↓lrmK_f, fX4_setEdge_45, fX4_setEdge_46, fX4_setEdge_47, fX4_setEdge_48, fX4_setEdge_49, fX4_setEdge_50, fX4_setEdge_53, fX4_setEdge_54, fX4_setEdge_55, fX4_setEdge_56, fX4_setEdge_59, fX4_setEdge_60, fX4_setEdge_61, fX4_setEdge_64, ↓ex_iload, fX4_setEdge_66, p1, p2, q1, q2, ↓C_X4_isEdge, ↓C_X4_in, ↓C_X4_saves, ↓C_X4_of, ↓C_X4_lays, b2i_0, i10, tI_m5, tI_m4, tI_m3, tI_m2, tI_m1, tI_0, tI_1, tI_2, tI_3, tI_4, tI_5, tI_7, tI_8, tI_10, tI_12, tI_30, tI_31, tI_32, tI_47, tI_48, tI_57, tI_59, tI_42, tI_43, tI_45, tI_61, tI_62, tI_100, tI_120, tI_255, tI_1000, vr_0, vr_1, vr_2, clamp0, cl_1, cl_2, cl_3, vq_0, vq_1, vq_2, vq_3, Nat.add_zero, Classical.not_not, ↓reduceIte, not_true_eq_false, not_false_eq_true, false_implies, true_implies, implies_true, and_true, true_and, and_false, false_and, or_true, true_or, or_false, false_or, Classical.not_not, ite_true, ite_false]
    refine ⟨g.now, ⟨m1, hn⟩, ?_⟩
    by_cases he : 0 ≤ e.toInt ∧ e.toInt < (g.now.n : Int)
    case neg => (simp only [he, ↓reduceIte, not_true_eq_false, not_false_eq_true, false_implies, true_implies, implies_true, and_true, true_and, and_false, false_and, or_true, true_or, or_false, false_or, Classical.not_not, ite_true, ite_false]; exact ok (by unfold s_setEdge; rw [cif_f he]))
    by_cases hw : inR w 0 10
    case neg => (simp only [he, hw, ↓reduceIte, not_true_eq_false, not_false_eq_true, false_implies, true_implies, implies_true, and_true, true_and, and_false, false_and, or_true, true_or, or_false, false_or, Classical.not_not, ite_true, ite_false]; exact ok (by unfold s_setEdge; rw [cif_t he, cif_f (fun z => hw z.1)]))
    by_cases hd : inR d 1 5
    case neg => (simp only [he, hw, hd, ↓reduceIte, not_true_eq_false, not_false_eq_true, false_implies, true_implies, implies_true, and_true, true_and, and_false, false_and, or_true, true_or, or_false, false_or, Classical.not_not, ite_true, ite_false]; exact ok (by unfold s_setEdge; rw [cif_t he, cif_f (fun z => hd z.2)]))
    simp only [he, hw, hd, ↓reduceIte, not_true_eq_false, not_false_eq_true, false_implies, true_implies, implies_true, and_true, true_and, and_false, false_and, or_true, true_or, or_false, false_or, Classical.not_not, ite_true, ite_false]
    obtain ⟨-, hw2, hw3⟩ := inR_cl (lo := 0) (hi := 10) (by omega) hw
    obtain ⟨hd1, hd2, hd3⟩ := inR_cl (lo := 1) (hi := 5) (by omega) hd
    obtain ⟨-, he2, he3⟩ := inR_cl (lo := 0) (hi := 12) (by omega) (show inR e 0 12 from ⟨he.1, by omega⟩)
    have he4 : cl e < g.now.n := by have := nI_toInt (n := cl e) (by omega); rw [← he3] at this; omega
    have hve : vp_in e 12 := by rw [he3]; exact vp_inN (by omega) (by omega)
    refine ⟨g, hR0, fun Y hY hFY hY2 => ?_⟩
    have hsp : s_setEdge e w d g = (nI (g.now.W (cl e)), withS (s_set g.now (cl e) (cl w) (cl d)) (s_rem g)) := by unfold s_setEdge; rw [cif_t he, cif_t ⟨hw, hd⟩]
    have hYs := hY.remNow
    obtain ⟨e1, e2, e3, e4⟩ := hYs.2.2.2.1 (cl e) he4
    have hset := RSf_set hYs he4 hn (cl w) (cl d)
    rw [← hw3, ← hd3] at hset
    have hfr := layX_fr Y (cl e) (nI (g.now.F (cl e))) (nI (g.now.T (cl e))) w d
    have hfin := hpost _ (by
      rw [hsp]
      refine hY.setNow hfr.m52 hY2 hset (WF_set w1 hw2 ⟨hd1, hd2⟩) (fun p hp => ?_)
      rw [layX_52, layF_hi _ _ _ _ _ _ (by omega)]) (hFY.c51.tr hfr.c52)
    rw [hsp] at hfin
    refine ⟨hve, hve, hve, hve, ?_⟩
    rw [e1, e2, e3]
    exact hfin
  next => exact hC.elim)
noncomputable def C_X4_edges : CT := fun As X K => match As with
  | [.ref b] => b = 51 ∧ PubMI (s_edges) X K
  | _ => False
set_option maxRecDepth 20000 in
set_option maxHeartbeats 4000000 in
theorem d_X4_edges (l : Launch) : Does l yX4_edges (wY yX4_edges cX4_edges 1 (retT 0)) (rmF 0) C_X4_edges := does_of (rt := 0) (by decide +kernel) tkX4_edges (calls := []) (fun _ h => absurd h List.not_mem_nil) (by
  intro As X post hC
  unfold C_X4_edges at hC
  split at hC
  next b =>
    obtain ⟨rfl, g, hR0, hpost⟩ := hC
    refine ⟨Nat.le_of_ble_eq_true rfl, fun R hR => ?_⟩
    obtain ⟨⟨p1, p2, p3, p4, p5, p6, p7⟩, q1, q2, q3, q4, q5, q6, q7⟩ := sh_m
    obtain ⟨⟨w1, w2, w3, w4⟩, m1, m2, m3, m4, m5, m6⟩ := id hR0
    have hn := w1.1
    have ok := fun {r : Int32} => pubM_same (r := r) hR0 hpost
    refine go hR [] 200 ?_
    simp only [lv_args, ↓reduceIte, Nat.reduceEqDiff, Nat.reduceAdd, Nat.reduceLeDiff, reduceCtorEq, and_true, true_and, false_and, and_false, true_or, or_true, or_false, false_or, true_implies, false_implies, implies_true, not_true_eq_false, not_false_eq_true, eq_self, fx_s, ↓run_s, run_0, ↓rs_n, ↓rs_c, as_s, ls_n, ls_c, lc_s, lget_c, fX4_edges_0, ↓ex_aload_n, ↓xR_r, ↓xRg_c, fX4_edges_1, ↓ex_getfield, ↓s1R_c, ↓fv_4_0, fX4_edges_4, ↓ex_iconst, fX4_edges_5, ↓ex_iaload, ↓sRI_c, ↓scrR_n, fX4_edges_6, ↓ex_ireturn, ↓rt_i, p1, p2, q1, q2, b2i_0, i10, tI_m5, tI_m4, tI_m3, tI_m2, tI_m1, tI_0, tI_1, tI_2, tI_3, tI_4, tI_5, tI_7, tI_8, tI_10, tI_12, tI_30, tI_31, tI_32, tI_47, tI_48, tI_57, tI_59, tI_42, tI_43, tI_45, tI_61, tI_62, tI_100, tI_120, tI_255, tI_1000, vr_0, vr_1, vr_2, clamp0, cl_1, cl_2, cl_3, vq_0, vq_1, vq_2, vq_3, Nat.add_zero, Classical.not_not, ↓reduceIte, not_true_eq_false, not_false_eq_true, false_implies, true_implies, implies_true, and_true, true_and, and_false, false_and, or_true, true_or, or_false, false_or, Classical.not_not, ite_true, ite_false]
    rw [m1.1]
    exact ok rfl
  next => exact hC.elim)
noncomputable def C_X4_edge : CT := fun As X K => match As with
  | [.ref b, .int e, .int w] => b = 51 ∧ PubMI (s_edge e w) X K
  | _ => False
set_option maxRecDepth 20000 in
set_option maxHeartbeats 4000000 in
theorem d_X4_edge (l : Launch) : Does l yX4_edge (wY yX4_edge cX4_edge 3 (retT 0)) (rmF 2) C_X4_edge := does_of (rt := 0) (by decide +kernel) tkX4_edge (calls := [(64, false, 2, 4, C_X4_isEdge), (42, true, 3, 4, C_X4_in), (46, false, 3, 4, C_X4_of)]) (List.forall_mem_cons.mpr ⟨cr_V (d_X4_isEdge l) rfl (by decide +kernel) (by decide +kernel) ⟨rfl, rfl⟩ ⟨Nat.le_of_ble_eq_true rfl, Nat.le_of_ble_eq_true rfl⟩, List.forall_mem_cons.mpr ⟨cr_S (d_X4_in l) (by decide +kernel) (by decide +kernel) ⟨rfl, rfl⟩ ⟨Nat.le_of_ble_eq_true rfl, Nat.le_of_ble_eq_true rfl⟩, List.forall_mem_cons.mpr ⟨cr_V (d_X4_of l) rfl (by decide +kernel) (by decide +kernel) ⟨rfl, rfl⟩ ⟨Nat.le_of_ble_eq_true rfl, Nat.le_of_ble_eq_true rfl⟩, fun _ h => absurd h List.not_mem_nil⟩⟩⟩) (by
  intro As X post hC
  unfold C_X4_edge at hC
  split at hC
  next b e w =>
    obtain ⟨rfl, g, hR0, hpost⟩ := hC
    refine ⟨Nat.le_of_ble_eq_true rfl, fun R hR => ?_⟩
    obtain ⟨⟨p1, p2, p3, p4, p5, p6, p7⟩, q1, q2, q3, q4, q5, q6, q7⟩ := sh_m
    obtain ⟨⟨w1, w2, w3, w4⟩, m1, m2, m3, m4, m5, m6⟩ := id hR0
    have hn := w1.1
    have ok := fun {r : Int32} => pubM_same (r := r) hR0 hpost
    refine go hR [] 200 ?_
    simp only [lv_args, ↓reduceIte, Nat.reduceEqDiff, Nat.reduceAdd, Nat.reduceLeDiff, reduceCtorEq, and_true, true_and, false_and, and_false, true_or, or_true, or_false, false_or, true_implies, false_implies, implies_true, not_true_eq_false, not_false_eq_true, eq_self, fx_s, ↓run_s, run_0, ↓rs_n, ↓rs_c, as_s, ls_n, ls_c, lc_s, lget_c, fX4_edge_0, ↓ex_aload_n, ↓xR_r, ↓xRg_c, fX4_edge_1, ↓ex_iload_n, ↓xI_i, ↓xIg_c, fX4_edge_2, ↓ex_invokevirtual, ↓xc_0, ↓xc_s, ↓xc_1, ↓pk_s, ↓k_s, ↓k_n, catS_n, catS_c, rOk_c, ct_i, ct_l, ct_r, ↓pk_f, fX4_edge_5, ↓ex_ifCond_ne, ↓s1I_c, fX4_edge_8, ↓ex_bipush, fX4_edge_10, ↓ex_ireturn, ↓rt_i, fX4_edge_11, fX4_edge_12, ↓ex_iconst, fX4_edge_13, fX4_edge_14, ↓ex_invokestatic, ↓pk_t, fX4_edge_17, ↓ex_ifCond_eq, fX4_edge_20, fX4_edge_21, fX4_edge_22, fX4_edge_23, fX4_edge_26, ↓ex_goto, fX4_edge_29, fX4_edge_31, p1, p2, q1, q2, ↓C_X4_isEdge, ↓C_X4_in, ↓C_X4_of, b2i_0, i10, tI_m5, tI_m4, tI_m3, tI_m2, tI_m1, tI_0, tI_1, tI_2, tI_3, tI_4, tI_5, tI_7, tI_8, tI_10, tI_12, tI_30, tI_31, tI_32, tI_47, tI_48, tI_57, tI_59, tI_42, tI_43, tI_45, tI_61, tI_62, tI_100, tI_120, tI_255, tI_1000, vr_0, vr_1, vr_2, clamp0, cl_1, cl_2, cl_3, vq_0, vq_1, vq_2, vq_3, Nat.add_zero, Classical.not_not, ↓reduceIte, not_true_eq_false, not_false_eq_true, false_implies, true_implies, implies_true, and_true, true_and, and_false, false_and, or_true, true_or, or_false, false_or, Classical.not_not, ite_true, ite_false]
    refine ⟨g.now, ⟨m1, hn⟩, ?_⟩
    by_cases he : 0 ≤ e.toInt ∧ e.toInt < (g.now.n : Int)
    case neg => (simp only [he, ↓reduceIte, not_true_eq_false, not_false_eq_true, false_implies, true_implies, implies_true, and_true, true_and, and_false, false_and, or_true, true_or, or_false, false_or, Classical.not_not, ite_true, ite_false]; exact ok (by unfold s_edge; rw [cif_f he]))
    simp only [he, ↓reduceIte, not_true_eq_false, not_false_eq_true, false_implies, true_implies, implies_true, and_true, true_and, and_false, false_and, or_true, true_or, or_false, false_or, Classical.not_not, ite_true, ite_false]
    obtain ⟨-, he2, he3⟩ := inR_cl (lo := 0) (hi := 12) (by omega) (show inR e 0 12 from ⟨he.1, by omega⟩)
    have he4 : cl e < g.now.n := by have := nI_toInt (n := cl e) (by omega); rw [← he3] at this; omega
    have hve : vp_in e 12 := by rw [he3]; exact vp_inN (by omega) (by omega)
    obtain ⟨e1, e2, e3, e4⟩ := m1.2.2.2.1 (cl e) he4
    have hsp : s_edge e w g = (cif (w = 0) (nI (g.now.F (cl e))) (cif (w = 1) (nI (g.now.T (cl e))) (cif (w = 2) (nI (g.now.W (cl e))) (cif (w = 3) (nI (g.now.D (cl e))) (-3)))), g) := by unfold s_edge; rw [cif_t he]
    refine ⟨fun hw => ?_, fun hw => ?_⟩
    · refine ok ?_
      rw [hsp, cif_f (fun z => hw (by rw [z]; unfold inR; decide)), cif_f (fun z => hw (by rw [z]; unfold inR; decide)), cif_f (fun z => hw (by rw [z]; unfold inR; decide)), cif_f (fun z => hw (by rw [z]; unfold inR; decide))]
    · obtain ⟨-, hw2, hw3⟩ := inR_cl (lo := 0) (hi := 3) (by omega) hw
      refine ⟨hve, by rw [hw3]; exact vp_inN (by omega) (by omega), ok ?_⟩
      rw [hsp]
      have hcs : w = 0 ∨ w = 1 ∨ w = 2 ∨ w = 3 := by
        have : cl w = 0 ∨ cl w = 1 ∨ cl w = 2 ∨ cl w = 3 := by omega
        rw [hw3]
        rcases this with h | h | h | h <;> rw [h]
        · exact Or.inl rfl
        · exact Or.inr (Or.inl rfl)
        · exact Or.inr (Or.inr (Or.inl rfl))
        · exact Or.inr (Or.inr (Or.inr rfl))
      rcases hcs with rfl | rfl | rfl | rfl
      · rw [cif_t rfl]; exact congrArg (fun x => (x, g)) e1.symm
      · rw [cif_f (by decide), cif_t rfl]; exact congrArg (fun x => (x, g)) e2.symm
      · rw [cif_f (by decide), cif_f (by decide), cif_t rfl]; exact congrArg (fun x => (x, g)) e3.symm
      · rw [cif_f (by decide), cif_f (by decide), cif_f (by decide), cif_t rfl]; exact congrArg (fun x => (x, g)) e4.symm
  next => exact hC.elim)
noncomputable def C_X4_edgeBetween : CT := fun As X K => match As with
  | [.ref b, .int a, .int c] => b = 51 ∧ PubMI (s_edgeBetween a c) X K
  | _ => False
set_option maxRecDepth 20000 in
set_option maxHeartbeats 4000000 in
theorem d_X4_edgeBetween (l : Launch) : Does l yX4_edgeBetween (wY yX4_edgeBetween cX4_edgeBetween 3 (retT 0)) (rmF 2) C_X4_edgeBetween := does_of (rt := 0) (by decide +kernel) tkX4_edgeBetween (calls := [(50, true, 1, 4, C_X4_isNode), (54, false, 3, 4, C_X4_between)]) (List.forall_mem_cons.mpr ⟨cr_S (d_X4_isNode l) (by decide +kernel) (by decide +kernel) ⟨rfl, rfl⟩ ⟨Nat.le_of_ble_eq_true rfl, Nat.le_of_ble_eq_true rfl⟩, List.forall_mem_cons.mpr ⟨cr_V (d_X4_between l) rfl (by decide +kernel) (by decide +kernel) ⟨rfl, rfl⟩ ⟨Nat.le_of_ble_eq_true rfl, Nat.le_of_ble_eq_true rfl⟩, fun _ h => absurd h List.not_mem_nil⟩⟩) (by
  intro As X post hC
  unfold C_X4_edgeBetween at hC
  split at hC
  next b a c =>
    obtain ⟨rfl, g, hR0, hpost⟩ := hC
    refine ⟨Nat.le_of_ble_eq_true rfl, fun R hR => ?_⟩
    obtain ⟨⟨p1, p2, p3, p4, p5, p6, p7⟩, q1, q2, q3, q4, q5, q6, q7⟩ := sh_m
    obtain ⟨⟨w1, w2, w3, w4⟩, m1, m2, m3, m4, m5, m6⟩ := id hR0
    have hn := w1.1
    have ok := fun {r : Int32} => pubM_same (r := r) hR0 hpost
    refine go hR [] 200 ?_
    simp only [lv_args, ↓reduceIte, Nat.reduceEqDiff, Nat.reduceAdd, Nat.reduceLeDiff, reduceCtorEq, and_true, true_and, false_and, and_false, true_or, or_true, or_false, false_or, true_implies, false_implies, implies_true, not_true_eq_false, not_false_eq_true, eq_self, fx_s, ↓run_s, run_0, ↓rs_n, ↓rs_c, as_s, ls_n, ls_c, lc_s, lget_c, fX4_edgeBetween_0, ↓ex_iload_n, ↓xI_i, ↓xIg_c, fX4_edgeBetween_1, ↓ex_invokestatic, ↓xc_0, ↓xc_s, ↓xc_1, ↓pk_s, ↓k_s, ↓k_n, catS_n, catS_c, rOk_c, ct_i, ct_l, ct_r, ↓pk_t, fX4_edgeBetween_4, ↓ex_ifCond_eq, ↓s1I_c, fX4_edgeBetween_7, fX4_edgeBetween_8, fX4_edgeBetween_11, fX4_edgeBetween_14, ↓ex_aload_n, ↓xR_r, ↓xRg_c, fX4_edgeBetween_15, fX4_edgeBetween_16, fX4_edgeBetween_17, ↓ex_invokevirtual, ↓pk_f, fX4_edgeBetween_20, ↓ex_goto, fX4_edgeBetween_23, ↓ex_bipush, fX4_edgeBetween_25, ↓ex_ireturn, ↓rt_i, p1, p2, q1, q2, ↓C_X4_isNode, ↓C_X4_between, b2i_0, i10, tI_m5, tI_m4, tI_m3, tI_m2, tI_m1, tI_0, tI_1, tI_2, tI_3, tI_4, tI_5, tI_7, tI_8, tI_10, tI_12, tI_30, tI_31, tI_32, tI_47, tI_48, tI_57, tI_59, tI_42, tI_43, tI_45, tI_61, tI_62, tI_100, tI_120, tI_255, tI_1000, vr_0, vr_1, vr_2, clamp0, cl_1, cl_2, cl_3, vq_0, vq_1, vq_2, vq_3, Nat.add_zero, Classical.not_not, ↓reduceIte, not_true_eq_false, not_false_eq_true, false_implies, true_implies, implies_true, and_true, true_and, and_false, false_and, or_true, true_or, or_false, false_or, Classical.not_not, ite_true, ite_false]
    by_cases ha : inR a 0 7
    case neg => (simp only [ha, ↓reduceIte, not_true_eq_false, not_false_eq_true, false_implies, true_implies, implies_true, and_true, true_and, and_false, false_and, or_true, true_or, or_false, false_or, Classical.not_not, ite_true, ite_false]; exact ok (by unfold s_edgeBetween; rw [cif_f (fun z => ha z.1)]))
    by_cases hc : inR c 0 7
    case neg => (simp only [ha, hc, ↓reduceIte, not_true_eq_false, not_false_eq_true, false_implies, true_implies, implies_true, and_true, true_and, and_false, false_and, or_true, true_or, or_false, false_or, Classical.not_not, ite_true, ite_false]; exact ok (by unfold s_edgeBetween; rw [cif_f (fun z => hc z.2)]))
    simp only [ha, hc, ↓reduceIte, not_true_eq_false, not_false_eq_true, false_implies, true_implies, implies_true, and_true, true_and, and_false, false_and, or_true, true_or, or_false, false_or, Classical.not_not, ite_true, ite_false]
    obtain ⟨-, ha2, ha3⟩ := inR_cl (lo := 0) (hi := 7) (by omega) ha
    obtain ⟨-, hc2, hc3⟩ := inR_cl (lo := 0) (hi := 7) (by omega) hc
    exact ⟨g.now, cl a, cl c, ⟨m1, w1, ha3, hc3, by omega, by omega⟩, ok (by unfold s_edgeBetween; rw [cif_t ⟨ha, hc⟩])⟩
  next => exact hC.elim)
noncomputable def C_X4_setHorizon : CT := fun As X K => match As with
  | [.ref b, .int h] => b = 51 ∧ PubMI (s_setHorizon h) X K
  | _ => False
set_option maxRecDepth 20000 in
set_option maxHeartbeats 4000000 in
theorem d_X4_setHorizon (l : Launch) : Does l yX4_setHorizon (wY yX4_setHorizon cX4_setHorizon 3 (retT 0)) (rmF 2) C_X4_setHorizon := does_of (rt := 0) (by decide +kernel) tkX4_setHorizon (calls := [(42, true, 3, 4, C_X4_in), (57, false, 1, 4, C_X4_saves)]) (List.forall_mem_cons.mpr ⟨cr_S (d_X4_in l) (by decide +kernel) (by decide +kernel) ⟨rfl, rfl⟩ ⟨Nat.le_of_ble_eq_true rfl, Nat.le_of_ble_eq_true rfl⟩, List.forall_mem_cons.mpr ⟨cr_V (d_X4_saves l) rfl (by decide +kernel) (by decide +kernel) ⟨rfl, rfl⟩ ⟨Nat.le_of_ble_eq_true rfl, Nat.le_of_ble_eq_true rfl⟩, fun _ h => absurd h List.not_mem_nil⟩⟩) (by
  intro As X post hC
  unfold C_X4_setHorizon at hC
  split at hC
  next b h =>
    obtain ⟨rfl, g, hR0, hpost⟩ := hC
    refine ⟨Nat.le_of_ble_eq_true rfl, fun R hR => ?_⟩
    obtain ⟨⟨p1, p2, p3, p4, p5, p6, p7⟩, q1, q2, q3, q4, q5, q6, q7⟩ := sh_m
    obtain ⟨⟨w1, w2, w3, w4⟩, m1, m2, m3, m4, m5, m6⟩ := id hR0
    have hn := w1.1
    have ok := fun {r : Int32} => pubM_same (r := r) hR0 hpost
    refine go hR [] 200 ?_
    simp only [lv_args, ↓reduceIte, Nat.reduceEqDiff, Nat.reduceAdd, Nat.reduceLeDiff, reduceCtorEq, and_true, true_and, false_and, and_false, true_or, or_true, or_false, false_or, true_implies, false_implies, implies_true, not_true_eq_false, not_false_eq_true, eq_self, fx_s, ↓run_s, run_0, ↓rs_n, ↓rs_c, as_s, ls_n, ls_c, lc_s, lget_c, fX4_setHorizon_0, ↓ex_iload_n, ↓xI_i, ↓xIg_c, fX4_setHorizon_1, ↓ex_iconst, fX4_setHorizon_2, ↓ex_bipush, fX4_setHorizon_4, ↓ex_invokestatic, ↓xc_0, ↓xc_s, ↓xc_1, ↓pk_s, ↓k_s, ↓k_n, catS_n, catS_c, rOk_c, ct_i, ct_l, ct_r, ↓pk_t, fX4_setHorizon_7, ↓ex_ifCond_ne, ↓s1I_c, fX4_setHorizon_10, fX4_setHorizon_12, ↓ex_ireturn, ↓rt_i, fX4_setHorizon_13, ↓ex_aload_n, ↓xR_r, ↓xRg_c, fX4_setHorizon_14, ↓ex_invokevirtual, ↓pk_f, fX4_setHorizon_17, fX4_setHorizon_18, ↓ex_getfield, ↓s1R_c, ↓fv_4_0, fX4_setHorizon_21, fX4_setHorizon_22, ↓ex_iaload, ↓sRI_c, ↓scrR_n, fX4_setHorizon_23, ↓ex_istore_n, ↓lsto_e, ↓lrmK_n, ↓lrmK_f, fX4_setHorizon_24, fX4_setHorizon_25, fX4_setHorizon_28, fX4_setHorizon_29, fX4_setHorizon_30, ↓ex_iastore, ↓sRII_c, fX4_setHorizon_31, fX4_setHorizon_32, p1, p2, q1, q2, ↓C_X4_in, ↓C_X4_saves, b2i_0, i10, tI_m5, tI_m4, tI_m3, tI_m2, tI_m1, tI_0, tI_1, tI_2, tI_3, tI_4, tI_5, tI_7, tI_8, tI_10, tI_12, tI_30, tI_31, tI_32, tI_47, tI_48, tI_57, tI_59, tI_42, tI_43, tI_45, tI_61, tI_62, tI_100, tI_120, tI_255, tI_1000, vr_0, vr_1, vr_2, clamp0, cl_1, cl_2, cl_3, vq_0, vq_1, vq_2, vq_3, Nat.add_zero, Classical.not_not, ↓reduceIte, not_true_eq_false, not_false_eq_true, false_implies, true_implies, implies_true, and_true, true_and, and_false, false_and, or_true, true_or, or_false, false_or, Classical.not_not, ite_true, ite_false]
    by_cases hh : inR h 0 30
    case neg => (simp only [hh, ↓reduceIte, not_true_eq_false, not_false_eq_true, false_implies, true_implies, implies_true, and_true, true_and, and_false, false_and, or_true, true_or, or_false, false_or, Classical.not_not, ite_true, ite_false]; exact ok (by unfold s_setHorizon; rw [cif_f hh]))
    simp only [hh, ↓reduceIte, not_true_eq_false, not_false_eq_true, false_implies, true_implies, implies_true, and_true, true_and, and_false, false_and, or_true, true_or, or_false, false_or, Classical.not_not, ite_true, ite_false]
    obtain ⟨-, h2, h3⟩ := inR_cl (lo := 0) (hi := 30) (by omega) hh
    refine ⟨g, hR0, fun Y hY hFY hY2 => ?_⟩
    have hsp : s_setHorizon h g = (nI g.now.H, withS (s_hor g.now (cl h)) (s_rem g)) := by unfold s_setHorizon; rw [cif_t hh]
    have hYs := hY.remNow
    have hset := RSf_hor hYs (cl h)
    rw [← h3] at hset
    have hfin := hpost (sI Y 52 1 h) (by
      rw [hsp]
      refine hY.setNow (fr_52 Y 1 h).m52 hY2 (by rw [sI_1, if_pos rfl]; exact hset) ⟨w1.1, w1.2.1, w1.2.2.1, h2, w1.2.2.2.2⟩ (fun p hp => ?_)
      rw [sI_1, if_pos rfl, upd_a, if_neg (by omega)]) (hFY.c51.tr (fr_52 Y 1 h).c52)
    rw [hsp] at hfin
    rw [hYs.2.1]
    exact hfin
  next => exact hC.elim)
noncomputable def C_X4_setSensors : CT := fun As X K => match As with
  | [.ref b, .int h] => b = 51 ∧ PubMI (s_setSensors h) X K
  | _ => False
set_option maxRecDepth 20000 in
set_option maxHeartbeats 4000000 in
theorem d_X4_setSensors (l : Launch) : Does l yX4_setSensors (wY yX4_setSensors cX4_setSensors 3 (retT 0)) (rmF 2) C_X4_setSensors := does_of (rt := 0) (by decide +kernel) tkX4_setSensors (calls := [(42, true, 3, 4, C_X4_in), (57, false, 1, 4, C_X4_saves)]) (List.forall_mem_cons.mpr ⟨cr_S (d_X4_in l) (by decide +kernel) (by decide +kernel) ⟨rfl, rfl⟩ ⟨Nat.le_of_ble_eq_true rfl, Nat.le_of_ble_eq_true rfl⟩, List.forall_mem_cons.mpr ⟨cr_V (d_X4_saves l) rfl (by decide +kernel) (by decide +kernel) ⟨rfl, rfl⟩ ⟨Nat.le_of_ble_eq_true rfl, Nat.le_of_ble_eq_true rfl⟩, fun _ h => absurd h List.not_mem_nil⟩⟩) (by
  intro As X post hC
  unfold C_X4_setSensors at hC
  split at hC
  next b h =>
    obtain ⟨rfl, g, hR0, hpost⟩ := hC
    refine ⟨Nat.le_of_ble_eq_true rfl, fun R hR => ?_⟩
    obtain ⟨⟨p1, p2, p3, p4, p5, p6, p7⟩, q1, q2, q3, q4, q5, q6, q7⟩ := sh_m
    obtain ⟨⟨w1, w2, w3, w4⟩, m1, m2, m3, m4, m5, m6⟩ := id hR0
    have hn := w1.1
    have ok := fun {r : Int32} => pubM_same (r := r) hR0 hpost
    refine go hR [] 200 ?_
    simp only [lv_args, ↓reduceIte, Nat.reduceEqDiff, Nat.reduceAdd, Nat.reduceLeDiff, reduceCtorEq, and_true, true_and, false_and, and_false, true_or, or_true, or_false, false_or, true_implies, false_implies, implies_true, not_true_eq_false, not_false_eq_true, eq_self, fx_s, ↓run_s, run_0, ↓rs_n, ↓rs_c, as_s, ls_n, ls_c, lc_s, lget_c, fX4_setSensors_0, ↓ex_iload_n, ↓xI_i, ↓xIg_c, fX4_setSensors_1, ↓ex_iconst, fX4_setSensors_2, ↓ex_sipush, fX4_setSensors_5, ↓ex_invokestatic, ↓xc_0, ↓xc_s, ↓xc_1, ↓pk_s, ↓k_s, ↓k_n, catS_n, catS_c, rOk_c, ct_i, ct_l, ct_r, ↓pk_t, fX4_setSensors_8, ↓ex_ifCond_ne, ↓s1I_c, fX4_setSensors_11, ↓ex_bipush, fX4_setSensors_13, ↓ex_ireturn, ↓rt_i, fX4_setSensors_14, ↓ex_aload_n, ↓xR_r, ↓xRg_c, fX4_setSensors_15, ↓ex_invokevirtual, ↓pk_f, fX4_setSensors_18, fX4_setSensors_19, ↓ex_getfield, ↓s1R_c, ↓fv_4_0, fX4_setSensors_22, fX4_setSensors_23, ↓ex_iaload, ↓sRI_c, ↓scrR_n, fX4_setSensors_24, ↓ex_istore_n, ↓lsto_e, ↓lrmK_n, ↓lrmK_f, fX4_setSensors_25, fX4_setSensors_26, fX4_setSensors_29, fX4_setSensors_30, fX4_setSensors_31, ↓ex_iastore, ↓sRII_c, fX4_setSensors_32, fX4_setSensors_33, p1, p2, q1, q2, ↓C_X4_in, ↓C_X4_saves, b2i_0, i10, tI_m5, tI_m4, tI_m3, tI_m2, tI_m1, tI_0, tI_1, tI_2, tI_3, tI_4, tI_5, tI_7, tI_8, tI_10, tI_12, tI_30, tI_31, tI_32, tI_47, tI_48, tI_57, tI_59, tI_42, tI_43, tI_45, tI_61, tI_62, tI_100, tI_120, tI_255, tI_1000, vr_0, vr_1, vr_2, clamp0, cl_1, cl_2, cl_3, vq_0, vq_1, vq_2, vq_3, Nat.add_zero, Classical.not_not, ↓reduceIte, not_true_eq_false, not_false_eq_true, false_implies, true_implies, implies_true, and_true, true_and, and_false, false_and, or_true, true_or, or_false, false_or, Classical.not_not, ite_true, ite_false]
    by_cases hh : inR h 0 255
    case neg => (simp only [hh, ↓reduceIte, not_true_eq_false, not_false_eq_true, false_implies, true_implies, implies_true, and_true, true_and, and_false, false_and, or_true, true_or, or_false, false_or, Classical.not_not, ite_true, ite_false]; exact ok (by unfold s_setSensors; rw [cif_f hh]))
    simp only [hh, ↓reduceIte, not_true_eq_false, not_false_eq_true, false_implies, true_implies, implies_true, and_true, true_and, and_false, false_and, or_true, true_or, or_false, false_or, Classical.not_not, ite_true, ite_false]
    obtain ⟨-, h2, h3⟩ := inR_cl (lo := 0) (hi := 255) (by omega) hh
    refine ⟨g, hR0, fun Y hY hFY hY2 => ?_⟩
    have hsp : s_setSensors h g = (nI g.now.Q, withS (s_sen g.now (cl h)) (s_rem g)) := by unfold s_setSensors; rw [cif_t hh]
    have hYs := hY.remNow
    have hset := RSf_sen hYs (cl h)
    rw [← h3] at hset
    have hfin := hpost (sI Y 52 2 h) (by
      rw [hsp]
      refine hY.setNow (fr_52 Y 2 h).m52 hY2 (by rw [sI_1, if_pos rfl]; exact hset) ⟨w1.1, w1.2.1, w1.2.2.1, w1.2.2.2.1, w1.2.2.2.2.1, h2⟩ (fun p hp => ?_)
      rw [sI_1, if_pos rfl, upd_a, if_neg (by omega)]) (hFY.c51.tr (fr_52 Y 2 h).c52)
    rw [hsp] at hfin
    rw [hYs.2.2.1]
    exact hfin
  next => exact hC.elim)
noncomputable def C_X4_becomes : CT := fun As X K => match As with
  | [.ref b, .int v, .int t] => ∃ (g : SG) (k : Nat), (b = 51 ∧ RelM X g ∧ v = nI k ∧ k < 8 ∧ okS t) ∧ ∀ X', RelM X' (withS (s_see g.now k t) (s_rem g)) → FrC X X' → K (some (.int (g.now.S k))) X'
  | _ => False
set_option maxRecDepth 20000 in
set_option maxHeartbeats 4000000 in
theorem d_X4_becomes (l : Launch) : Does l yX4_becomes (wY yX4_becomes cX4_becomes 4 (retT 0)) (rmF 2) C_X4_becomes := does_of (rt := 0) (by decide +kernel) tkX4_becomes (calls := [(57, false, 1, 4, C_X4_saves)]) (List.forall_mem_cons.mpr ⟨cr_V (d_X4_saves l) rfl (by decide +kernel) (by decide +kernel) ⟨rfl, rfl⟩ ⟨Nat.le_of_ble_eq_true rfl, Nat.le_of_ble_eq_true rfl⟩, fun _ h => absurd h List.not_mem_nil⟩) (by
  intro As X post hC
  unfold C_X4_becomes at hC
  split at hC
  next b v t =>
    obtain ⟨g, k, ⟨rfl, hR0, rfl, hk, ht⟩, hpost⟩ := hC
    refine ⟨Nat.le_of_ble_eq_true rfl, fun R hR => ?_⟩
    obtain ⟨⟨p1, p2, p3, p4, p5, p6, p7⟩, q1, q2, q3, q4, q5, q6, q7⟩ := sh_m
    obtain ⟨⟨w1, w2, w3, w4⟩, m1, m2, m3, m4, m5, m6⟩ := id hR0
    refine go hR [] 200 ?_
    simp only [lv_args, ↓reduceIte, Nat.reduceEqDiff, Nat.reduceAdd, Nat.reduceLeDiff, reduceCtorEq, and_true, true_and, false_and, and_false, true_or, or_true, or_false, false_or, true_implies, false_implies, implies_true, not_true_eq_false, not_false_eq_true, eq_self, fx_s, ↓run_s, run_0, ↓rs_n, ↓rs_c, as_s, ls_n, ls_c, lc_s, lget_c, fX4_becomes_0, ↓ex_aload_n, ↓xR_r, ↓xRg_c, fX4_becomes_1, ↓ex_invokevirtual, ↓xc_0, ↓xc_s, ↓xc_1, ↓pk_s, ↓k_s, ↓k_n, catS_n, catS_c, rOk_c, ct_i, ct_l, ct_r, ↓pk_f, fX4_becomes_4, fX4_becomes_5, ↓ex_getfield, ↓s1R_c, ↓fv_4_0, fX4_becomes_8, ↓ex_bipush, fX4_becomes_10, ↓ex_iload_n, ↓xI_i, ↓xIg_c, fX4_becomes_11, ↓ex_iadd, ↓s2I_c, fX4_becomes_12, ↓ex_iaload, ↓sRI_c, ↓scrR_n, fX4_becomes_13, ↓ex_istore_n, ↓s1I_c, ↓lsto_e, ↓lrmK_n, ↓lrmK_f, fX4_becomes_14, fX4_becomes_15, fX4_becomes_18, fX4_becomes_20, fX4_becomes_21, fX4_becomes_22, fX4_becomes_23, ↓ex_iastore, ↓sRII_c, fX4_becomes_24, fX4_becomes_25, ↓ex_ireturn, ↓rt_i, p1, p2, q1, q2, ↓C_X4_saves, ix_v, clampN (n := 51 + k) (by omega), ↓reduceIte, not_true_eq_false, not_false_eq_true, false_implies, true_implies, implies_true, and_true, true_and, and_false, false_and, or_true, true_or, or_false, false_or, Classical.not_not, ite_true, ite_false]
    refine ⟨g, hR0, fun Y hY hFY hY2 => ?_⟩
    have hYs := hY.remNow
    refine ⟨vp_inN (by omega) (by omega), vp_inN (by omega) (by omega), ?_⟩
    have hfin := hpost (sI Y 52 (51 + k) t) (hY.setNow (fr_52 Y (51 + k) t).m52 hY2 (by rw [sI_1, if_pos rfl]; exact RSf_see hYs w1.1 k t) (WF_see w1 ht) (fun p hp => by rw [sI_1, if_pos rfl, upd_a, if_neg (by omega)])) (hFY.c51.tr (fr_52 Y (51 + k) t).c52)
    rw [hYs.2.2.2.2 k hk]
    exact hfin
  next => exact hC.elim)
noncomputable def C_X4_observe : CT := fun As X K => match As with
  | [.ref b, .int v, .int t] => b = 51 ∧ PubMI (s_observe v t) X K
  | _ => False
set_option maxRecDepth 20000 in
set_option maxHeartbeats 4000000 in
theorem d_X4_observe (l : Launch) : Does l yX4_observe (wY yX4_observe cX4_observe 3 (retT 0)) (rmF 3) C_X4_observe := does_of (rt := 0) (by decide +kernel) tkX4_observe (calls := [(50, true, 1, 4, C_X4_isNode), (42, true, 3, 4, C_X4_in), (71, false, 3, 4, C_X4_becomes)]) (List.forall_mem_cons.mpr ⟨cr_S (d_X4_isNode l) (by decide +kernel) (by decide +kernel) ⟨rfl, rfl⟩ ⟨Nat.le_of_ble_eq_true rfl, Nat.le_of_ble_eq_true rfl⟩, List.forall_mem_cons.mpr ⟨cr_S (d_X4_in l) (by decide +kernel) (by decide +kernel) ⟨rfl, rfl⟩ ⟨Nat.le_of_ble_eq_true rfl, Nat.le_of_ble_eq_true rfl⟩, List.forall_mem_cons.mpr ⟨cr_V (d_X4_becomes l) rfl (by decide +kernel) (by decide +kernel) ⟨rfl, rfl⟩ ⟨Nat.le_of_ble_eq_true rfl, Nat.le_of_ble_eq_true rfl⟩, fun _ h => absurd h List.not_mem_nil⟩⟩⟩) (by
  intro As X post hC
  unfold C_X4_observe at hC
  split at hC
  next b v t =>
    obtain ⟨rfl, g, hR0, hpost⟩ := hC
    refine ⟨Nat.le_of_ble_eq_true rfl, fun R hR => ?_⟩
    obtain ⟨⟨p1, p2, p3, p4, p5, p6, p7⟩, q1, q2, q3, q4, q5, q6, q7⟩ := sh_m
    obtain ⟨⟨w1, w2, w3, w4⟩, m1, m2, m3, m4, m5, m6⟩ := id hR0
    have hn := w1.1
    have ok := fun {r : Int32} => pubM_same (r := r) hR0 hpost
    refine go hR [] 200 ?_
    simp only [lv_args, ↓reduceIte, Nat.reduceEqDiff, Nat.reduceAdd, Nat.reduceLeDiff, reduceCtorEq, and_true, true_and, false_and, and_false, true_or, or_true, or_false, false_or, true_implies, false_implies, implies_true, not_true_eq_false, not_false_eq_true, eq_self, fx_s, ↓run_s, run_0, ↓rs_n, ↓rs_c, as_s, ls_n, ls_c, lc_s, lget_c, fX4_observe_0, ↓ex_iload_n, ↓xI_i, ↓xIg_c, fX4_observe_1, ↓ex_invokestatic, ↓xc_0, ↓xc_s, ↓xc_1, ↓pk_s, ↓k_s, ↓k_n, catS_n, catS_c, rOk_c, ct_i, ct_l, ct_r, ↓pk_t, fX4_observe_4, ↓ex_ifCond_ne, ↓s1I_c, fX4_observe_7, ↓ex_bipush, fX4_observe_9, ↓ex_ireturn, ↓rt_i, fX4_observe_10, fX4_observe_11, ↓ex_iconst, fX4_observe_12, fX4_observe_14, fX4_observe_17, ↓ex_ifCond_eq, fX4_observe_20, ↓ex_aload_n, ↓xR_r, ↓xRg_c, fX4_observe_21, fX4_observe_22, fX4_observe_23, ↓ex_invokevirtual, ↓pk_f, fX4_observe_26, ↓ex_goto, fX4_observe_29, fX4_observe_31, p1, p2, q1, q2, ↓C_X4_isNode, ↓C_X4_in, ↓C_X4_becomes, b2i_0, i10, tI_m5, tI_m4, tI_m3, tI_m2, tI_m1, tI_0, tI_1, tI_2, tI_3, tI_4, tI_5, tI_7, tI_8, tI_10, tI_12, tI_30, tI_31, tI_32, tI_47, tI_48, tI_57, tI_59, tI_42, tI_43, tI_45, tI_61, tI_62, tI_100, tI_120, tI_255, tI_1000, vr_0, vr_1, vr_2, clamp0, cl_1, cl_2, cl_3, vq_0, vq_1, vq_2, vq_3, Nat.add_zero, Classical.not_not, ↓reduceIte, not_true_eq_false, not_false_eq_true, false_implies, true_implies, implies_true, and_true, true_and, and_false, false_and, or_true, true_or, or_false, false_or, Classical.not_not, ite_true, ite_false]
    by_cases hv : inR v 0 7
    case neg => (simp only [hv, ↓reduceIte, not_true_eq_false, not_false_eq_true, false_implies, true_implies, implies_true, and_true, true_and, and_false, false_and, or_true, true_or, or_false, false_or, Classical.not_not, ite_true, ite_false]; exact ok (by unfold s_observe; rw [cif_f hv]))
    by_cases ht : inR t (-1) 30
    case neg => (simp only [hv, ht, ↓reduceIte, not_true_eq_false, not_false_eq_true, false_implies, true_implies, implies_true, and_true, true_and, and_false, false_and, or_true, true_or, or_false, false_or, Classical.not_not, ite_true, ite_false]; exact ok (by unfold s_observe; rw [cif_t hv, cif_f ht]))
    simp only [hv, ht, ↓reduceIte, not_true_eq_false, not_false_eq_true, false_implies, true_implies, implies_true, and_true, true_and, and_false, false_and, or_true, true_or, or_false, false_or, Classical.not_not, ite_true, ite_false]
    obtain ⟨-, h2, h3⟩ := inR_cl (lo := 0) (hi := 7) (by omega) hv
    have hsp : s_observe v t g = (g.now.S (cl v), withS (s_see g.now (cl v) t) (s_rem g)) := by unfold s_observe; rw [cif_t hv, cif_t ht]
    rw [hsp] at hpost
    exact ⟨g, cl v, ⟨hR0, h3, by omega, okS_of ht⟩, hpost⟩
  next => exact hC.elim)
noncomputable def C_X4_forget : CT := fun As X K => match As with
  | [.ref b, .int v] => b = 51 ∧ PubMI (s_forget v) X K
  | _ => False
set_option maxRecDepth 20000 in
set_option maxHeartbeats 4000000 in
theorem d_X4_forget (l : Launch) : Does l yX4_forget (wY yX4_forget cX4_forget 2 (retT 0)) (rmF 3) C_X4_forget := does_of (rt := 0) (by decide +kernel) tkX4_forget (calls := [(50, true, 1, 4, C_X4_isNode), (71, false, 3, 4, C_X4_becomes)]) (List.forall_mem_cons.mpr ⟨cr_S (d_X4_isNode l) (by decide +kernel) (by decide +kernel) ⟨rfl, rfl⟩ ⟨Nat.le_of_ble_eq_true rfl, Nat.le_of_ble_eq_true rfl⟩, List.forall_mem_cons.mpr ⟨cr_V (d_X4_becomes l) rfl (by decide +kernel) (by decide +kernel) ⟨rfl, rfl⟩ ⟨Nat.le_of_ble_eq_true rfl, Nat.le_of_ble_eq_true rfl⟩, fun _ h => absurd h List.not_mem_nil⟩⟩) (by
  intro As X post hC
  unfold C_X4_forget at hC
  split at hC
  next b v =>
    obtain ⟨rfl, g, hR0, hpost⟩ := hC
    refine ⟨Nat.le_of_ble_eq_true rfl, fun R hR => ?_⟩
    obtain ⟨⟨p1, p2, p3, p4, p5, p6, p7⟩, q1, q2, q3, q4, q5, q6, q7⟩ := sh_m
    obtain ⟨⟨w1, w2, w3, w4⟩, m1, m2, m3, m4, m5, m6⟩ := id hR0
    have hn := w1.1
    have ok := fun {r : Int32} => pubM_same (r := r) hR0 hpost
    refine go hR [] 200 ?_
    simp only [lv_args, ↓reduceIte, Nat.reduceEqDiff, Nat.reduceAdd, Nat.reduceLeDiff, reduceCtorEq, and_true, true_and, false_and, and_false, true_or, or_true, or_false, false_or, true_implies, false_implies, implies_true, not_true_eq_false, not_false_eq_true, eq_self, fx_s, ↓run_s, run_0, ↓rs_n, ↓rs_c, as_s, ls_n, ls_c, lc_s, lget_c, fX4_forget_0, ↓ex_iload_n, ↓xI_i, ↓xIg_c, fX4_forget_1, ↓ex_invokestatic, ↓xc_0, ↓xc_s, ↓xc_1, ↓pk_s, ↓k_s, ↓k_n, catS_n, catS_c, rOk_c, ct_i, ct_l, ct_r, ↓pk_t, fX4_forget_4, ↓ex_ifCond_eq, ↓s1I_c, fX4_forget_7, ↓ex_aload_n, ↓xR_r, ↓xRg_c, fX4_forget_8, fX4_forget_9, ↓ex_bipush, fX4_forget_11, ↓ex_invokevirtual, ↓pk_f, fX4_forget_14, ↓ex_goto, fX4_forget_17, fX4_forget_19, ↓ex_ireturn, ↓rt_i, p1, p2, q1, q2, ↓C_X4_isNode, ↓C_X4_becomes, b2i_0, i10, tI_m5, tI_m4, tI_m3, tI_m2, tI_m1, tI_0, tI_1, tI_2, tI_3, tI_4, tI_5, tI_7, tI_8, tI_10, tI_12, tI_30, tI_31, tI_32, tI_47, tI_48, tI_57, tI_59, tI_42, tI_43, tI_45, tI_61, tI_62, tI_100, tI_120, tI_255, tI_1000, vr_0, vr_1, vr_2, clamp0, cl_1, cl_2, cl_3, vq_0, vq_1, vq_2, vq_3, Nat.add_zero, Classical.not_not, ↓reduceIte, not_true_eq_false, not_false_eq_true, false_implies, true_implies, implies_true, and_true, true_and, and_false, false_and, or_true, true_or, or_false, false_or, Classical.not_not, ite_true, ite_false]
    by_cases hv : inR v 0 7
    case neg => (simp only [hv, ↓reduceIte, not_true_eq_false, not_false_eq_true, false_implies, true_implies, implies_true, and_true, true_and, and_false, false_and, or_true, true_or, or_false, false_or, Classical.not_not, ite_true, ite_false]; exact ok (by unfold s_forget; rw [cif_f hv]))
    simp only [hv, ↓reduceIte, not_true_eq_false, not_false_eq_true, false_implies, true_implies, implies_true, and_true, true_and, and_false, false_and, or_true, true_or, or_false, false_or, Classical.not_not, ite_true, ite_false]
    obtain ⟨-, h2, h3⟩ := inR_cl (lo := 0) (hi := 7) (by omega) hv
    have hsp : s_forget v g = (g.now.S (cl v), withS (s_see g.now (cl v) 100) (s_rem g)) := by unfold s_forget; rw [cif_t hv]
    rw [hsp] at hpost
    exact ⟨g, cl v, ⟨hR0, h3, by omega, Or.inr (Or.inl rfl)⟩, hpost⟩
  next => exact hC.elim)
noncomputable def C_X4_observed : CT := fun As X K => match As with
  | [.ref b, .int v] => b = 51 ∧ PubMI (s_observed v) X K
  | _ => False
set_option maxRecDepth 20000 in
set_option maxHeartbeats 4000000 in
theorem d_X4_observed (l : Launch) : Does l yX4_observed (wY yX4_observed cX4_observed 2 (retT 0)) (rmF 2) C_X4_observed := does_of (rt := 0) (by decide +kernel) tkX4_observed (calls := [(50, true, 1, 4, C_X4_isNode)]) (List.forall_mem_cons.mpr ⟨cr_S (d_X4_isNode l) (by decide +kernel) (by decide +kernel) ⟨rfl, rfl⟩ ⟨Nat.le_of_ble_eq_true rfl, Nat.le_of_ble_eq_true rfl⟩, fun _ h => absurd h List.not_mem_nil⟩) (by
  intro As X post hC
  unfold C_X4_observed at hC
  split at hC
  next b v =>
    obtain ⟨rfl, g, hR0, hpost⟩ := hC
    refine ⟨Nat.le_of_ble_eq_true rfl, fun R hR => ?_⟩
    obtain ⟨⟨p1, p2, p3, p4, p5, p6, p7⟩, q1, q2, q3, q4, q5, q6, q7⟩ := sh_m
    obtain ⟨⟨w1, w2, w3, w4⟩, m1, m2, m3, m4, m5, m6⟩ := id hR0
    have hn := w1.1
    have ok := fun {r : Int32} => pubM_same (r := r) hR0 hpost
    refine go hR [] 200 ?_
    simp only [lv_args, ↓reduceIte, Nat.reduceEqDiff, Nat.reduceAdd, Nat.reduceLeDiff, reduceCtorEq, and_true, true_and, false_and, and_false, true_or, or_true, or_false, false_or, true_implies, false_implies, implies_true, not_true_eq_false, not_false_eq_true, eq_self, fx_s, ↓run_s, run_0, ↓rs_n, ↓rs_c, as_s, ls_n, ls_c, lc_s, lget_c, fX4_observed_0, ↓ex_iload_n, ↓xI_i, ↓xIg_c, fX4_observed_1, ↓ex_invokestatic, ↓xc_0, ↓xc_s, ↓xc_1, ↓pk_s, ↓k_s, ↓k_n, catS_n, catS_c, rOk_c, ct_i, ct_l, ct_r, ↓pk_t, fX4_observed_4, ↓ex_ifCond_eq, ↓s1I_c, fX4_observed_7, ↓ex_aload_n, ↓xR_r, ↓xRg_c, fX4_observed_8, ↓ex_getfield, ↓s1R_c, ↓fv_4_0, fX4_observed_11, ↓ex_bipush, fX4_observed_13, fX4_observed_14, ↓ex_iadd, ↓s2I_c, fX4_observed_15, ↓ex_iaload, ↓sRI_c, ↓scrR_n, fX4_observed_16, ↓ex_goto, fX4_observed_19, fX4_observed_21, ↓ex_ireturn, ↓rt_i, p1, p2, q1, q2, ↓C_X4_isNode, b2i_0, i10, tI_m5, tI_m4, tI_m3, tI_m2, tI_m1, tI_0, tI_1, tI_2, tI_3, tI_4, tI_5, tI_7, tI_8, tI_10, tI_12, tI_30, tI_31, tI_32, tI_47, tI_48, tI_57, tI_59, tI_42, tI_43, tI_45, tI_61, tI_62, tI_100, tI_120, tI_255, tI_1000, vr_0, vr_1, vr_2, clamp0, cl_1, cl_2, cl_3, vq_0, vq_1, vq_2, vq_3, Nat.add_zero, Classical.not_not, ↓reduceIte, not_true_eq_false, not_false_eq_true, false_implies, true_implies, implies_true, and_true, true_and, and_false, false_and, or_true, true_or, or_false, false_or, Classical.not_not, ite_true, ite_false]
    by_cases hv : inR v 0 7
    case neg => (simp only [hv, ↓reduceIte, not_true_eq_false, not_false_eq_true, false_implies, true_implies, implies_true, and_true, true_and, and_false, false_and, or_true, true_or, or_false, false_or, Classical.not_not, ite_true, ite_false]; exact ok (by unfold s_observed; rw [cif_f hv]))
    obtain ⟨-, h2, h3⟩ := inR_cl (lo := 0) (hi := 7) (by omega) hv
    have e1 : (51 : Int32) + v = nI (51 + cl v) := by rw [h3, ix_v, ← h3]
    simp only [hv, e1, clampN (n := 51 + cl v) (by omega), ↓reduceIte, not_true_eq_false, not_false_eq_true, false_implies, true_implies, implies_true, and_true, true_and, and_false, false_and, or_true, true_or, or_false, false_or, Classical.not_not, ite_true, ite_false]
    rw [m1.2.2.2.2 (cl v) (by omega)]
    exact ⟨vp_inN (by omega) (by omega), ok (by unfold s_observed; rw [cif_t hv])⟩
  next => exact hC.elim)
end MPUB1
