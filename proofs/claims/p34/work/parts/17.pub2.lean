section PUB2
noncomputable def C_X3_removeEdge : CT := fun As X K => match As with
  | [.ref b, .int e] => b = 0 ∧ PubI (s_removeEdge e) X K
  | _ => False
set_option maxRecDepth 20000 in
set_option maxHeartbeats 4000000 in
theorem d_X3_removeEdge (l : Launch) : Does l yX3_removeEdge (wY yX3_removeEdge cX3_removeEdge 2 (retT 0)) (rmF 2) C_X3_removeEdge := does_of (rt := 0) (by decide +kernel) tkX3_removeEdge (calls := [(67, false, 2, 0, C_X0_hasEdge), (60, false, 1, 3, C_X3_remember), (77, false, 2, 0, C_X0_drop)]) (List.forall_mem_cons.mpr ⟨cr_NV (d_X0_hasEdge l) rfl (by decide +kernel) (by decide +kernel) (by decide +kernel) ⟨rfl, rfl⟩ ⟨Nat.le_of_ble_eq_true rfl, Nat.le_of_ble_eq_true rfl⟩, List.forall_mem_cons.mpr ⟨cr_V (d_X3_remember l) rfl (by decide +kernel) (by decide +kernel) ⟨rfl, rfl⟩ ⟨Nat.le_of_ble_eq_true rfl, Nat.le_of_ble_eq_true rfl⟩, List.forall_mem_cons.mpr ⟨cr_NV (d_X0_drop l) rfl (by decide +kernel) (by decide +kernel) (by decide +kernel) ⟨rfl, rfl⟩ ⟨Nat.le_of_ble_eq_true rfl, Nat.le_of_ble_eq_true rfl⟩, fun _ h => absurd h List.not_mem_nil⟩⟩⟩) (by
  intro As X post hC
  unfold C_X3_removeEdge at hC
  split at hC
  next b e =>
    obtain ⟨rfl, g, hR0, hpost⟩ := hC
    refine ⟨Nat.le_of_ble_eq_true rfl, fun R hR => ?_⟩
    obtain ⟨⟨p0, p1, p2, p3, p4, p5, p6⟩, q0, q1, q2, q3, q4, q5, q6⟩ := sh_base
    obtain ⟨⟨w1, w2, w3, w4⟩, c1, c2, -⟩ := id hR0
    obtain ⟨d1, d2, d3, d4, d5⟩ := id c1
    have hn := w1.1
    have ok := fun {r : Int32} => pub_same (r := r) hR0 hpost
    refine go hR [] 200 ?_
    simp only [lv_args, ↓reduceIte, Nat.reduceEqDiff, Nat.reduceAdd, Nat.reduceLeDiff, reduceCtorEq, and_true, true_and, false_and, and_false, true_or, or_true, or_false, false_or, true_implies, false_implies, implies_true, not_true_eq_false, not_false_eq_true, eq_self, fx_s, ↓run_s, run_0, ↓rs_n, ↓rs_c, as_s, ls_n, ls_c, lc_s, lget_c, fX3_removeEdge_0, ↓ex_aload_n, ↓xR_r, ↓xRg_c, fX3_removeEdge_1, ↓ex_getfield, ↓s1R_c, ↓fv_3_0, fX3_removeEdge_4, ↓ex_iload_n, ↓xI_i, ↓xIg_c, fX3_removeEdge_5, ↓ex_invokevirtual, ↓xc_0, ↓xc_s, ↓xc_1, ↓pk_s, ↓k_s, ↓k_n, catS_n, catS_c, rOk_c, ct_i, ct_l, ct_r, ↓pk_f, fX3_removeEdge_8, ↓ex_ifCond_ne, ↓s1I_c, fX3_removeEdge_11, ↓ex_bipush, fX3_removeEdge_13, ↓ex_ireturn, ↓rt_i, fX3_removeEdge_14, fX3_removeEdge_15, fX3_removeEdge_18, fX3_removeEdge_19, fX3_removeEdge_22, fX3_removeEdge_23, fX3_removeEdge_26, fX3_removeEdge_27, fX3_removeEdge_30, ↓fv_0_4, fX3_removeEdge_33, p0, p1, q0, q1, ↓C_X0_hasEdge, ↓C_X3_remember, ↓C_X0_drop, b2i_0, Classical.not_not, ↓reduceIte, not_true_eq_false, not_false_eq_true, false_implies, true_implies, implies_true, and_true, true_and, and_false, false_and, or_true, true_or, or_false, false_or, Classical.not_not, ite_true, ite_false]
    refine ⟨g.now, ⟨sc1, c1, hn⟩, ?_⟩
    by_cases he : 0 ≤ e.toInt ∧ e.toInt < (g.now.n : Int)
    case neg => (simp only [he, ↓reduceIte, not_true_eq_false, not_false_eq_true, false_implies, true_implies, implies_true, and_true, true_and, and_false, false_and, or_true, true_or, or_false, false_or, Classical.not_not, ite_true, ite_false]; exact ok (by unfold s_removeEdge; rw [cif_f he]))
    simp only [he, ↓reduceIte, not_true_eq_false, not_false_eq_true, false_implies, true_implies, implies_true, and_true, true_and, and_false, false_and, or_true, true_or, or_false, false_or, Classical.not_not, ite_true, ite_false]
    obtain ⟨-, he2, he3⟩ := inR_cl (lo := 0) (hi := 12) (by omega) (show inR e 0 12 from ⟨he.1, by omega⟩)
    have he4 : cl e < g.now.n := by have := nI_toInt (n := cl e) (by omega); rw [← he3] at this; omega
    refine ⟨g, hR0, fun Y hY hFY => ?_⟩
    have hsp : s_removeEdge e g = (nI (g.now.n - 1), withS (s_drop g.now (cl e)) (s_rem g)) := by unfold s_removeEdge; rw [cif_t he]
    have hYs : RS Y 1 g.now := by have := hY.2.1; rw [rem_now] at this; exact this
    refine ⟨g.now, cl e, ⟨sc1, hYs, hn, he3, he4⟩, fun Z hZ hs => ?_⟩
    have hfin := hpost Z (by rw [hsp]; exact hY.setNow hZ hs (WF_drop w1 he4)) (hFY.M.tr (FrM.of hZ (scn_lt sc1)))
    rw [hsp] at hfin
    rw [hs.1]
    exact hfin
  next => exact hC.elim)
noncomputable def C_X3_edges : CT := fun As X K => match As with
  | [.ref b] => b = 0 ∧ PubI (s_edges) X K
  | _ => False
set_option maxRecDepth 20000 in
set_option maxHeartbeats 4000000 in
theorem d_X3_edges (l : Launch) : Does l yX3_edges (wY yX3_edges cX3_edges 1 (retT 0)) (rmF 0) C_X3_edges := does_of (rt := 0) (by decide +kernel) tkX3_edges (calls := []) (fun _ h => absurd h List.not_mem_nil) (by
  intro As X post hC
  unfold C_X3_edges at hC
  split at hC
  next b =>
    obtain ⟨rfl, g, hR0, hpost⟩ := hC
    refine ⟨Nat.le_of_ble_eq_true rfl, fun R hR => ?_⟩
    obtain ⟨⟨p0, p1, p2, p3, p4, p5, p6⟩, q0, q1, q2, q3, q4, q5, q6⟩ := sh_base
    obtain ⟨⟨w1, w2, w3, w4⟩, c1, c2, -⟩ := id hR0
    obtain ⟨d1, d2, d3, d4, d5⟩ := id c1
    have hn := w1.1
    have ok := fun {r : Int32} => pub_same (r := r) hR0 hpost
    refine go hR [] 200 ?_
    simp only [lv_args, ↓reduceIte, Nat.reduceEqDiff, Nat.reduceAdd, Nat.reduceLeDiff, reduceCtorEq, and_true, true_and, false_and, and_false, true_or, or_true, or_false, false_or, true_implies, false_implies, implies_true, not_true_eq_false, not_false_eq_true, eq_self, fx_s, ↓run_s, run_0, ↓rs_n, ↓rs_c, as_s, ls_n, ls_c, lc_s, lget_c, fX3_edges_0, ↓ex_aload_n, ↓xR_r, ↓xRg_c, fX3_edges_1, ↓ex_getfield, ↓s1R_c, ↓fv_3_0, fX3_edges_4, ↓fv_0_4, fX3_edges_7, ↓ex_ireturn, ↓rt_i, p0, p1, q0, q1, b2i_0, Classical.not_not, ↓reduceIte, not_true_eq_false, not_false_eq_true, false_implies, true_implies, implies_true, and_true, true_and, and_false, false_and, or_true, true_or, or_false, false_or, Classical.not_not, ite_true, ite_false]
    rw [d1]
    exact ok rfl
  next => exact hC.elim)
noncomputable def C_X3_edgeBetween : CT := fun As X K => match As with
  | [.ref b, .int a, .int c] => b = 0 ∧ PubI (s_edgeBetween a c) X K
  | _ => False
set_option maxRecDepth 20000 in
set_option maxHeartbeats 4000000 in
theorem d_X3_edgeBetween (l : Launch) : Does l yX3_edgeBetween (wY yX3_edgeBetween cX3_edgeBetween 3 (retT 0)) (rmF 1) C_X3_edgeBetween := does_of (rt := 0) (by decide +kernel) tkX3_edgeBetween (calls := [(42, true, 1, 3, C_X3_isNode), (52, false, 3, 0, C_X0_find)]) (List.forall_mem_cons.mpr ⟨cr_S (d_X3_isNode l) (by decide +kernel) (by decide +kernel) ⟨rfl, rfl⟩ ⟨Nat.le_of_ble_eq_true rfl, Nat.le_of_ble_eq_true rfl⟩, List.forall_mem_cons.mpr ⟨cr_NV (d_X0_find l) rfl (by decide +kernel) (by decide +kernel) (by decide +kernel) ⟨rfl, rfl⟩ ⟨Nat.le_of_ble_eq_true rfl, Nat.le_of_ble_eq_true rfl⟩, fun _ h => absurd h List.not_mem_nil⟩⟩) (by
  intro As X post hC
  unfold C_X3_edgeBetween at hC
  split at hC
  next b a c =>
    obtain ⟨rfl, g, hR0, hpost⟩ := hC
    refine ⟨Nat.le_of_ble_eq_true rfl, fun R hR => ?_⟩
    obtain ⟨⟨p0, p1, p2, p3, p4, p5, p6⟩, q0, q1, q2, q3, q4, q5, q6⟩ := sh_base
    obtain ⟨⟨w1, w2, w3, w4⟩, c1, c2, -⟩ := id hR0
    obtain ⟨d1, d2, d3, d4, d5⟩ := id c1
    have hn := w1.1
    have ok := fun {r : Int32} => pub_same (r := r) hR0 hpost
    refine go hR [] 200 ?_
    simp only [lv_args, ↓reduceIte, Nat.reduceEqDiff, Nat.reduceAdd, Nat.reduceLeDiff, reduceCtorEq, and_true, true_and, false_and, and_false, true_or, or_true, or_false, false_or, true_implies, false_implies, implies_true, not_true_eq_false, not_false_eq_true, eq_self, fx_s, ↓run_s, run_0, ↓rs_n, ↓rs_c, as_s, ls_n, ls_c, lc_s, lget_c, fX3_edgeBetween_0, ↓ex_iload_n, ↓xI_i, ↓xIg_c, fX3_edgeBetween_1, ↓ex_invokestatic, ↓xc_0, ↓xc_s, ↓xc_1, ↓pk_s, ↓k_s, ↓k_n, catS_n, catS_c, rOk_c, ct_i, ct_l, ct_r, ↓pk_t, fX3_edgeBetween_4, ↓ex_ifCond_eq, ↓s1I_c, fX3_edgeBetween_7, fX3_edgeBetween_8, fX3_edgeBetween_11, ↓ex_ifCond_ne, fX3_edgeBetween_14, ↓ex_bipush, fX3_edgeBetween_16, ↓ex_ireturn, ↓rt_i, fX3_edgeBetween_17, ↓ex_aload_n, ↓xR_r, ↓xRg_c, fX3_edgeBetween_18, ↓ex_getfield, ↓s1R_c, ↓fv_3_0, fX3_edgeBetween_21, fX3_edgeBetween_22, fX3_edgeBetween_23, ↓ex_invokevirtual, ↓pk_f, fX3_edgeBetween_26, p0, p1, q0, q1, ↓C_X3_isNode, ↓C_X0_find, b2i_0, Classical.not_not, ↓reduceIte, not_true_eq_false, not_false_eq_true, false_implies, true_implies, implies_true, and_true, true_and, and_false, false_and, or_true, true_or, or_false, false_or, Classical.not_not, ite_true, ite_false]
    by_cases ha : inR a 0 7
    case neg => (simp only [ha, ↓reduceIte, not_true_eq_false, not_false_eq_true, false_implies, true_implies, implies_true, and_true, true_and, and_false, false_and, or_true, true_or, or_false, false_or, Classical.not_not, ite_true, ite_false]; exact ok (by unfold s_edgeBetween; rw [cif_f (fun z => ha z.1)]))
    by_cases hc : inR c 0 7
    case neg => (simp only [ha, hc, ↓reduceIte, not_true_eq_false, not_false_eq_true, false_implies, true_implies, implies_true, and_true, true_and, and_false, false_and, or_true, true_or, or_false, false_or, Classical.not_not, ite_true, ite_false]; exact ok (by unfold s_edgeBetween; rw [cif_f (fun z => hc z.2)]))
    simp only [ha, hc, ↓reduceIte, not_true_eq_false, not_false_eq_true, false_implies, true_implies, implies_true, and_true, true_and, and_false, false_and, or_true, true_or, or_false, false_or, Classical.not_not, ite_true, ite_false]
    have hF : ∀ e, e < g.now.n → g.now.F e < 8 ∧ g.now.T e < 8 := fun e he => ⟨(w1.2.1 e he).1, (w1.2.1 e he).2.1⟩
    obtain ⟨-, ha2, ha3⟩ := inR_cl (lo := 0) (hi := 7) (by omega) ha
    obtain ⟨-, hc2, hc3⟩ := inR_cl (lo := 0) (hi := 7) (by omega) hc
    refine ⟨g.now, ⟨sc1, c1, hn⟩, ok ?_⟩
    unfold s_edgeBetween
    rw [cif_t ⟨ha, hc⟩]
    conv => rhs; rw [ha3, hc3, findS_N hF (by omega) (by omega)]
  next => exact hC.elim)
noncomputable def C_X3_setHorizon : CT := fun As X K => match As with
  | [.ref b, .int h] => b = 0 ∧ PubI (s_setHorizon h) X K
  | _ => False
set_option maxRecDepth 20000 in
set_option maxHeartbeats 4000000 in
theorem d_X3_setHorizon (l : Launch) : Does l yX3_setHorizon (wY yX3_setHorizon cX3_setHorizon 3 (retT 0)) (rmF 2) C_X3_setHorizon := does_of (rt := 0) (by decide +kernel) tkX3_setHorizon (calls := [(90, true, 1, 3, C_X3_isTime), (60, false, 1, 3, C_X3_remember)]) (List.forall_mem_cons.mpr ⟨cr_S (d_X3_isTime l) (by decide +kernel) (by decide +kernel) ⟨rfl, rfl⟩ ⟨Nat.le_of_ble_eq_true rfl, Nat.le_of_ble_eq_true rfl⟩, List.forall_mem_cons.mpr ⟨cr_V (d_X3_remember l) rfl (by decide +kernel) (by decide +kernel) ⟨rfl, rfl⟩ ⟨Nat.le_of_ble_eq_true rfl, Nat.le_of_ble_eq_true rfl⟩, fun _ h => absurd h List.not_mem_nil⟩⟩) (by
  intro As X post hC
  unfold C_X3_setHorizon at hC
  split at hC
  next b h =>
    obtain ⟨rfl, g, hR0, hpost⟩ := hC
    refine ⟨Nat.le_of_ble_eq_true rfl, fun R hR => ?_⟩
    obtain ⟨⟨p0, p1, p2, p3, p4, p5, p6⟩, q0, q1, q2, q3, q4, q5, q6⟩ := sh_base
    obtain ⟨⟨w1, w2, w3, w4⟩, c1, c2, -⟩ := id hR0
    obtain ⟨d1, d2, d3, d4, d5⟩ := id c1
    have hn := w1.1
    have ok := fun {r : Int32} => pub_same (r := r) hR0 hpost
    refine go hR [] 200 ?_
    simp only [lv_args, ↓reduceIte, Nat.reduceEqDiff, Nat.reduceAdd, Nat.reduceLeDiff, reduceCtorEq, and_true, true_and, false_and, and_false, true_or, or_true, or_false, false_or, true_implies, false_implies, implies_true, not_true_eq_false, not_false_eq_true, eq_self, fx_s, ↓run_s, run_0, ↓rs_n, ↓rs_c, as_s, ls_n, ls_c, lc_s, lget_c, fX3_setHorizon_0, ↓ex_iload_n, ↓xI_i, ↓xIg_c, fX3_setHorizon_1, ↓ex_invokestatic, ↓xc_0, ↓xc_s, ↓xc_1, ↓pk_s, ↓k_s, ↓k_n, catS_n, catS_c, rOk_c, ct_i, ct_l, ct_r, ↓pk_t, fX3_setHorizon_4, ↓ex_ifCond_ne, ↓s1I_c, fX3_setHorizon_7, ↓ex_bipush, fX3_setHorizon_9, ↓ex_ireturn, ↓rt_i, fX3_setHorizon_10, ↓ex_aload_n, ↓xR_r, ↓xRg_c, fX3_setHorizon_11, ↓ex_invokevirtual, ↓pk_f, fX3_setHorizon_14, fX3_setHorizon_15, ↓ex_getfield, ↓s1R_c, ↓fv_3_0, fX3_setHorizon_18, ↓fv_0_5, fX3_setHorizon_21, ↓ex_istore_n, ↓lsto_e, ↓lrmK_n, ↓lrmK_f, fX3_setHorizon_22, fX3_setHorizon_23, fX3_setHorizon_26, fX3_setHorizon_27, ↓ex_putfield, ↓pf_0_5, fX3_setHorizon_30, fX3_setHorizon_31, p0, p1, q0, q1, ↓C_X3_isTime, ↓C_X3_remember, b2i_0, Classical.not_not, ↓reduceIte, not_true_eq_false, not_false_eq_true, false_implies, true_implies, implies_true, and_true, true_and, and_false, false_and, or_true, true_or, or_false, false_or, Classical.not_not, ite_true, ite_false]
    by_cases hh : inR h 0 30
    case neg => (simp only [hh, ↓reduceIte, not_true_eq_false, not_false_eq_true, false_implies, true_implies, implies_true, and_true, true_and, and_false, false_and, or_true, true_or, or_false, false_or, Classical.not_not, ite_true, ite_false]; exact ok (by unfold s_setHorizon; rw [cif_f hh]))
    simp only [hh, ↓reduceIte, not_true_eq_false, not_false_eq_true, false_implies, true_implies, implies_true, and_true, true_and, and_false, false_and, or_true, true_or, or_false, false_or, Classical.not_not, ite_true, ite_false]
    obtain ⟨-, h2, h3⟩ := inR_cl (lo := 0) (hi := 30) (by omega) hh
    refine ⟨g, hR0, fun Y hY hFY => ?_⟩
    have hsp : s_setHorizon h g = (nI g.now.H, withS (s_hor g.now (cl h)) (s_rem g)) := by unfold s_setHorizon; rw [cif_t hh]
    have hYs : RS Y 1 g.now := by have := hY.2.1; rw [rem_now] at this; exact this
    have hfr : Fr (scn 1) Y (sI Y 1 5 h) := Fr.pI (Fr.rf _ Y) ⟨by omega, by omega⟩ _ _
    have hfin := hpost (sI Y 1 5 h) (by
      rw [hsp]
      refine hY.setNow hfr ?_ ⟨w1.1, w1.2.1, w1.2.2.1, h2, w1.2.2.2.2⟩
      have := RS_hor hYs (cl h)
      rw [← h3] at this
      exact this) (hFY.M.tr (FrM.of hfr (scn_lt sc1)))
    rw [hsp] at hfin
    rw [hYs.2.2.1]
    exact hfin
  next => exact hC.elim)
noncomputable def C_X3_setSensors : CT := fun As X K => match As with
  | [.ref b, .int h] => b = 0 ∧ PubI (s_setSensors h) X K
  | _ => False
set_option maxRecDepth 20000 in
set_option maxHeartbeats 4000000 in
theorem d_X3_setSensors (l : Launch) : Does l yX3_setSensors (wY yX3_setSensors cX3_setSensors 3 (retT 0)) (rmF 2) C_X3_setSensors := does_of (rt := 0) (by decide +kernel) tkX3_setSensors (calls := [(60, false, 1, 3, C_X3_remember)]) (List.forall_mem_cons.mpr ⟨cr_V (d_X3_remember l) rfl (by decide +kernel) (by decide +kernel) ⟨rfl, rfl⟩ ⟨Nat.le_of_ble_eq_true rfl, Nat.le_of_ble_eq_true rfl⟩, fun _ h => absurd h List.not_mem_nil⟩) (by
  intro As X post hC
  unfold C_X3_setSensors at hC
  split at hC
  next b h =>
    obtain ⟨rfl, g, hR0, hpost⟩ := hC
    refine ⟨Nat.le_of_ble_eq_true rfl, fun R hR => ?_⟩
    obtain ⟨⟨p0, p1, p2, p3, p4, p5, p6⟩, q0, q1, q2, q3, q4, q5, q6⟩ := sh_base
    obtain ⟨⟨w1, w2, w3, w4⟩, c1, c2, -⟩ := id hR0
    obtain ⟨d1, d2, d3, d4, d5⟩ := id c1
    have hn := w1.1
    have ok := fun {r : Int32} => pub_same (r := r) hR0 hpost
    refine go hR [] 200 ?_
    simp only [lv_args, ↓reduceIte, Nat.reduceEqDiff, Nat.reduceAdd, Nat.reduceLeDiff, reduceCtorEq, and_true, true_and, false_and, and_false, true_or, or_true, or_false, false_or, true_implies, false_implies, implies_true, not_true_eq_false, not_false_eq_true, eq_self, fx_s, ↓run_s, run_0, ↓rs_n, ↓rs_c, as_s, ls_n, ls_c, lc_s, lget_c, fX3_setSensors_0, ↓ex_iload_n, ↓xI_i, ↓xIg_c, fX3_setSensors_1, ↓ex_ifCond_lt, ↓s1I_c, fX3_setSensors_4, fX3_setSensors_5, ↓ex_sipush, fX3_setSensors_8, ↓ex_if_icmp_le, ↓s2I_c, fX3_setSensors_11, ↓ex_bipush, fX3_setSensors_13, ↓ex_ireturn, ↓rt_i, fX3_setSensors_14, ↓ex_aload_n, ↓xR_r, ↓xRg_c, fX3_setSensors_15, ↓ex_invokevirtual, ↓xc_0, ↓xc_s, ↓xc_1, ↓pk_s, ↓k_s, ↓k_n, catS_n, catS_c, rOk_c, ct_i, ct_l, ct_r, ↓pk_f, fX3_setSensors_18, fX3_setSensors_19, ↓ex_getfield, ↓s1R_c, ↓fv_3_0, fX3_setSensors_22, ↓fv_0_7, fX3_setSensors_25, ↓ex_istore_n, ↓lsto_e, ↓lrmK_n, ↓lrmK_f, fX3_setSensors_26, fX3_setSensors_27, fX3_setSensors_30, fX3_setSensors_31, ↓ex_putfield, ↓pf_0_7, fX3_setSensors_34, fX3_setSensors_35, p0, p1, q0, q1, ↓C_X3_remember, b2i_0, Classical.not_not, ↓reduceIte, not_true_eq_false, not_false_eq_true, false_implies, true_implies, implies_true, and_true, true_and, and_false, false_and, or_true, true_or, or_false, false_or, Classical.not_not, ite_true, ite_false]
    have e0 : inR h 0 255 ↔ (¬ h < 0 ∧ h ≤ 255) := by unfold inR; rw [ltI, leI, tI_0, tI_255]; omega
    by_cases hh : inR h 0 255
    case neg =>
      have e1 : s_setSensors h g = (-3, g) := by unfold s_setSensors; rw [cif_f hh]
      exact ⟨fun _ => ok e1, fun g1 => ⟨fun g2 => absurd (e0.mpr ⟨g1, g2⟩) hh, fun _ => ok e1⟩⟩
    refine ⟨fun z => absurd z (e0.mp hh).1, fun _ => ⟨fun _ => ?_, fun z => absurd (e0.mp hh).2 z⟩⟩
    obtain ⟨-, h2, h3⟩ := inR_cl (lo := 0) (hi := 255) (by omega) hh
    refine ⟨g, hR0, fun Y hY hFY => ?_⟩
    have hsp : s_setSensors h g = (nI g.now.Q, withS (s_sen g.now (cl h)) (s_rem g)) := by unfold s_setSensors; rw [cif_t hh]
    have hYs : RS Y 1 g.now := by have := hY.2.1; rw [rem_now] at this; exact this
    have hfr : Fr (scn 1) Y (sI Y 1 7 h) := Fr.pI (Fr.rf _ Y) ⟨by omega, by omega⟩ _ _
    have hfin := hpost (sI Y 1 7 h) (by
      rw [hsp]
      refine hY.setNow hfr ?_ ⟨w1.1, w1.2.1, w1.2.2.1, w1.2.2.2.1, w1.2.2.2.2.1, h2⟩
      have := RS_sen hYs (cl h)
      rw [← h3] at this
      exact this) (hFY.M.tr (FrM.of hfr (scn_lt sc1)))
    rw [hsp] at hfin
    rw [hYs.2.2.2.2]
    exact hfin
  next => exact hC.elim)
noncomputable def C_X3_replaceSeen : CT := fun As X K => match As with
  | [.ref b, .int v, .int t] => ∃ (g : SG) (k : Nat), (b = 0 ∧ RelC X g ∧ v = nI k ∧ k < 8 ∧ okS t) ∧ ∀ X', RelC X' (withS (s_see g.now k t) (s_rem g)) → FrM X X' → K (some (.int (g.now.S k))) X'
  | _ => False
set_option maxRecDepth 20000 in
set_option maxHeartbeats 4000000 in
theorem d_X3_replaceSeen (l : Launch) : Does l yX3_replaceSeen (wY yX3_replaceSeen cX3_replaceSeen 4 (retT 0)) (rmF 2) C_X3_replaceSeen := does_of (rt := 0) (by decide +kernel) tkX3_replaceSeen (calls := [(60, false, 1, 3, C_X3_remember)]) (List.forall_mem_cons.mpr ⟨cr_V (d_X3_remember l) rfl (by decide +kernel) (by decide +kernel) ⟨rfl, rfl⟩ ⟨Nat.le_of_ble_eq_true rfl, Nat.le_of_ble_eq_true rfl⟩, fun _ h => absurd h List.not_mem_nil⟩) (by
  intro As X post hC
  unfold C_X3_replaceSeen at hC
  split at hC
  next b v t =>
    obtain ⟨g, k, ⟨rfl, hR0, rfl, hk, ht⟩, hpost⟩ := hC
    refine ⟨Nat.le_of_ble_eq_true rfl, fun R hR => ?_⟩
    obtain ⟨⟨p0, p1, p2, p3, p4, p5, p6⟩, q0, q1, q2, q3, q4, q5, q6⟩ := sh_base
    obtain ⟨⟨w1, w2, w3, w4⟩, c1, c2, -⟩ := id hR0
    refine go hR [] 200 ?_
    simp only [lv_args, ↓reduceIte, Nat.reduceEqDiff, Nat.reduceAdd, Nat.reduceLeDiff, reduceCtorEq, and_true, true_and, false_and, and_false, true_or, or_true, or_false, false_or, true_implies, false_implies, implies_true, not_true_eq_false, not_false_eq_true, eq_self, fx_s, ↓run_s, run_0, ↓rs_n, ↓rs_c, as_s, ls_n, ls_c, lc_s, lget_c, fX3_replaceSeen_0, ↓ex_aload_n, ↓xR_r, ↓xRg_c, fX3_replaceSeen_1, ↓ex_invokevirtual, ↓xc_0, ↓xc_s, ↓xc_1, ↓pk_s, ↓k_s, ↓k_n, catS_n, catS_c, rOk_c, ct_i, ct_l, ct_r, ↓pk_f, fX3_replaceSeen_4, fX3_replaceSeen_5, ↓ex_getfield, ↓s1R_c, ↓fv_3_0, fX3_replaceSeen_8, ↓fv_0_6, fX3_replaceSeen_11, ↓ex_iload_n, ↓xI_i, ↓xIg_c, fX3_replaceSeen_12, ↓ex_iaload, ↓sRI_c, ↓scrR_n, fX3_replaceSeen_13, ↓ex_istore_n, ↓s1I_c, ↓lsto_e, ↓lrmK_n, ↓lrmK_f, fX3_replaceSeen_14, fX3_replaceSeen_15, fX3_replaceSeen_18, fX3_replaceSeen_21, fX3_replaceSeen_22, fX3_replaceSeen_23, ↓ex_iastore, ↓sRII_c, fX3_replaceSeen_24, fX3_replaceSeen_25, ↓ex_ireturn, ↓rt_i, p0, p1, p6, q0, q1, q6, ↓C_X3_remember, clampN (n := k) (by omega), ↓reduceIte, not_true_eq_false, not_false_eq_true, false_implies, true_implies, implies_true, and_true, true_and, and_false, false_and, or_true, true_or, or_false, false_or, Classical.not_not, ite_true, ite_false]
    refine ⟨g, hR0, fun Y hY hFY => ?_⟩
    have hYs : RS Y 1 g.now := by have := hY.2.1; rw [rem_now] at this; exact this
    have hfr : Fr (scn 1) Y (sI Y 6 k t) := Fr.pI (Fr.rf _ Y) ⟨by omega, by omega⟩ _ _
    refine ⟨vp_inN (by omega) hk, vp_inN (by omega) hk, ?_⟩
    have hfin := hpost (sI Y 6 k t) (hY.setNow hfr (RS_see hYs k t) (WF_see w1 ht)) (hFY.M.tr (FrM.of hfr (scn_lt sc1)))
    have e1 : Y.1 6 k = g.now.S k := hYs.2.2.2.1 k hk
    rw [e1]
    exact hfin
  next => exact hC.elim)
theorem okS_of {t : Int32} (h : inR t (-1) 30) : okS t := by
  by_cases z : t.toInt = -1
  · left
    exact (eqI _ _).mpr (by rw [z, tI_m1])
  · obtain ⟨n, -, h2, h3⟩ := inR_N (lo := 0) (hi := 30) (by omega) (show inR t 0 30 from ⟨by unfold inR at h; omega, h.2⟩)
    exact Or.inr (Or.inr ⟨n, h2, h3⟩)
noncomputable def C_X3_observe : CT := fun As X K => match As with
  | [.ref b, .int v, .int t] => b = 0 ∧ PubI (s_observe v t) X K
  | _ => False
set_option maxRecDepth 20000 in
set_option maxHeartbeats 4000000 in
theorem d_X3_observe (l : Launch) : Does l yX3_observe (wY yX3_observe cX3_observe 3 (retT 0)) (rmF 3) C_X3_observe := does_of (rt := 0) (by decide +kernel) tkX3_observe (calls := [(42, true, 1, 3, C_X3_isNode), (96, true, 1, 3, C_X3_isTimeOrNone), (99, false, 3, 3, C_X3_replaceSeen)]) (List.forall_mem_cons.mpr ⟨cr_S (d_X3_isNode l) (by decide +kernel) (by decide +kernel) ⟨rfl, rfl⟩ ⟨Nat.le_of_ble_eq_true rfl, Nat.le_of_ble_eq_true rfl⟩, List.forall_mem_cons.mpr ⟨cr_S (d_X3_isTimeOrNone l) (by decide +kernel) (by decide +kernel) ⟨rfl, rfl⟩ ⟨Nat.le_of_ble_eq_true rfl, Nat.le_of_ble_eq_true rfl⟩, List.forall_mem_cons.mpr ⟨cr_V (d_X3_replaceSeen l) rfl (by decide +kernel) (by decide +kernel) ⟨rfl, rfl⟩ ⟨Nat.le_of_ble_eq_true rfl, Nat.le_of_ble_eq_true rfl⟩, fun _ h => absurd h List.not_mem_nil⟩⟩⟩) (by
  intro As X post hC
  unfold C_X3_observe at hC
  split at hC
  next b v t =>
    obtain ⟨rfl, g, hR0, hpost⟩ := hC
    refine ⟨Nat.le_of_ble_eq_true rfl, fun R hR => ?_⟩
    obtain ⟨⟨p0, p1, p2, p3, p4, p5, p6⟩, q0, q1, q2, q3, q4, q5, q6⟩ := sh_base
    obtain ⟨⟨w1, w2, w3, w4⟩, c1, c2, -⟩ := id hR0
    obtain ⟨d1, d2, d3, d4, d5⟩ := id c1
    have hn := w1.1
    have ok := fun {r : Int32} => pub_same (r := r) hR0 hpost
    refine go hR [] 200 ?_
    simp only [lv_args, ↓reduceIte, Nat.reduceEqDiff, Nat.reduceAdd, Nat.reduceLeDiff, reduceCtorEq, and_true, true_and, false_and, and_false, true_or, or_true, or_false, false_or, true_implies, false_implies, implies_true, not_true_eq_false, not_false_eq_true, eq_self, fx_s, ↓run_s, run_0, ↓rs_n, ↓rs_c, as_s, ls_n, ls_c, lc_s, lget_c, fX3_observe_0, ↓ex_iload_n, ↓xI_i, ↓xIg_c, fX3_observe_1, ↓ex_invokestatic, ↓xc_0, ↓xc_s, ↓xc_1, ↓pk_s, ↓k_s, ↓k_n, catS_n, catS_c, rOk_c, ct_i, ct_l, ct_r, ↓pk_t, fX3_observe_4, ↓ex_ifCond_ne, ↓s1I_c, fX3_observe_7, ↓ex_bipush, fX3_observe_9, ↓ex_ireturn, ↓rt_i, fX3_observe_10, fX3_observe_11, fX3_observe_14, fX3_observe_17, fX3_observe_19, fX3_observe_20, ↓ex_aload_n, ↓xR_r, ↓xRg_c, fX3_observe_21, fX3_observe_22, fX3_observe_23, ↓ex_invokevirtual, ↓pk_f, fX3_observe_26, p0, p1, q0, q1, ↓C_X3_isNode, ↓C_X3_isTimeOrNone, ↓C_X3_replaceSeen, b2i_0, Classical.not_not, ↓reduceIte, not_true_eq_false, not_false_eq_true, false_implies, true_implies, implies_true, and_true, true_and, and_false, false_and, or_true, true_or, or_false, false_or, Classical.not_not, ite_true, ite_false]
    by_cases hv : inR v 0 7
    case neg => (simp only [hv, ↓reduceIte, not_true_eq_false, not_false_eq_true, false_implies, true_implies, implies_true, and_true, true_and, and_false, false_and, or_true, true_or, or_false, false_or, Classical.not_not, ite_true, ite_false]; exact ok (by unfold s_observe; rw [cif_f hv]))
    by_cases ht : inR t (-1) 30
    case neg => (simp only [hv, ht, ↓reduceIte, not_true_eq_false, not_false_eq_true, false_implies, true_implies, implies_true, and_true, true_and, and_false, false_and, or_true, true_or, or_false, false_or, Classical.not_not, ite_true, ite_false]; exact ok (by unfold s_observe; rw [cif_t hv, cif_f ht]))
    simp only [hv, ht, ↓reduceIte, not_true_eq_false, not_false_eq_true, false_implies, true_implies, implies_true, and_true, true_and, and_false, false_and, or_true, true_or, or_false, false_or, Classical.not_not, ite_true, ite_false]
    obtain ⟨-, h2, h3⟩ := inR_cl (lo := 0) (hi := 7) (by omega) hv
    have hsp : s_observe v t g = (g.now.S (cl v), withS (s_see g.now (cl v) t) (s_rem g)) := by unfold s_observe; rw [cif_t hv, cif_t ht]
    rw [hsp] at hpost
    exact ⟨g, cl v, ⟨hR0, h3, by omega, okS_of ht⟩, hpost⟩
  next => exact hC.elim)
noncomputable def C_X3_forget : CT := fun As X K => match As with
  | [.ref b, .int v] => b = 0 ∧ PubI (s_forget v) X K
  | _ => False
set_option maxRecDepth 20000 in
set_option maxHeartbeats 4000000 in
theorem d_X3_forget (l : Launch) : Does l yX3_forget (wY yX3_forget cX3_forget 2 (retT 0)) (rmF 3) C_X3_forget := does_of (rt := 0) (by decide +kernel) tkX3_forget (calls := [(42, true, 1, 3, C_X3_isNode), (99, false, 3, 3, C_X3_replaceSeen)]) (List.forall_mem_cons.mpr ⟨cr_S (d_X3_isNode l) (by decide +kernel) (by decide +kernel) ⟨rfl, rfl⟩ ⟨Nat.le_of_ble_eq_true rfl, Nat.le_of_ble_eq_true rfl⟩, List.forall_mem_cons.mpr ⟨cr_V (d_X3_replaceSeen l) rfl (by decide +kernel) (by decide +kernel) ⟨rfl, rfl⟩ ⟨Nat.le_of_ble_eq_true rfl, Nat.le_of_ble_eq_true rfl⟩, fun _ h => absurd h List.not_mem_nil⟩⟩) (by
  intro As X post hC
  unfold C_X3_forget at hC
  split at hC
  next b v =>
    obtain ⟨rfl, g, hR0, hpost⟩ := hC
    refine ⟨Nat.le_of_ble_eq_true rfl, fun R hR => ?_⟩
    obtain ⟨⟨p0, p1, p2, p3, p4, p5, p6⟩, q0, q1, q2, q3, q4, q5, q6⟩ := sh_base
    obtain ⟨⟨w1, w2, w3, w4⟩, c1, c2, -⟩ := id hR0
    obtain ⟨d1, d2, d3, d4, d5⟩ := id c1
    have hn := w1.1
    have ok := fun {r : Int32} => pub_same (r := r) hR0 hpost
    refine go hR [] 200 ?_
    simp only [lv_args, ↓reduceIte, Nat.reduceEqDiff, Nat.reduceAdd, Nat.reduceLeDiff, reduceCtorEq, and_true, true_and, false_and, and_false, true_or, or_true, or_false, false_or, true_implies, false_implies, implies_true, not_true_eq_false, not_false_eq_true, eq_self, fx_s, ↓run_s, run_0, ↓rs_n, ↓rs_c, as_s, ls_n, ls_c, lc_s, lget_c, fX3_forget_0, ↓ex_iload_n, ↓xI_i, ↓xIg_c, fX3_forget_1, ↓ex_invokestatic, ↓xc_0, ↓xc_s, ↓xc_1, ↓pk_s, ↓k_s, ↓k_n, catS_n, catS_c, rOk_c, ct_i, ct_l, ct_r, ↓pk_t, fX3_forget_4, ↓ex_ifCond_ne, ↓s1I_c, fX3_forget_7, ↓ex_bipush, fX3_forget_9, ↓ex_ireturn, ↓rt_i, fX3_forget_10, ↓ex_aload_n, ↓xR_r, ↓xRg_c, fX3_forget_11, fX3_forget_12, fX3_forget_14, ↓ex_invokevirtual, ↓pk_f, fX3_forget_17, p0, p1, q0, q1, ↓C_X3_isNode, ↓C_X3_replaceSeen, b2i_0, Classical.not_not, ↓reduceIte, not_true_eq_false, not_false_eq_true, false_implies, true_implies, implies_true, and_true, true_and, and_false, false_and, or_true, true_or, or_false, false_or, Classical.not_not, ite_true, ite_false]
    by_cases hv : inR v 0 7
    case neg => (simp only [hv, ↓reduceIte, not_true_eq_false, not_false_eq_true, false_implies, true_implies, implies_true, and_true, true_and, and_false, false_and, or_true, true_or, or_false, false_or, Classical.not_not, ite_true, ite_false]; exact ok (by unfold s_forget; rw [cif_f hv]))
    simp only [hv, ↓reduceIte, not_true_eq_false, not_false_eq_true, false_implies, true_implies, implies_true, and_true, true_and, and_false, false_and, or_true, true_or, or_false, false_or, Classical.not_not, ite_true, ite_false]
    obtain ⟨-, h2, h3⟩ := inR_cl (lo := 0) (hi := 7) (by omega) hv
    have hsp : s_forget v g = (g.now.S (cl v), withS (s_see g.now (cl v) 100) (s_rem g)) := by unfold s_forget; rw [cif_t hv]
    rw [hsp] at hpost
    exact ⟨g, cl v, ⟨hR0, h3, by omega, Or.inr (Or.inl rfl)⟩, hpost⟩
  next => exact hC.elim)
noncomputable def C_X3_observed : CT := fun As X K => match As with
  | [.ref b, .int v] => b = 0 ∧ PubI (s_observed v) X K
  | _ => False
set_option maxRecDepth 20000 in
set_option maxHeartbeats 4000000 in
theorem d_X3_observed (l : Launch) : Does l yX3_observed (wY yX3_observed cX3_observed 2 (retT 0)) (rmF 1) C_X3_observed := does_of (rt := 0) (by decide +kernel) tkX3_observed (calls := [(42, true, 1, 3, C_X3_isNode)]) (List.forall_mem_cons.mpr ⟨cr_S (d_X3_isNode l) (by decide +kernel) (by decide +kernel) ⟨rfl, rfl⟩ ⟨Nat.le_of_ble_eq_true rfl, Nat.le_of_ble_eq_true rfl⟩, fun _ h => absurd h List.not_mem_nil⟩) (by
  intro As X post hC
  unfold C_X3_observed at hC
  split at hC
  next b v =>
    obtain ⟨rfl, g, hR0, hpost⟩ := hC
    refine ⟨Nat.le_of_ble_eq_true rfl, fun R hR => ?_⟩
    obtain ⟨⟨p0, p1, p2, p3, p4, p5, p6⟩, q0, q1, q2, q3, q4, q5, q6⟩ := sh_base
    obtain ⟨⟨w1, w2, w3, w4⟩, c1, c2, -⟩ := id hR0
    obtain ⟨d1, d2, d3, d4, d5⟩ := id c1
    have hn := w1.1
    have ok := fun {r : Int32} => pub_same (r := r) hR0 hpost
    refine go hR [] 200 ?_
    simp only [lv_args, ↓reduceIte, Nat.reduceEqDiff, Nat.reduceAdd, Nat.reduceLeDiff, reduceCtorEq, and_true, true_and, false_and, and_false, true_or, or_true, or_false, false_or, true_implies, false_implies, implies_true, not_true_eq_false, not_false_eq_true, eq_self, fx_s, ↓run_s, run_0, ↓rs_n, ↓rs_c, as_s, ls_n, ls_c, lc_s, lget_c, fX3_observed_0, ↓ex_iload_n, ↓xI_i, ↓xIg_c, fX3_observed_1, ↓ex_invokestatic, ↓xc_0, ↓xc_s, ↓xc_1, ↓pk_s, ↓k_s, ↓k_n, catS_n, catS_c, rOk_c, ct_i, ct_l, ct_r, ↓pk_t, fX3_observed_4, ↓ex_ifCond_ne, ↓s1I_c, fX3_observed_7, ↓ex_bipush, fX3_observed_9, ↓ex_ireturn, ↓rt_i, fX3_observed_10, ↓ex_aload_n, ↓xR_r, ↓xRg_c, fX3_observed_11, ↓ex_getfield, ↓s1R_c, ↓fv_3_0, fX3_observed_14, ↓fv_0_6, fX3_observed_17, fX3_observed_18, ↓ex_iaload, ↓sRI_c, ↓scrR_n, fX3_observed_19, p0, p1, p6, q0, q1, q6, ↓C_X3_isNode, b2i_0, Classical.not_not, ↓reduceIte, not_true_eq_false, not_false_eq_true, false_implies, true_implies, implies_true, and_true, true_and, and_false, false_and, or_true, true_or, or_false, false_or, Classical.not_not, ite_true, ite_false]
    by_cases hv : inR v 0 7
    case neg => (simp only [hv, ↓reduceIte, not_true_eq_false, not_false_eq_true, false_implies, true_implies, implies_true, and_true, true_and, and_false, false_and, or_true, true_or, or_false, false_or, Classical.not_not, ite_true, ite_false]; exact ok (by unfold s_observed; rw [cif_f hv]))
    simp only [hv, ↓reduceIte, not_true_eq_false, not_false_eq_true, false_implies, true_implies, implies_true, and_true, true_and, and_false, false_and, or_true, true_or, or_false, false_or, Classical.not_not, ite_true, ite_false]
    obtain ⟨-, h2, h3⟩ := inR_cl (lo := 0) (hi := 7) (by omega) hv
    refine ⟨by rw [h3]; exact vp_inN (by omega) (by omega), ok ?_⟩
    unfold s_observed
    rw [cif_t hv]
    have := d4 (cl v) (by omega)
    rw [← this]
  next => exact hC.elim)
noncomputable def C_X3_edge : CT := fun As X K => match As with
  | [.ref b, .int e, .int w] => b = 0 ∧ PubI (s_edge e w) X K
  | _ => False
set_option maxRecDepth 20000 in
set_option maxHeartbeats 4000000 in
theorem d_X3_edge (l : Launch) : Does l yX3_edge (wY yX3_edge cX3_edge 3 (retT 0)) (rmF 1) C_X3_edge := does_of (rt := 0) (by decide +kernel) tkX3_edge (calls := [(67, false, 2, 0, C_X0_hasEdge)]) (List.forall_mem_cons.mpr ⟨cr_NV (d_X0_hasEdge l) rfl (by decide +kernel) (by decide +kernel) (by decide +kernel) ⟨rfl, rfl⟩ ⟨Nat.le_of_ble_eq_true rfl, Nat.le_of_ble_eq_true rfl⟩, fun _ h => absurd h List.not_mem_nil⟩) (by
  intro As X post hC
  unfold C_X3_edge at hC
  split at hC
  next b e w =>
    obtain ⟨rfl, g, hR0, hpost⟩ := hC
    refine ⟨Nat.le_of_ble_eq_true rfl, fun R hR => ?_⟩
    obtain ⟨⟨p0, p1, p2, p3, p4, p5, p6⟩, q0, q1, q2, q3, q4, q5, q6⟩ := sh_base
    obtain ⟨⟨w1, w2, w3, w4⟩, c1, c2, -⟩ := id hR0
    obtain ⟨d1, d2, d3, d4, d5⟩ := id c1
    have hn := w1.1
    have ok := fun {r : Int32} => pub_same (r := r) hR0 hpost
    refine go hR [] 200 ?_
    simp only [lv_args, ↓reduceIte, Nat.reduceEqDiff, Nat.reduceAdd, Nat.reduceLeDiff, reduceCtorEq, and_true, true_and, false_and, and_false, true_or, or_true, or_false, false_or, true_implies, false_implies, implies_true, not_true_eq_false, not_false_eq_true, eq_self, fx_s, ↓run_s, run_0, ↓rs_n, ↓rs_c, as_s, ls_n, ls_c, lc_s, lget_c, fX3_edge_0, ↓ex_aload_n, ↓xR_r, ↓xRg_c, fX3_edge_1, ↓ex_getfield, ↓s1R_c, ↓fv_3_0, fX3_edge_4, ↓ex_iload_n, ↓xI_i, ↓xIg_c, fX3_edge_5, ↓ex_invokevirtual, ↓xc_0, ↓xc_s, ↓xc_1, ↓pk_s, ↓k_s, ↓k_n, catS_n, catS_c, rOk_c, ct_i, ct_l, ct_r, ↓pk_f, fX3_edge_8, ↓ex_ifCond_ne, ↓s1I_c, fX3_edge_11, ↓ex_bipush, fX3_edge_13, ↓ex_ireturn, ↓rt_i, fX3_edge_14, fX3_edge_15, ↓ex_tableswitch, fX3_edge_44, fX3_edge_45, fX3_edge_48, ↓fv_0_0, fX3_edge_51, fX3_edge_52, ↓ex_iaload, ↓sRI_c, ↓scrR_n, fX3_edge_53, fX3_edge_54, fX3_edge_55, fX3_edge_58, ↓fv_0_1, fX3_edge_61, fX3_edge_62, fX3_edge_63, fX3_edge_64, fX3_edge_65, fX3_edge_68, ↓fv_0_2, fX3_edge_71, fX3_edge_72, fX3_edge_73, fX3_edge_74, fX3_edge_75, fX3_edge_78, ↓fv_0_3, fX3_edge_81, fX3_edge_82, fX3_edge_83, fX3_edge_84, fX3_edge_86, p0, p1, p2, p3, p4, p5, q0, q1, q2, q3, q4, q5, ↓C_X0_hasEdge, b2i_0, Classical.not_not, ↓reduceIte, not_true_eq_false, not_false_eq_true, false_implies, true_implies, implies_true, and_true, true_and, and_false, false_and, or_true, true_or, or_false, false_or, Classical.not_not, ite_true, ite_false]
    refine ⟨g.now, ⟨sc1, c1, hn⟩, ?_⟩
    by_cases he : 0 ≤ e.toInt ∧ e.toInt < (g.now.n : Int)
    case neg => (simp only [he, ↓reduceIte, not_true_eq_false, not_false_eq_true, false_implies, true_implies, implies_true, and_true, true_and, and_false, false_and, or_true, true_or, or_false, false_or, Classical.not_not, ite_true, ite_false]; exact ok (by unfold s_edge; rw [cif_f he]))
    simp only [he, ↓reduceIte, not_true_eq_false, not_false_eq_true, false_implies, true_implies, implies_true, and_true, true_and, and_false, false_and, or_true, true_or, or_false, false_or, Classical.not_not, ite_true, ite_false]
    obtain ⟨-, he2, he3⟩ := inR_cl (lo := 0) (hi := 12) (by omega) (show inR e 0 12 from ⟨he.1, by omega⟩)
    have he4 : cl e < g.now.n := by have := nI_toInt (n := cl e) (by omega); rw [← he3] at this; omega
    have hve : vp_in e 12 := by rw [he3]; exact vp_inN (by omega) (by omega)
    obtain ⟨g1, g2, g3, g4⟩ := d2 (cl e) he4
    by_cases w0 : w = 0
    · subst w0
      simp only [show tsw 15 69 0 3 #[29, 39, 49, 59] 0 = 44 from rfl, ↓reduceIte, Nat.reduceEqDiff, Nat.reduceAdd, Nat.reduceLeDiff, reduceCtorEq, and_true, true_and, false_and, and_false, true_or, or_true, or_false, false_or, true_implies, false_implies, implies_true, not_true_eq_false, not_false_eq_true, eq_self, fx_s, ↓run_s, run_0, ↓rs_n, ↓rs_c, as_s, ls_n, ls_c, lc_s, lget_c, fX3_edge_0, ↓ex_aload_n, ↓xR_r, ↓xRg_c, fX3_edge_1, ↓ex_getfield, ↓s1R_c, ↓fv_3_0, fX3_edge_4, ↓ex_iload_n, ↓xI_i, ↓xIg_c, fX3_edge_5, ↓ex_invokevirtual, ↓xc_0, ↓xc_s, ↓xc_1, ↓pk_s, ↓k_s, ↓k_n, catS_n, catS_c, rOk_c, ct_i, ct_l, ct_r, ↓pk_f, fX3_edge_8, ↓ex_ifCond_ne, ↓s1I_c, fX3_edge_11, ↓ex_bipush, fX3_edge_13, ↓ex_ireturn, ↓rt_i, fX3_edge_14, fX3_edge_15, ↓ex_tableswitch, fX3_edge_44, fX3_edge_45, fX3_edge_48, ↓fv_0_0, fX3_edge_51, fX3_edge_52, ↓ex_iaload, ↓sRI_c, ↓scrR_n, fX3_edge_53, fX3_edge_54, fX3_edge_55, fX3_edge_58, ↓fv_0_1, fX3_edge_61, fX3_edge_62, fX3_edge_63, fX3_edge_64, fX3_edge_65, fX3_edge_68, ↓fv_0_2, fX3_edge_71, fX3_edge_72, fX3_edge_73, fX3_edge_74, fX3_edge_75, fX3_edge_78, ↓fv_0_3, fX3_edge_81, fX3_edge_82, fX3_edge_83, fX3_edge_84, fX3_edge_86, p0, p1, p2, p3, p4, p5, q0, q1, q2, q3, q4, q5, ↓reduceIte, not_true_eq_false, not_false_eq_true, false_implies, true_implies, implies_true, and_true, true_and, and_false, false_and, or_true, true_or, or_false, false_or, Classical.not_not, ite_true, ite_false]
      refine ⟨hve, ok ?_⟩
      unfold s_edge
      rw [cif_t he, cif_t rfl]
      rw [show X.1 2 e.toNatClampNeg = _ from g1]
    by_cases w1 : w = 1
    · subst w1
      simp only [show tsw 15 69 0 3 #[29, 39, 49, 59] 1 = 54 from rfl, ↓reduceIte, Nat.reduceEqDiff, Nat.reduceAdd, Nat.reduceLeDiff, reduceCtorEq, and_true, true_and, false_and, and_false, true_or, or_true, or_false, false_or, true_implies, false_implies, implies_true, not_true_eq_false, not_false_eq_true, eq_self, fx_s, ↓run_s, run_0, ↓rs_n, ↓rs_c, as_s, ls_n, ls_c, lc_s, lget_c, fX3_edge_0, ↓ex_aload_n, ↓xR_r, ↓xRg_c, fX3_edge_1, ↓ex_getfield, ↓s1R_c, ↓fv_3_0, fX3_edge_4, ↓ex_iload_n, ↓xI_i, ↓xIg_c, fX3_edge_5, ↓ex_invokevirtual, ↓xc_0, ↓xc_s, ↓xc_1, ↓pk_s, ↓k_s, ↓k_n, catS_n, catS_c, rOk_c, ct_i, ct_l, ct_r, ↓pk_f, fX3_edge_8, ↓ex_ifCond_ne, ↓s1I_c, fX3_edge_11, ↓ex_bipush, fX3_edge_13, ↓ex_ireturn, ↓rt_i, fX3_edge_14, fX3_edge_15, ↓ex_tableswitch, fX3_edge_44, fX3_edge_45, fX3_edge_48, ↓fv_0_0, fX3_edge_51, fX3_edge_52, ↓ex_iaload, ↓sRI_c, ↓scrR_n, fX3_edge_53, fX3_edge_54, fX3_edge_55, fX3_edge_58, ↓fv_0_1, fX3_edge_61, fX3_edge_62, fX3_edge_63, fX3_edge_64, fX3_edge_65, fX3_edge_68, ↓fv_0_2, fX3_edge_71, fX3_edge_72, fX3_edge_73, fX3_edge_74, fX3_edge_75, fX3_edge_78, ↓fv_0_3, fX3_edge_81, fX3_edge_82, fX3_edge_83, fX3_edge_84, fX3_edge_86, p0, p1, p2, p3, p4, p5, q0, q1, q2, q3, q4, q5, ↓reduceIte, not_true_eq_false, not_false_eq_true, false_implies, true_implies, implies_true, and_true, true_and, and_false, false_and, or_true, true_or, or_false, false_or, Classical.not_not, ite_true, ite_false]
      refine ⟨hve, ok ?_⟩
      unfold s_edge
      rw [cif_t he, cif_f (show ¬ (1 : Int32) = 0 by decide), cif_t rfl]
      rw [show X.1 3 e.toNatClampNeg = _ from g2]
    by_cases w2 : w = 2
    · subst w2
      simp only [show tsw 15 69 0 3 #[29, 39, 49, 59] 2 = 64 from rfl, ↓reduceIte, Nat.reduceEqDiff, Nat.reduceAdd, Nat.reduceLeDiff, reduceCtorEq, and_true, true_and, false_and, and_false, true_or, or_true, or_false, false_or, true_implies, false_implies, implies_true, not_true_eq_false, not_false_eq_true, eq_self, fx_s, ↓run_s, run_0, ↓rs_n, ↓rs_c, as_s, ls_n, ls_c, lc_s, lget_c, fX3_edge_0, ↓ex_aload_n, ↓xR_r, ↓xRg_c, fX3_edge_1, ↓ex_getfield, ↓s1R_c, ↓fv_3_0, fX3_edge_4, ↓ex_iload_n, ↓xI_i, ↓xIg_c, fX3_edge_5, ↓ex_invokevirtual, ↓xc_0, ↓xc_s, ↓xc_1, ↓pk_s, ↓k_s, ↓k_n, catS_n, catS_c, rOk_c, ct_i, ct_l, ct_r, ↓pk_f, fX3_edge_8, ↓ex_ifCond_ne, ↓s1I_c, fX3_edge_11, ↓ex_bipush, fX3_edge_13, ↓ex_ireturn, ↓rt_i, fX3_edge_14, fX3_edge_15, ↓ex_tableswitch, fX3_edge_44, fX3_edge_45, fX3_edge_48, ↓fv_0_0, fX3_edge_51, fX3_edge_52, ↓ex_iaload, ↓sRI_c, ↓scrR_n, fX3_edge_53, fX3_edge_54, fX3_edge_55, fX3_edge_58, ↓fv_0_1, fX3_edge_61, fX3_edge_62, fX3_edge_63, fX3_edge_64, fX3_edge_65, fX3_edge_68, ↓fv_0_2, fX3_edge_71, fX3_edge_72, fX3_edge_73, fX3_edge_74, fX3_edge_75, fX3_edge_78, ↓fv_0_3, fX3_edge_81, fX3_edge_82, fX3_edge_83, fX3_edge_84, fX3_edge_86, p0, p1, p2, p3, p4, p5, q0, q1, q2, q3, q4, q5, ↓reduceIte, not_true_eq_false, not_false_eq_true, false_implies, true_implies, implies_true, and_true, true_and, and_false, false_and, or_true, true_or, or_false, false_or, Classical.not_not, ite_true, ite_false]
      refine ⟨hve, ok ?_⟩
      unfold s_edge
      rw [cif_t he, cif_f (show ¬ (2 : Int32) = 0 by decide), cif_f (show ¬ (2 : Int32) = 1 by decide), cif_t rfl]
      rw [show X.1 4 e.toNatClampNeg = _ from g3]
    by_cases w3 : w = 3
    · subst w3
      simp only [show tsw 15 69 0 3 #[29, 39, 49, 59] 3 = 74 from rfl, ↓reduceIte, Nat.reduceEqDiff, Nat.reduceAdd, Nat.reduceLeDiff, reduceCtorEq, and_true, true_and, false_and, and_false, true_or, or_true, or_false, false_or, true_implies, false_implies, implies_true, not_true_eq_false, not_false_eq_true, eq_self, fx_s, ↓run_s, run_0, ↓rs_n, ↓rs_c, as_s, ls_n, ls_c, lc_s, lget_c, fX3_edge_0, ↓ex_aload_n, ↓xR_r, ↓xRg_c, fX3_edge_1, ↓ex_getfield, ↓s1R_c, ↓fv_3_0, fX3_edge_4, ↓ex_iload_n, ↓xI_i, ↓xIg_c, fX3_edge_5, ↓ex_invokevirtual, ↓xc_0, ↓xc_s, ↓xc_1, ↓pk_s, ↓k_s, ↓k_n, catS_n, catS_c, rOk_c, ct_i, ct_l, ct_r, ↓pk_f, fX3_edge_8, ↓ex_ifCond_ne, ↓s1I_c, fX3_edge_11, ↓ex_bipush, fX3_edge_13, ↓ex_ireturn, ↓rt_i, fX3_edge_14, fX3_edge_15, ↓ex_tableswitch, fX3_edge_44, fX3_edge_45, fX3_edge_48, ↓fv_0_0, fX3_edge_51, fX3_edge_52, ↓ex_iaload, ↓sRI_c, ↓scrR_n, fX3_edge_53, fX3_edge_54, fX3_edge_55, fX3_edge_58, ↓fv_0_1, fX3_edge_61, fX3_edge_62, fX3_edge_63, fX3_edge_64, fX3_edge_65, fX3_edge_68, ↓fv_0_2, fX3_edge_71, fX3_edge_72, fX3_edge_73, fX3_edge_74, fX3_edge_75, fX3_edge_78, ↓fv_0_3, fX3_edge_81, fX3_edge_82, fX3_edge_83, fX3_edge_84, fX3_edge_86, p0, p1, p2, p3, p4, p5, q0, q1, q2, q3, q4, q5, ↓reduceIte, not_true_eq_false, not_false_eq_true, false_implies, true_implies, implies_true, and_true, true_and, and_false, false_and, or_true, true_or, or_false, false_or, Classical.not_not, ite_true, ite_false]
      refine ⟨hve, ok ?_⟩
      unfold s_edge
      rw [cif_t he, cif_f (show ¬ (3 : Int32) = 0 by decide), cif_f (show ¬ (3 : Int32) = 1 by decide), cif_f (show ¬ (3 : Int32) = 2 by decide), cif_t rfl]
      rw [show X.1 5 e.toNatClampNeg = _ from g4]
    have e9 : tsw 15 69 0 3 #[29, 39, 49, 59] w = 84 := by
      unfold tsw
      rw [if_pos]
      · rfl
      · rw [eqI] at w0 w1 w2 w3
        simp only [tI_m5, tI_m4, tI_m3, tI_m2, tI_m1, tI_0, tI_1, tI_2, tI_3, tI_4, tI_5, tI_7, tI_8, tI_10, tI_12, tI_30, tI_31, tI_32, tI_47, tI_48, tI_57, tI_59, tI_42, tI_43, tI_45, tI_61, tI_62, tI_100, tI_120, tI_255, tI_1000] at w0 w1 w2 w3
        omega
    simp only [e9, ↓reduceIte, Nat.reduceEqDiff, Nat.reduceAdd, Nat.reduceLeDiff, reduceCtorEq, and_true, true_and, false_and, and_false, true_or, or_true, or_false, false_or, true_implies, false_implies, implies_true, not_true_eq_false, not_false_eq_true, eq_self, fx_s, ↓run_s, run_0, ↓rs_n, ↓rs_c, as_s, ls_n, ls_c, lc_s, lget_c, fX3_edge_0, ↓ex_aload_n, ↓xR_r, ↓xRg_c, fX3_edge_1, ↓ex_getfield, ↓s1R_c, ↓fv_3_0, fX3_edge_4, ↓ex_iload_n, ↓xI_i, ↓xIg_c, fX3_edge_5, ↓ex_invokevirtual, ↓xc_0, ↓xc_s, ↓xc_1, ↓pk_s, ↓k_s, ↓k_n, catS_n, catS_c, rOk_c, ct_i, ct_l, ct_r, ↓pk_f, fX3_edge_8, ↓ex_ifCond_ne, ↓s1I_c, fX3_edge_11, ↓ex_bipush, fX3_edge_13, ↓ex_ireturn, ↓rt_i, fX3_edge_14, fX3_edge_15, ↓ex_tableswitch, fX3_edge_44, fX3_edge_45, fX3_edge_48, ↓fv_0_0, fX3_edge_51, fX3_edge_52, ↓ex_iaload, ↓sRI_c, ↓scrR_n, fX3_edge_53, fX3_edge_54, fX3_edge_55, fX3_edge_58, ↓fv_0_1, fX3_edge_61, fX3_edge_62, fX3_edge_63, fX3_edge_64, fX3_edge_65, fX3_edge_68, ↓fv_0_2, fX3_edge_71, fX3_edge_72, fX3_edge_73, fX3_edge_74, fX3_edge_75, fX3_edge_78, ↓fv_0_3, fX3_edge_81, fX3_edge_82, fX3_edge_83, fX3_edge_84, fX3_edge_86, ↓reduceIte, not_true_eq_false, not_false_eq_true, false_implies, true_implies, implies_true, and_true, true_and, and_false, false_and, or_true, true_or, or_false, false_or, Classical.not_not, ite_true, ite_false]
    exact ok (by unfold s_edge; rw [cif_t he, cif_f w0, cif_f w1, cif_f w2, cif_f w3])
  next => exact hC.elim)
end PUB2
