section SPREAD3
/-- the edge by which a node that hasn't heard could hear it first, and when -/
def nxE (s : SV) (t : Nat → Nat) (d : Nat) : Nat → Option Nat × Nat
  | 0 => (none, 31)
  | k + 1 => if d.testBit k = false ∧ t (s.T k) = 31 ∧ arr s t k < (nxE s t d k).2 then (some k, arr s t k) else nxE s t d k
theorem nxE_le (s : SV) (t : Nat → Nat) (d : Nat) : ∀ k, (nxE s t d k).2 ≤ 31
  | 0 => Nat.le_refl _
  | k + 1 => by
    have h := nxE_le s t d k
    unfold nxE
    split
    next g => exact Nat.le_of_lt (Nat.lt_of_lt_of_le g.2.2 h)
    next => exact h
def C_X1_nextEdge : CT := fun As X K => match As with
  | [.ref b, .ref c, .int d] => ∃ (s : SV) (t : Nat → Nat) (dm : Nat), (b = 8 ∧ c = 1 ∧ RS X 1 s ∧ WE s ∧ TM X t ∧ d = nI dm ∧ dm < 4096) ∧ K (some (.int (oI (nxE s t dm s.n).1))) X
  | _ => False
set_option maxRecDepth 20000 in
set_option maxHeartbeats 4000000 in
theorem d_X1_nextEdge (l : Launch) : Does l yX1_nextEdge (wY yX1_nextEdge cX1_nextEdge 9 (retT 0)) (rmF 2) C_X1_nextEdge := does_of (rt := 0) (by decide +kernel) tkX1_nextEdge (calls := [(43, true, 1, 3, C_X3_isNode), (62, false, 3, 1, C_X1_arrivalBy)]) (List.forall_mem_cons.mpr ⟨cr_NS (d_X3_isNode l) (by decide +kernel) (by decide +kernel) (by decide +kernel) ⟨rfl, rfl⟩ ⟨Nat.le_of_ble_eq_true rfl, Nat.le_of_ble_eq_true rfl⟩, List.forall_mem_cons.mpr ⟨cr_V (d_X1_arrivalBy l) rfl (by decide +kernel) (by decide +kernel) ⟨rfl, rfl⟩ ⟨Nat.le_of_ble_eq_true rfl, Nat.le_of_ble_eq_true rfl⟩, fun _ h => absurd h List.not_mem_nil⟩⟩) (by
  intro As X post hC
  unfold C_X1_nextEdge at hC
  split at hC
  next b c d =>
    obtain ⟨s, t, dm, ⟨rfl, rfl, hRS, hW, ht, rfl, hd⟩, hC⟩ := hC
    obtain ⟨w1, w2, w3⟩ := id hW
    obtain ⟨d1, d2, d3, d4, d5⟩ := id hRS
    refine ⟨Nat.le_of_ble_eq_true rfl, fun R hR => ?_⟩
    obtain ⟨⟨p8, p9, p10, p11⟩, q8, q9, q10, q11⟩ := sh_sp
    obtain ⟨⟨p0, p1, p2, p3, p4, p5, p6⟩, q0, q1, q2, q3, q4, q5, q6⟩ := sh_base
    have key : ∀ k i, i + k = s.n → R 9 [(0, .ref 8), (1, .ref 1), (2, .int (nI dm)), (3, .int (oI (nxE s t dm i).1)), (4, .int (nI (nxE s t dm i).2)), (5, .int (nI i))] [] X := by
      intro k
      induction k with
      | zero =>
        intro i hi
        refine go hR [(9, [0, 1, 2, 3, 4, 5])] 3 ?_
        simp only [↓reduceIte, Nat.reduceEqDiff, Nat.reduceAdd, Nat.reduceLeDiff, reduceCtorEq, and_true, true_and, false_and, and_false, true_or, or_true, or_false, false_or, true_implies, false_implies, implies_true, not_true_eq_false, not_false_eq_true, eq_self, fx_s, ↓run_s, run_0, ↓rs_n, ↓rs_c, as_s, ls_n, ls_c, lc_s, lget_c, fX1_nextEdge_0, ↓ex_iconst, fX1_nextEdge_1, ↓ex_istore_n, ↓s1I_c, ↓lsto_e, ↓lrmK_n, ↓lrmK_f, ct_i, ct_l, ct_r, fX1_nextEdge_2, ↓ex_bipush, fX1_nextEdge_4, ↓ex_istore, fX1_nextEdge_6, fX1_nextEdge_7, fX1_nextEdge_9, ↓ex_iload, ↓xI_i, ↓xIg_c, fX1_nextEdge_11, ↓ex_aload_n, ↓xR_r, ↓xRg_c, fX1_nextEdge_12, ↓ex_getfield, ↓s1R_c, ↓fv_0_4, fX1_nextEdge_15, ↓ex_if_icmp_ge, ↓s2I_c, fX1_nextEdge_18, fX1_nextEdge_19, ↓fv_0_1, fX1_nextEdge_22, fX1_nextEdge_24, ↓ex_iaload, ↓sRI_c, ↓scrR_n, fX1_nextEdge_25, fX1_nextEdge_27, ↓ex_iload_n, fX1_nextEdge_28, fX1_nextEdge_30, ↓ex_ishr, fX1_nextEdge_31, fX1_nextEdge_32, ↓ex_iand, fX1_nextEdge_33, ↓ex_ifCond_ne, fX1_nextEdge_36, fX1_nextEdge_37, ↓ex_goto, fX1_nextEdge_40, fX1_nextEdge_41, fX1_nextEdge_43, fX1_nextEdge_45, ↓ex_ifCond_eq, fX1_nextEdge_48, fX1_nextEdge_50, ↓ex_invokestatic, ↓xc_0, ↓xc_s, ↓xc_1, ↓pk_s, ↓k_s, ↓k_n, catS_n, catS_c, rOk_c, ↓pk_t, fX1_nextEdge_53, fX1_nextEdge_56, fX1_nextEdge_57, ↓fv_1_0, fX1_nextEdge_60, fX1_nextEdge_62, fX1_nextEdge_63, fX1_nextEdge_65, ↓ex_if_icmp_eq, fX1_nextEdge_68, fX1_nextEdge_71, fX1_nextEdge_72, fX1_nextEdge_73, fX1_nextEdge_75, ↓ex_invokevirtual, ↓pk_f, fX1_nextEdge_78, fX1_nextEdge_80, fX1_nextEdge_82, fX1_nextEdge_84, fX1_nextEdge_87, fX1_nextEdge_89, fX1_nextEdge_91, fX1_nextEdge_93, fX1_nextEdge_94, ↓ex_iinc, fX1_nextEdge_97, fX1_nextEdge_100, fX1_nextEdge_101, ↓ex_ireturn, ↓rt_i, p1, q1, d1, leN (a := s.n) (b := i) (by omega) (by omega)]
        refine ⟨fun _ => ?_, fun z => absurd (by omega) z⟩
        rw [show i = s.n by omega]
        refine go hR [] 3 ?_
        simp only [↓reduceIte, Nat.reduceEqDiff, Nat.reduceAdd, Nat.reduceLeDiff, reduceCtorEq, and_true, true_and, false_and, and_false, true_or, or_true, or_false, false_or, true_implies, false_implies, implies_true, not_true_eq_false, not_false_eq_true, eq_self, fx_s, ↓run_s, run_0, ↓rs_n, ↓rs_c, as_s, ls_n, ls_c, lc_s, lget_c, fX1_nextEdge_0, ↓ex_iconst, fX1_nextEdge_1, ↓ex_istore_n, ↓s1I_c, ↓lsto_e, ↓lrmK_n, ↓lrmK_f, ct_i, ct_l, ct_r, fX1_nextEdge_2, ↓ex_bipush, fX1_nextEdge_4, ↓ex_istore, fX1_nextEdge_6, fX1_nextEdge_7, fX1_nextEdge_9, ↓ex_iload, ↓xI_i, ↓xIg_c, fX1_nextEdge_11, ↓ex_aload_n, ↓xR_r, ↓xRg_c, fX1_nextEdge_12, ↓ex_getfield, ↓s1R_c, ↓fv_0_4, fX1_nextEdge_15, ↓ex_if_icmp_ge, ↓s2I_c, fX1_nextEdge_18, fX1_nextEdge_19, ↓fv_0_1, fX1_nextEdge_22, fX1_nextEdge_24, ↓ex_iaload, ↓sRI_c, ↓scrR_n, fX1_nextEdge_25, fX1_nextEdge_27, ↓ex_iload_n, fX1_nextEdge_28, fX1_nextEdge_30, ↓ex_ishr, fX1_nextEdge_31, fX1_nextEdge_32, ↓ex_iand, fX1_nextEdge_33, ↓ex_ifCond_ne, fX1_nextEdge_36, fX1_nextEdge_37, ↓ex_goto, fX1_nextEdge_40, fX1_nextEdge_41, fX1_nextEdge_43, fX1_nextEdge_45, ↓ex_ifCond_eq, fX1_nextEdge_48, fX1_nextEdge_50, ↓ex_invokestatic, ↓xc_0, ↓xc_s, ↓xc_1, ↓pk_s, ↓k_s, ↓k_n, catS_n, catS_c, rOk_c, ↓pk_t, fX1_nextEdge_53, fX1_nextEdge_56, fX1_nextEdge_57, ↓fv_1_0, fX1_nextEdge_60, fX1_nextEdge_62, fX1_nextEdge_63, fX1_nextEdge_65, ↓ex_if_icmp_eq, fX1_nextEdge_68, fX1_nextEdge_71, fX1_nextEdge_72, fX1_nextEdge_73, fX1_nextEdge_75, ↓ex_invokevirtual, ↓pk_f, fX1_nextEdge_78, fX1_nextEdge_80, fX1_nextEdge_82, fX1_nextEdge_84, fX1_nextEdge_87, fX1_nextEdge_89, fX1_nextEdge_91, fX1_nextEdge_93, fX1_nextEdge_94, ↓ex_iinc, fX1_nextEdge_97, fX1_nextEdge_100, fX1_nextEdge_101, ↓ex_ireturn, ↓rt_i]
        exact hC
      | succ k ih =>
        intro i hi
        obtain ⟨e1, e2, e3, e4⟩ := d2 i (by omega)
        obtain ⟨f1, f2, f3, f4, f5⟩ := w2 i (by omega)
        obtain ⟨g1, g2⟩ := ht (s.T i) f2
        have hle := nxE_le s t dm i
        have hal := arr_le w3 t i
        have one : ((1 : Int32) = 0) = False := by decide
        refine go hR [(9, [0, 1, 2, 3, 4, 5])] 80 ?_
        simp only [↓reduceIte, Nat.reduceEqDiff, Nat.reduceAdd, Nat.reduceLeDiff, reduceCtorEq, and_true, true_and, false_and, and_false, true_or, or_true, or_false, false_or, true_implies, false_implies, implies_true, not_true_eq_false, not_false_eq_true, eq_self, fx_s, ↓run_s, run_0, ↓rs_n, ↓rs_c, as_s, ls_n, ls_c, lc_s, lget_c, fX1_nextEdge_0, ↓ex_iconst, fX1_nextEdge_1, ↓ex_istore_n, ↓s1I_c, ↓lsto_e, ↓lrmK_n, ↓lrmK_f, ct_i, ct_l, ct_r, fX1_nextEdge_2, ↓ex_bipush, fX1_nextEdge_4, ↓ex_istore, fX1_nextEdge_6, fX1_nextEdge_7, fX1_nextEdge_9, ↓ex_iload, ↓xI_i, ↓xIg_c, fX1_nextEdge_11, ↓ex_aload_n, ↓xR_r, ↓xRg_c, fX1_nextEdge_12, ↓ex_getfield, ↓s1R_c, ↓fv_0_4, fX1_nextEdge_15, ↓ex_if_icmp_ge, ↓s2I_c, fX1_nextEdge_18, fX1_nextEdge_19, ↓fv_0_1, fX1_nextEdge_22, fX1_nextEdge_24, ↓ex_iaload, ↓sRI_c, ↓scrR_n, fX1_nextEdge_25, fX1_nextEdge_27, ↓ex_iload_n, fX1_nextEdge_28, fX1_nextEdge_30, ↓ex_ishr, fX1_nextEdge_31, fX1_nextEdge_32, ↓ex_iand, fX1_nextEdge_33, ↓ex_ifCond_ne, fX1_nextEdge_36, fX1_nextEdge_37, ↓ex_goto, fX1_nextEdge_40, fX1_nextEdge_41, fX1_nextEdge_43, fX1_nextEdge_45, ↓ex_ifCond_eq, fX1_nextEdge_48, fX1_nextEdge_50, ↓ex_invokestatic, ↓xc_0, ↓xc_s, ↓xc_1, ↓pk_s, ↓k_s, ↓k_n, catS_n, catS_c, rOk_c, ↓pk_t, fX1_nextEdge_53, fX1_nextEdge_56, fX1_nextEdge_57, ↓fv_1_0, fX1_nextEdge_60, fX1_nextEdge_62, fX1_nextEdge_63, fX1_nextEdge_65, ↓ex_if_icmp_eq, fX1_nextEdge_68, fX1_nextEdge_71, fX1_nextEdge_72, fX1_nextEdge_73, fX1_nextEdge_75, ↓ex_invokevirtual, ↓pk_f, fX1_nextEdge_78, fX1_nextEdge_80, fX1_nextEdge_82, fX1_nextEdge_84, fX1_nextEdge_87, fX1_nextEdge_89, fX1_nextEdge_91, fX1_nextEdge_93, fX1_nextEdge_94, ↓ex_iinc, fX1_nextEdge_97, fX1_nextEdge_100, fX1_nextEdge_101, ↓ex_ireturn, ↓rt_i, one, p1, p3, p8, p9, q1, q3, q8, q9, d1, leN (a := s.n) (b := i) (by omega) (by omega), clampN (n := i) (by omega), e2, bit0 (m := dm) (e := i) (by omega) (by omega), ↓C_X3_isNode, ↓C_X1_arrivalBy, b2i_0, inR_n f2, clampN (n := s.T i) (by omega), g1, add1N, eq31N (a := t (s.T i)) (by omega), ↓reduceIte, not_true_eq_false, not_false_eq_true, false_implies, true_implies, implies_true, and_true, true_and, and_false, false_and, or_true, true_or, or_false, false_or, Classical.not_not, ite_true, ite_false]
        have hv1 : vp_in (nI i) 12 := vp_inN (by omega) (by omega)
        have hv2 : vp_in (nI (s.T i)) 8 := vp_inN (by omega) f2
        have hi1 := ih (i + 1) (by omega)
        have no : ¬ (dm.testBit i = false ∧ t (s.T i) = 31 ∧ arr s t i < (nxE s t dm i).2) → R 9 [(0, .ref 8), (1, .ref 1), (2, .int (nI dm)), (3, .int (oI (nxE s t dm i).1)), (4, .int (nI (nxE s t dm i).2)), (5, .int (nI (i + 1)))] [] X := fun h => by
          unfold nxE at hi1
          rw [if_neg h] at hi1
          exact hi1
        have yes : (dm.testBit i = false ∧ t (s.T i) = 31 ∧ arr s t i < (nxE s t dm i).2) → R 9 [(0, .ref 8), (1, .ref 1), (2, .int (nI dm)), (3, .int (nI i)), (4, .int (nI (arr s t i))), (5, .int (nI (i + 1)))] [] X := fun h => by
          unfold nxE at hi1
          rw [if_pos h] at hi1
          exact hi1
        refine ⟨fun z => absurd z (by omega), fun _ => ⟨hv1, ?_⟩⟩
        refine ⟨fun z => no (fun y => z y.1), fun z => ⟨hv2, fun y => ⟨s, t, i, ⟨hRS, hW, ht, rfl, by omega⟩, ?_⟩, fun y => no (fun x => y x.2.1)⟩⟩
        rw [leN (by omega) (by omega)]
        exact ⟨fun x => no (fun u => by have := u.2.2; omega), fun x => yes ⟨z, y, by omega⟩⟩
    refine go hR [(9, [0, 1, 2, 3, 4, 5])] 60 ?_
    simp only [lv_args, ↓reduceIte, Nat.reduceEqDiff, Nat.reduceAdd, Nat.reduceLeDiff, reduceCtorEq, and_true, true_and, false_and, and_false, true_or, or_true, or_false, false_or, true_implies, false_implies, implies_true, not_true_eq_false, not_false_eq_true, eq_self, fx_s, ↓run_s, run_0, ↓rs_n, ↓rs_c, as_s, ls_n, ls_c, lc_s, lget_c, fX1_nextEdge_0, ↓ex_iconst, fX1_nextEdge_1, ↓ex_istore_n, ↓s1I_c, ↓lsto_e, ↓lrmK_n, ↓lrmK_f, ct_i, ct_l, ct_r, fX1_nextEdge_2, ↓ex_bipush, fX1_nextEdge_4, ↓ex_istore, fX1_nextEdge_6, fX1_nextEdge_7, fX1_nextEdge_9, ↓ex_iload, ↓xI_i, ↓xIg_c, fX1_nextEdge_11, ↓ex_aload_n, ↓xR_r, ↓xRg_c, fX1_nextEdge_12, ↓ex_getfield, ↓s1R_c, ↓fv_0_4, fX1_nextEdge_15, ↓ex_if_icmp_ge, ↓s2I_c, fX1_nextEdge_18, fX1_nextEdge_19, ↓fv_0_1, fX1_nextEdge_22, fX1_nextEdge_24, ↓ex_iaload, ↓sRI_c, ↓scrR_n, fX1_nextEdge_25, fX1_nextEdge_27, ↓ex_iload_n, fX1_nextEdge_28, fX1_nextEdge_30, ↓ex_ishr, fX1_nextEdge_31, fX1_nextEdge_32, ↓ex_iand, fX1_nextEdge_33, ↓ex_ifCond_ne, fX1_nextEdge_36, fX1_nextEdge_37, ↓ex_goto, fX1_nextEdge_40, fX1_nextEdge_41, fX1_nextEdge_43, fX1_nextEdge_45, ↓ex_ifCond_eq, fX1_nextEdge_48, fX1_nextEdge_50, ↓ex_invokestatic, ↓xc_0, ↓xc_s, ↓xc_1, ↓pk_s, ↓k_s, ↓k_n, catS_n, catS_c, rOk_c, ↓pk_t, fX1_nextEdge_53, fX1_nextEdge_56, fX1_nextEdge_57, ↓fv_1_0, fX1_nextEdge_60, fX1_nextEdge_62, fX1_nextEdge_63, fX1_nextEdge_65, ↓ex_if_icmp_eq, fX1_nextEdge_68, fX1_nextEdge_71, fX1_nextEdge_72, fX1_nextEdge_73, fX1_nextEdge_75, ↓ex_invokevirtual, ↓pk_f, fX1_nextEdge_78, fX1_nextEdge_80, fX1_nextEdge_82, fX1_nextEdge_84, fX1_nextEdge_87, fX1_nextEdge_89, fX1_nextEdge_91, fX1_nextEdge_93, fX1_nextEdge_94, ↓ex_iinc, fX1_nextEdge_97, fX1_nextEdge_100, fX1_nextEdge_101, ↓ex_ireturn, ↓rt_i]
    exact key s.n 0 (by omega)
  next => exact hC.elim)
end SPREAD3
