/-! The checks of numbers. -/
section CHECKS
noncomputable def C_X3_isNode : CT := fun As X K => match As with
  | [.int a] => K (some (.int (b2i (inR a 0 7)))) X
  | _ => False
set_option maxRecDepth 20000 in
set_option maxHeartbeats 4000000 in
theorem d_X3_isNode (l : Launch) : Does l yX3_isNode (wY yX3_isNode cX3_isNode 1 (retT 1)) (rmF 0) C_X3_isNode := does_of (rt := 1) (by decide +kernel) tkX3_isNode (calls := []) (fun _ h => absurd h List.not_mem_nil) (by
  intro As X post hC
  unfold C_X3_isNode at hC
  split at hC
  next a =>
    refine ⟨Nat.le_of_ble_eq_true rfl, fun R hR => ?_⟩
    have p0 : ¬ ((0 : Int) ≤ a.toInt ∧ a.toInt ≤ 7) → post (some (.int 0)) X := fun h => by rw [b2i_f (show ¬ inR a 0 7 from h)] at hC; exact hC
    have p1 : (0 : Int) ≤ a.toInt ∧ a.toInt ≤ 7 → post (some (.int 1)) X := fun h => by rw [b2i_t (show inR a 0 7 from h)] at hC; exact hC
    refine go hR [] 40 ?_
    simp only [lv_args, ↓reduceIte, Nat.reduceEqDiff, Nat.reduceAdd, Nat.reduceLeDiff, reduceCtorEq, and_true, true_and, false_and, and_false, true_or, or_true, or_false, false_or, true_implies, false_implies, implies_true, not_true_eq_false, not_false_eq_true, eq_self, fx_s, ↓run_s, run_0, ↓rs_n, ↓rs_c, as_s, ls_n, ls_c, lc_s, lget_c, fX3_isNode_0, ↓ex_iload_n, ↓xI_i, ↓xIg_c, fX3_isNode_1, ↓ex_ifCond_lt, ↓s1I_c, fX3_isNode_4, fX3_isNode_5, ↓ex_bipush, fX3_isNode_7, ↓ex_if_icmp_ge, ↓s2I_c, fX3_isNode_10, ↓ex_iconst, fX3_isNode_11, ↓ex_goto, fX3_isNode_14, fX3_isNode_15, ↓ex_ireturn, ↓rt_i, leI, ltI, tI_m5, tI_m4, tI_m3, tI_m2, tI_m1, tI_0, tI_1, tI_2, tI_3, tI_4, tI_5, tI_7, tI_8, tI_10, tI_12, tI_30, tI_31, tI_32, tI_47, tI_48, tI_57, tI_59, tI_42, tI_43, tI_45, tI_61, tI_62, tI_100, tI_120, tI_255, tI_1000]
    repeat' (first | apply And.intro | intro _)
    all_goals first | exact bl_0 | exact bl_1 | exact p0 (by omega) | exact p1 (by omega)
  next => exact hC.elim)
noncomputable def C_X3_isTrust : CT := fun As X K => match As with
  | [.int a] => K (some (.int (b2i (inR a 0 10)))) X
  | _ => False
set_option maxRecDepth 20000 in
set_option maxHeartbeats 4000000 in
theorem d_X3_isTrust (l : Launch) : Does l yX3_isTrust (wY yX3_isTrust cX3_isTrust 1 (retT 1)) (rmF 0) C_X3_isTrust := does_of (rt := 1) (by decide +kernel) tkX3_isTrust (calls := []) (fun _ h => absurd h List.not_mem_nil) (by
  intro As X post hC
  unfold C_X3_isTrust at hC
  split at hC
  next a =>
    refine ⟨Nat.le_of_ble_eq_true rfl, fun R hR => ?_⟩
    have p0 : ¬ ((0 : Int) ≤ a.toInt ∧ a.toInt ≤ 10) → post (some (.int 0)) X := fun h => by rw [b2i_f (show ¬ inR a 0 10 from h)] at hC; exact hC
    have p1 : (0 : Int) ≤ a.toInt ∧ a.toInt ≤ 10 → post (some (.int 1)) X := fun h => by rw [b2i_t (show inR a 0 10 from h)] at hC; exact hC
    refine go hR [] 40 ?_
    simp only [lv_args, ↓reduceIte, Nat.reduceEqDiff, Nat.reduceAdd, Nat.reduceLeDiff, reduceCtorEq, and_true, true_and, false_and, and_false, true_or, or_true, or_false, false_or, true_implies, false_implies, implies_true, not_true_eq_false, not_false_eq_true, eq_self, fx_s, ↓run_s, run_0, ↓rs_n, ↓rs_c, as_s, ls_n, ls_c, lc_s, lget_c, fX3_isTrust_0, ↓ex_iload_n, ↓xI_i, ↓xIg_c, fX3_isTrust_1, ↓ex_ifCond_lt, ↓s1I_c, fX3_isTrust_4, fX3_isTrust_5, ↓ex_bipush, fX3_isTrust_7, ↓ex_if_icmp_gt, ↓s2I_c, fX3_isTrust_10, ↓ex_iconst, fX3_isTrust_11, ↓ex_goto, fX3_isTrust_14, fX3_isTrust_15, ↓ex_ireturn, ↓rt_i, leI, ltI, tI_m5, tI_m4, tI_m3, tI_m2, tI_m1, tI_0, tI_1, tI_2, tI_3, tI_4, tI_5, tI_7, tI_8, tI_10, tI_12, tI_30, tI_31, tI_32, tI_47, tI_48, tI_57, tI_59, tI_42, tI_43, tI_45, tI_61, tI_62, tI_100, tI_120, tI_255, tI_1000]
    repeat' (first | apply And.intro | intro _)
    all_goals first | exact bl_0 | exact bl_1 | exact p0 (by omega) | exact p1 (by omega)
  next => exact hC.elim)
noncomputable def C_X3_isDelay : CT := fun As X K => match As with
  | [.int a] => K (some (.int (b2i (inR a 1 5)))) X
  | _ => False
set_option maxRecDepth 20000 in
set_option maxHeartbeats 4000000 in
theorem d_X3_isDelay (l : Launch) : Does l yX3_isDelay (wY yX3_isDelay cX3_isDelay 1 (retT 1)) (rmF 0) C_X3_isDelay := does_of (rt := 1) (by decide +kernel) tkX3_isDelay (calls := []) (fun _ h => absurd h List.not_mem_nil) (by
  intro As X post hC
  unfold C_X3_isDelay at hC
  split at hC
  next a =>
    refine ⟨Nat.le_of_ble_eq_true rfl, fun R hR => ?_⟩
    have p0 : ¬ ((1 : Int) ≤ a.toInt ∧ a.toInt ≤ 5) → post (some (.int 0)) X := fun h => by rw [b2i_f (show ¬ inR a 1 5 from h)] at hC; exact hC
    have p1 : (1 : Int) ≤ a.toInt ∧ a.toInt ≤ 5 → post (some (.int 1)) X := fun h => by rw [b2i_t (show inR a 1 5 from h)] at hC; exact hC
    refine go hR [] 40 ?_
    simp only [lv_args, ↓reduceIte, Nat.reduceEqDiff, Nat.reduceAdd, Nat.reduceLeDiff, reduceCtorEq, and_true, true_and, false_and, and_false, true_or, or_true, or_false, false_or, true_implies, false_implies, implies_true, not_true_eq_false, not_false_eq_true, eq_self, fx_s, ↓run_s, run_0, ↓rs_n, ↓rs_c, as_s, ls_n, ls_c, lc_s, lget_c, fX3_isDelay_0, ↓ex_iload_n, ↓xI_i, ↓xIg_c, fX3_isDelay_1, ↓ex_iconst, fX3_isDelay_2, ↓ex_if_icmp_lt, ↓s2I_c, fX3_isDelay_5, fX3_isDelay_6, fX3_isDelay_7, ↓ex_if_icmp_gt, fX3_isDelay_10, fX3_isDelay_11, ↓ex_goto, fX3_isDelay_14, fX3_isDelay_15, ↓ex_ireturn, ↓rt_i, leI, ltI, tI_m5, tI_m4, tI_m3, tI_m2, tI_m1, tI_0, tI_1, tI_2, tI_3, tI_4, tI_5, tI_7, tI_8, tI_10, tI_12, tI_30, tI_31, tI_32, tI_47, tI_48, tI_57, tI_59, tI_42, tI_43, tI_45, tI_61, tI_62, tI_100, tI_120, tI_255, tI_1000]
    repeat' (first | apply And.intro | intro _)
    all_goals first | exact bl_0 | exact bl_1 | exact p0 (by omega) | exact p1 (by omega)
  next => exact hC.elim)
noncomputable def C_X3_isTime : CT := fun As X K => match As with
  | [.int a] => K (some (.int (b2i (inR a 0 30)))) X
  | _ => False
set_option maxRecDepth 20000 in
set_option maxHeartbeats 4000000 in
theorem d_X3_isTime (l : Launch) : Does l yX3_isTime (wY yX3_isTime cX3_isTime 1 (retT 1)) (rmF 0) C_X3_isTime := does_of (rt := 1) (by decide +kernel) tkX3_isTime (calls := []) (fun _ h => absurd h List.not_mem_nil) (by
  intro As X post hC
  unfold C_X3_isTime at hC
  split at hC
  next a =>
    refine ⟨Nat.le_of_ble_eq_true rfl, fun R hR => ?_⟩
    have p0 : ¬ ((0 : Int) ≤ a.toInt ∧ a.toInt ≤ 30) → post (some (.int 0)) X := fun h => by rw [b2i_f (show ¬ inR a 0 30 from h)] at hC; exact hC
    have p1 : (0 : Int) ≤ a.toInt ∧ a.toInt ≤ 30 → post (some (.int 1)) X := fun h => by rw [b2i_t (show inR a 0 30 from h)] at hC; exact hC
    refine go hR [] 40 ?_
    simp only [lv_args, ↓reduceIte, Nat.reduceEqDiff, Nat.reduceAdd, Nat.reduceLeDiff, reduceCtorEq, and_true, true_and, false_and, and_false, true_or, or_true, or_false, false_or, true_implies, false_implies, implies_true, not_true_eq_false, not_false_eq_true, eq_self, fx_s, ↓run_s, run_0, ↓rs_n, ↓rs_c, as_s, ls_n, ls_c, lc_s, lget_c, fX3_isTime_0, ↓ex_iload_n, ↓xI_i, ↓xIg_c, fX3_isTime_1, ↓ex_ifCond_lt, ↓s1I_c, fX3_isTime_4, fX3_isTime_5, ↓ex_bipush, fX3_isTime_7, ↓ex_if_icmp_gt, ↓s2I_c, fX3_isTime_10, ↓ex_iconst, fX3_isTime_11, ↓ex_goto, fX3_isTime_14, fX3_isTime_15, ↓ex_ireturn, ↓rt_i, leI, ltI, tI_m5, tI_m4, tI_m3, tI_m2, tI_m1, tI_0, tI_1, tI_2, tI_3, tI_4, tI_5, tI_7, tI_8, tI_10, tI_12, tI_30, tI_31, tI_32, tI_47, tI_48, tI_57, tI_59, tI_42, tI_43, tI_45, tI_61, tI_62, tI_100, tI_120, tI_255, tI_1000]
    repeat' (first | apply And.intro | intro _)
    all_goals first | exact bl_0 | exact bl_1 | exact p0 (by omega) | exact p1 (by omega)
  next => exact hC.elim)
noncomputable def C_X3_isStart : CT := fun As X K => match As with
  | [.int a] => K (some (.int (b2i (inR a 1 255)))) X
  | _ => False
set_option maxRecDepth 20000 in
set_option maxHeartbeats 4000000 in
theorem d_X3_isStart (l : Launch) : Does l yX3_isStart (wY yX3_isStart cX3_isStart 1 (retT 1)) (rmF 0) C_X3_isStart := does_of (rt := 1) (by decide +kernel) tkX3_isStart (calls := []) (fun _ h => absurd h List.not_mem_nil) (by
  intro As X post hC
  unfold C_X3_isStart at hC
  split at hC
  next a =>
    refine ⟨Nat.le_of_ble_eq_true rfl, fun R hR => ?_⟩
    have p0 : ¬ ((1 : Int) ≤ a.toInt ∧ a.toInt ≤ 255) → post (some (.int 0)) X := fun h => by rw [b2i_f (show ¬ inR a 1 255 from h)] at hC; exact hC
    have p1 : (1 : Int) ≤ a.toInt ∧ a.toInt ≤ 255 → post (some (.int 1)) X := fun h => by rw [b2i_t (show inR a 1 255 from h)] at hC; exact hC
    refine go hR [] 40 ?_
    simp only [lv_args, ↓reduceIte, Nat.reduceEqDiff, Nat.reduceAdd, Nat.reduceLeDiff, reduceCtorEq, and_true, true_and, false_and, and_false, true_or, or_true, or_false, false_or, true_implies, false_implies, implies_true, not_true_eq_false, not_false_eq_true, eq_self, fx_s, ↓run_s, run_0, ↓rs_n, ↓rs_c, as_s, ls_n, ls_c, lc_s, lget_c, fX3_isStart_0, ↓ex_iload_n, ↓xI_i, ↓xIg_c, fX3_isStart_1, ↓ex_iconst, fX3_isStart_2, ↓ex_if_icmp_lt, ↓s2I_c, fX3_isStart_5, fX3_isStart_6, ↓ex_sipush, fX3_isStart_9, ↓ex_if_icmp_gt, fX3_isStart_12, fX3_isStart_13, ↓ex_goto, fX3_isStart_16, fX3_isStart_17, ↓ex_ireturn, ↓rt_i, leI, ltI, tI_m5, tI_m4, tI_m3, tI_m2, tI_m1, tI_0, tI_1, tI_2, tI_3, tI_4, tI_5, tI_7, tI_8, tI_10, tI_12, tI_30, tI_31, tI_32, tI_47, tI_48, tI_57, tI_59, tI_42, tI_43, tI_45, tI_61, tI_62, tI_100, tI_120, tI_255, tI_1000]
    repeat' (first | apply And.intro | intro _)
    all_goals first | exact bl_0 | exact bl_1 | exact p0 (by omega) | exact p1 (by omega)
  next => exact hC.elim)
noncomputable def C_X3_isTimeOrNone : CT := fun As X K => match As with
  | [.int a] => K (some (.int (b2i (inR a (-1) 30)))) X
  | _ => False
set_option maxRecDepth 20000 in
set_option maxHeartbeats 4000000 in
theorem d_X3_isTimeOrNone (l : Launch) : Does l yX3_isTimeOrNone (wY yX3_isTimeOrNone cX3_isTimeOrNone 1 (retT 1)) (rmF 1) C_X3_isTimeOrNone := does_of (rt := 1) (by decide +kernel) tkX3_isTimeOrNone (calls := [(90, true, 1, 3, C_X3_isTime)]) (List.forall_mem_cons.mpr ⟨cr_S (d_X3_isTime l) (by decide +kernel) (by decide +kernel) ⟨rfl, rfl⟩ ⟨Nat.le_of_ble_eq_true rfl, Nat.le_of_ble_eq_true rfl⟩, fun _ h => absurd h List.not_mem_nil⟩) (by
  intro As X post hC
  unfold C_X3_isTimeOrNone at hC
  split at hC
  next a =>
    refine ⟨Nat.le_of_ble_eq_true rfl, fun R hR => ?_⟩
    have p0 : ¬ ((-1 : Int) ≤ a.toInt ∧ a.toInt ≤ 30) → post (some (.int 0)) X := fun h => by rw [b2i_f (show ¬ inR a (-1) 30 from h)] at hC; exact hC
    have p1 : (-1 : Int) ≤ a.toInt ∧ a.toInt ≤ 30 → post (some (.int 1)) X := fun h => by rw [b2i_t (show inR a (-1) 30 from h)] at hC; exact hC
    refine go hR [] 40 ?_
    simp only [lv_args, ↓reduceIte, Nat.reduceEqDiff, Nat.reduceAdd, Nat.reduceLeDiff, reduceCtorEq, and_true, true_and, false_and, and_false, true_or, or_true, or_false, false_or, true_implies, false_implies, implies_true, not_true_eq_false, not_false_eq_true, eq_self, fx_s, ↓run_s, run_0, ↓rs_n, ↓rs_c, as_s, ls_n, ls_c, lc_s, lget_c, fX3_isTimeOrNone_0, ↓ex_iload_n, ↓xI_i, ↓xIg_c, fX3_isTimeOrNone_1, ↓ex_iconst, fX3_isTimeOrNone_2, ↓ex_if_icmp_eq, ↓s2I_c, fX3_isTimeOrNone_5, fX3_isTimeOrNone_6, ↓ex_invokestatic, ↓xc_0, ↓xc_s, ↓xc_1, ↓pk_s, ↓k_s, ↓k_n, catS_n, catS_c, rOk_c, ct_i, ct_l, ct_r, ↓pk_t, fX3_isTimeOrNone_9, ↓ex_ifCond_eq, ↓s1I_c, fX3_isTimeOrNone_12, fX3_isTimeOrNone_13, ↓ex_goto, fX3_isTimeOrNone_16, fX3_isTimeOrNone_17, ↓ex_ireturn, ↓rt_i, ↓C_X3_isTime, b2i_0, inR]
    simp only [leI, ltI, eqI, tI_m5, tI_m4, tI_m3, tI_m2, tI_m1, tI_0, tI_1, tI_2, tI_3, tI_4, tI_5, tI_7, tI_8, tI_10, tI_12, tI_30, tI_31, tI_32, tI_47, tI_48, tI_57, tI_59, tI_42, tI_43, tI_45, tI_61, tI_62, tI_100, tI_120, tI_255, tI_1000]
    repeat' (first | apply And.intro | intro _)
    all_goals first | exact bl_0 | exact bl_1 | exact Nat.le_of_ble_eq_true rfl | exact p0 (by omega) | exact p1 (by omega)
  next => exact hC.elim)
end CHECKS
