section MPUB3
theorem tM_1000 {t : Nat} (h : t ≤ 31) : (nI (tM t) = 1000) = (t = 31) := by
  refine propext ⟨fun z => ?_, fun z => by rw [z]; rfl⟩
  unfold tM at z
  by_cases c : t = 31
  · exact c
  · rw [if_neg c] at z
    have := (eqN (b := 1000) (by omega) (by decide)).mp z
    omega
theorem told_tM {t : Nat} (h : t ≤ 31) : cif (nI (tM t) = 1000) (-1) (nI (tM t)) = tN t := by
  rw [tM_1000 h]
  unfold tN tM
  by_cases c : t = 31
  · rw [cif_t c, if_pos c]
  · rw [cif_f c, if_neg c, if_neg c]
theorem tau_31 {s : SV} (hW : WE s) (m o : Nat) {v : Nat} (hv : v < 8) : tau s m o v ≤ 31 := (tau_sol hW m o).1 v hv
theorem tN_wI {t : Int32} {x : Nat} (ht : okS t) (h100 : t ≠ 100) (hx : x ≤ 31) : tN x = t ↔ x = wI t := by
  unfold tN wI
  rcases ht with rfl | rfl | ⟨n, hn, rfl⟩
  · rw [if_pos rfl]
    by_cases c : x = 31
    · rw [if_pos c]; exact ⟨fun _ => c, fun _ => rfl⟩
    · rw [if_neg c]
      refine ⟨fun z => ?_, fun z => absurd z c⟩
      rw [eqI, nI_toInt (by omega), tI_m1] at z
      omega
  · exact absurd rfl h100
  · have hn1 : ¬ nI n = -1 := fun z => by rw [eqI, nI_toInt (by omega), tI_m1] at z; omega
    rw [if_neg hn1, show cl (nI n) = n from clampN (by omega)]
    by_cases c : x = 31
    · rw [if_pos c]
      exact ⟨fun z => absurd z.symm hn1, fun z => by omega⟩
    · rw [if_neg c]; exact eqN (by omega) (by omega)
theorem wS_fit {s : SV} {v x : Nat} (ht : okS (s.S v)) (hx : x ≤ 31) : (s.S v = 100 ∨ s.S v = tN x) ↔ (wS s v = 100 ∨ x = wS s v) := by
  by_cases h : s.S v = 100
  · refine ⟨fun _ => Or.inl ?_, fun _ => Or.inl h⟩
    unfold wS; rw [h]; rfl
  · have hw : wS s v ≠ 100 := by
      unfold wS wI
      rcases ht with z | z | ⟨n, hn, z⟩
      · rw [z, if_pos rfl]; decide
      · exact absurd z h
      · rw [z, if_neg (fun y => by rw [eqI, nI_toInt (by omega), tI_m1] at y; omega), show cl (nI n) = n from clampN (by omega)]; omega
    have := tN_wI ht h hx
    refine ⟨fun z => Or.inr (this.mp (z.resolve_left h).symm), fun z => Or.inr (this.mpr (z.resolve_left hw)).symm⟩
theorem RelM.f53 {X X' : XT} {g : SG} (h : RelM X g) (hF : Fr (fun k => k = 53) X X') : RelM X' g := h.scrap (hF.mono (fun k z => Or.inl z))
theorem Fr.c53 {X X' : XT} (h : Fr (fun k => k = 53) X X') : FrC X X' := FrC.of h (fun k z => by omega)
theorem RSf.f53 {X X' : XT} {s : SV} (h : RSf (X.1 52) s) (hF : Fr (fun k => k = 53) X X') : RSf (X'.1 52) s := by rw [hF.1 52 (by decide)]; exact h
noncomputable def C_X4_told : CT := fun As X K => match As with
  | [.int t] => K (some (.int (cif (t = 1000) (-1) t))) X
  | _ => False
set_option maxRecDepth 20000 in
set_option maxHeartbeats 4000000 in
theorem d_X4_told (l : Launch) : Does l yX4_told (wY yX4_told cX4_told 1 (retT 0)) (rmF 0) C_X4_told := does_of (rt := 0) (by decide +kernel) tkX4_told (calls := []) (fun _ h => absurd h List.not_mem_nil) (by
  intro As X post hC
  unfold C_X4_told at hC
  split at hC
  next t =>
    refine ⟨Nat.le_of_ble_eq_true rfl, fun R hR => ?_⟩
    refine go hR [] 40 ?_
    simp only [lv_args, ↓reduceIte, Nat.reduceEqDiff, Nat.reduceAdd, Nat.reduceLeDiff, reduceCtorEq, and_true, true_and, false_and, and_false, true_or, or_true, or_false, false_or, true_implies, false_implies, implies_true, not_true_eq_false, not_false_eq_true, eq_self, fx_s, ↓run_s, run_0, ↓rs_n, ↓rs_c, as_s, ls_n, ls_c, lc_s, lget_c, fX4_told_0, ↓ex_iload_n, ↓xI_i, ↓xIg_c, fX4_told_1, ↓ex_sipush, fX4_told_4, ↓ex_if_icmp_ne, ↓s2I_c, fX4_told_7, ↓ex_iconst, fX4_told_8, ↓ex_goto, fX4_told_11, fX4_told_12, ↓ex_ireturn, ↓rt_i, ↓reduceIte, not_true_eq_false, not_false_eq_true, false_implies, true_implies, implies_true, and_true, true_and, and_false, false_and, or_true, true_or, or_false, false_or, Classical.not_not, ite_true, ite_false]
    refine ⟨fun z => ?_, fun z => ?_⟩
    · rw [cif_f z] at hC; exact hC
    · rw [cif_t z] at hC; exact hC
  next => exact hC.elim)
noncomputable def C_X4_isFit : CT := fun As X K => match As with
  | [.ref r] => ∃ (s : SV) (m o : Nat), (r = 51 ∧ RSf (X.1 52) s ∧ okSs s ∧ TT X s m o) ∧ K (some (.int (b2i (fitW s m (wS s) o)))) X
  | _ => False
set_option maxRecDepth 20000 in
set_option maxHeartbeats 4000000 in
theorem d_X4_isFit (l : Launch) : Does l yX4_isFit (wY yX4_isFit cX4_isFit 3 (retT 1)) (rmF 1) C_X4_isFit := does_of (rt := 1) (by decide +kernel) tkX4_isFit (calls := [(67, true, 1, 4, C_X4_told)]) (List.forall_mem_cons.mpr ⟨cr_S (d_X4_told l) (by decide +kernel) (by decide +kernel) ⟨rfl, rfl⟩ ⟨Nat.le_of_ble_eq_true rfl, Nat.le_of_ble_eq_true rfl⟩, fun _ h => absurd h List.not_mem_nil⟩) (by
  intro As X post hC
  unfold C_X4_isFit at hC
  split at hC
  next r =>
    obtain ⟨s, m, o, ⟨rfl, hS, ⟨hW, hok⟩, hT⟩, hpost⟩ := hC
    refine ⟨Nat.le_of_ble_eq_true rfl, fun R hR => ?_⟩
    obtain ⟨⟨p1, p2, p3, p4, p5, p6, p7⟩, q1, q2, q3, q4, q5, q6, q7⟩ := sh_m
    obtain ⟨h1, h2, h3, h4, h5⟩ := id hS
    have key : ∀ k i, i + k = 8 → R 4 [(0, .ref 51), (1, .int (b2i (∀ v, v < i → (wS s v = 100 ∨ tau s m o v = wS s v)))), (2, .int (nI i))] [] X := by
      intro k
      induction k with
      | zero =>
        intro i hi
        refine go hR [(4, [0, 1, 2])] 60 ?_
        simp only [↓reduceIte, Nat.reduceEqDiff, Nat.reduceAdd, Nat.reduceLeDiff, reduceCtorEq, and_true, true_and, false_and, and_false, true_or, or_true, or_false, false_or, true_implies, false_implies, implies_true, not_true_eq_false, not_false_eq_true, eq_self, fx_s, ↓run_s, run_0, ↓rs_n, ↓rs_c, as_s, ls_n, ls_c, lc_s, lget_c, fX4_isFit_0, ↓ex_iconst, fX4_isFit_1, ↓ex_istore_n, ↓s1I_c, ↓lsto_e, ↓lrmK_n, ↓lrmK_f, ct_i, ct_l, ct_r, fX4_isFit_2, fX4_isFit_3, fX4_isFit_4, ↓ex_iload_n, ↓xI_i, ↓xIg_c, fX4_isFit_5, ↓ex_bipush, fX4_isFit_7, ↓ex_if_icmp_ge, ↓s2I_c, fX4_isFit_10, fX4_isFit_11, ↓ex_ifCond_eq, fX4_isFit_14, ↓ex_aload_n, ↓xR_r, ↓xRg_c, fX4_isFit_15, ↓ex_getfield, ↓s1R_c, ↓fv_4_0, fX4_isFit_18, fX4_isFit_20, fX4_isFit_21, ↓ex_iadd, fX4_isFit_22, ↓ex_iaload, ↓sRI_c, ↓scrR_n, fX4_isFit_23, fX4_isFit_25, ↓ex_if_icmp_eq, fX4_isFit_28, fX4_isFit_29, fX4_isFit_32, fX4_isFit_34, fX4_isFit_35, fX4_isFit_36, fX4_isFit_37, fX4_isFit_38, ↓fv_4_3, fX4_isFit_41, fX4_isFit_42, fX4_isFit_43, ↓ex_invokestatic, ↓xc_0, ↓xc_s, ↓xc_1, ↓pk_s, ↓k_s, ↓k_n, catS_n, catS_c, rOk_c, ↓pk_t, fX4_isFit_46, ↓ex_if_icmp_ne, fX4_isFit_49, fX4_isFit_50, ↓ex_goto, fX4_isFit_53, fX4_isFit_54, fX4_isFit_55, ↓ex_iinc, fX4_isFit_58, fX4_isFit_61, fX4_isFit_62, ↓ex_ireturn, ↓rt_i, leI, nI_toInt (n := i) (by omega), tI_m5, tI_m4, tI_m3, tI_m2, tI_m1, tI_0, tI_1, tI_2, tI_3, tI_4, tI_5, tI_7, tI_8, tI_10, tI_12, tI_30, tI_31, tI_32, tI_47, tI_48, tI_57, tI_59, tI_42, tI_43, tI_45, tI_61, tI_62, tI_100, tI_120, tI_255, tI_1000, ↓reduceIte, not_true_eq_false, not_false_eq_true, false_implies, true_implies, implies_true, and_true, true_and, and_false, false_and, or_true, true_or, or_false, false_or, Classical.not_not, ite_true, ite_false]
        refine ⟨fun _ => ⟨bl_b2i _, ?_⟩, fun z => absurd (by omega) z⟩
        rw [show i = 8 by omega]
        exact hpost
      | succ k ih =>
        intro i hi
        have t31 := tau_31 hW m o (v := i) (by omega)
        have hfit := wS_fit (hok i (by omega)) t31
        have hn := ih (i + 1) (by omega)
        have yes : (∀ v, v < i → (wS s v = 100 ∨ tau s m o v = wS s v)) → (s.S i = 100 ∨ s.S i = tN (tau s m o i)) → R 4 [(0, .ref 51), (1, .int 1), (2, .int (nI (i + 1)))] [] X := fun a c => by
          rw [b2i_t (fun v hv => by
            by_cases z : v = i
            · rw [z]; exact hfit.mp c
            · exact a v (by omega))] at hn
          exact hn
        have no : ¬ ((∀ v, v < i → (wS s v = 100 ∨ tau s m o v = wS s v)) ∧ (s.S i = 100 ∨ s.S i = tN (tau s m o i))) → R 4 [(0, .ref 51), (1, .int 0), (2, .int (nI (i + 1)))] [] X := fun a => by
          rw [b2i_f (fun z => a ⟨fun v hv => z v (by omega), hfit.mpr (z i (by omega))⟩)] at hn
          exact hn
        refine go hR [(4, [0, 1, 2])] 60 ?_
        simp only [↓reduceIte, Nat.reduceEqDiff, Nat.reduceAdd, Nat.reduceLeDiff, reduceCtorEq, and_true, true_and, false_and, and_false, true_or, or_true, or_false, false_or, true_implies, false_implies, implies_true, not_true_eq_false, not_false_eq_true, eq_self, fx_s, ↓run_s, run_0, ↓rs_n, ↓rs_c, as_s, ls_n, ls_c, lc_s, lget_c, fX4_isFit_0, ↓ex_iconst, fX4_isFit_1, ↓ex_istore_n, ↓s1I_c, ↓lsto_e, ↓lrmK_n, ↓lrmK_f, ct_i, ct_l, ct_r, fX4_isFit_2, fX4_isFit_3, fX4_isFit_4, ↓ex_iload_n, ↓xI_i, ↓xIg_c, fX4_isFit_5, ↓ex_bipush, fX4_isFit_7, ↓ex_if_icmp_ge, ↓s2I_c, fX4_isFit_10, fX4_isFit_11, ↓ex_ifCond_eq, fX4_isFit_14, ↓ex_aload_n, ↓xR_r, ↓xRg_c, fX4_isFit_15, ↓ex_getfield, ↓s1R_c, ↓fv_4_0, fX4_isFit_18, fX4_isFit_20, fX4_isFit_21, ↓ex_iadd, fX4_isFit_22, ↓ex_iaload, ↓sRI_c, ↓scrR_n, fX4_isFit_23, fX4_isFit_25, ↓ex_if_icmp_eq, fX4_isFit_28, fX4_isFit_29, fX4_isFit_32, fX4_isFit_34, fX4_isFit_35, fX4_isFit_36, fX4_isFit_37, fX4_isFit_38, ↓fv_4_3, fX4_isFit_41, fX4_isFit_42, fX4_isFit_43, ↓ex_invokestatic, ↓xc_0, ↓xc_s, ↓xc_1, ↓pk_s, ↓k_s, ↓k_n, catS_n, catS_c, rOk_c, ↓pk_t, fX4_isFit_46, ↓ex_if_icmp_ne, fX4_isFit_49, fX4_isFit_50, ↓ex_goto, fX4_isFit_53, fX4_isFit_54, fX4_isFit_55, ↓ex_iinc, fX4_isFit_58, fX4_isFit_61, fX4_isFit_62, ↓ex_ireturn, ↓rt_i, p1, p2, p3, q1, q2, q3, ix_v, ↓C_X4_told, b2i_0, leI, nI_toInt (n := i) (by omega), tI_m5, tI_m4, tI_m3, tI_m2, tI_m1, tI_0, tI_1, tI_2, tI_3, tI_4, tI_5, tI_7, tI_8, tI_10, tI_12, tI_30, tI_31, tI_32, tI_47, tI_48, tI_57, tI_59, tI_42, tI_43, tI_45, tI_61, tI_62, tI_100, tI_120, tI_255, tI_1000, clampN (n := i) (by omega), clampN (n := 51 + i) (by omega), h5 i (by omega), hT i (by omega), told_tM t31, add1N, ↓reduceIte, not_true_eq_false, not_false_eq_true, false_implies, true_implies, implies_true, and_true, true_and, and_false, false_and, or_true, true_or, or_false, false_or, Classical.not_not, ite_true, ite_false]
        have vi : vp_in (nI i) 8 := vp_inN (by omega) (by omega)
        have vj : vp_in (nI (51 + i)) 354 := vp_inN (by omega) (by omega)
        refine ⟨fun z => absurd z (by omega), fun _ => ⟨fun a => no (fun z => a z.1), fun a => ⟨vj, fun c => yes a (Or.inl c), fun c => ⟨vj, vi, fun d => no (fun z => (z.2).elim c d), fun d => yes a (Or.inr d)⟩⟩⟩⟩
    refine go hR [(4, [0, 1, 2])] 60 ?_
    simp only [lv_args, ↓reduceIte, Nat.reduceEqDiff, Nat.reduceAdd, Nat.reduceLeDiff, reduceCtorEq, and_true, true_and, false_and, and_false, true_or, or_true, or_false, false_or, true_implies, false_implies, implies_true, not_true_eq_false, not_false_eq_true, eq_self, fx_s, ↓run_s, run_0, ↓rs_n, ↓rs_c, as_s, ls_n, ls_c, lc_s, lget_c, fX4_isFit_0, ↓ex_iconst, fX4_isFit_1, ↓ex_istore_n, ↓s1I_c, ↓lsto_e, ↓lrmK_n, ↓lrmK_f, ct_i, ct_l, ct_r, fX4_isFit_2, fX4_isFit_3, fX4_isFit_4, ↓ex_iload_n, ↓xI_i, ↓xIg_c, fX4_isFit_5, ↓ex_bipush, fX4_isFit_7, ↓ex_if_icmp_ge, ↓s2I_c, fX4_isFit_10, fX4_isFit_11, ↓ex_ifCond_eq, fX4_isFit_14, ↓ex_aload_n, ↓xR_r, ↓xRg_c, fX4_isFit_15, ↓ex_getfield, ↓s1R_c, ↓fv_4_0, fX4_isFit_18, fX4_isFit_20, fX4_isFit_21, ↓ex_iadd, fX4_isFit_22, ↓ex_iaload, ↓sRI_c, ↓scrR_n, fX4_isFit_23, fX4_isFit_25, ↓ex_if_icmp_eq, fX4_isFit_28, fX4_isFit_29, fX4_isFit_32, fX4_isFit_34, fX4_isFit_35, fX4_isFit_36, fX4_isFit_37, fX4_isFit_38, ↓fv_4_3, fX4_isFit_41, fX4_isFit_42, fX4_isFit_43, ↓ex_invokestatic, ↓xc_0, ↓xc_s, ↓xc_1, ↓pk_s, ↓k_s, ↓k_n, catS_n, catS_c, rOk_c, ↓pk_t, fX4_isFit_46, ↓ex_if_icmp_ne, fX4_isFit_49, fX4_isFit_50, ↓ex_goto, fX4_isFit_53, fX4_isFit_54, fX4_isFit_55, ↓ex_iinc, fX4_isFit_58, fX4_isFit_61, fX4_isFit_62, ↓ex_ireturn, ↓rt_i, ↓reduceIte, not_true_eq_false, not_false_eq_true, false_implies, true_implies, implies_true, and_true, true_and, and_false, false_and, or_true, true_or, or_false, false_or, Classical.not_not, ite_true, ite_false]
    have := key 8 0 (by omega)
    rw [b2i_t (fun v hv => absurd hv (by omega))] at this
    exact this
  next => exact hC.elim)
noncomputable def C_X4_timeBy : CT := fun As X K => match As with
  | [.ref b, .int st, .int o, .int v] => b = 51 ∧ PubMI (s_timeBy st o v) X K
  | _ => False
set_option maxRecDepth 20000 in
set_option maxHeartbeats 4000000 in
theorem d_X4_timeBy (l : Launch) : Does l yX4_timeBy (wY yX4_timeBy cX4_timeBy 4 (retT 0)) (rmF 2) C_X4_timeBy := does_of (rt := 0) (by decide +kernel) tkX4_timeBy (calls := [(50, true, 1, 4, C_X4_isNode), (74, true, 1, 4, C_X4_isStart), (81, false, 2, 4, C_X4_isOutcome), (78, false, 3, 4, C_X4_hears), (67, true, 1, 4, C_X4_told)]) (List.forall_mem_cons.mpr ⟨cr_S (d_X4_isNode l) (by decide +kernel) (by decide +kernel) ⟨rfl, rfl⟩ ⟨Nat.le_of_ble_eq_true rfl, Nat.le_of_ble_eq_true rfl⟩, List.forall_mem_cons.mpr ⟨cr_S (d_X4_isStart l) (by decide +kernel) (by decide +kernel) ⟨rfl, rfl⟩ ⟨Nat.le_of_ble_eq_true rfl, Nat.le_of_ble_eq_true rfl⟩, List.forall_mem_cons.mpr ⟨cr_V (d_X4_isOutcome l) rfl (by decide +kernel) (by decide +kernel) ⟨rfl, rfl⟩ ⟨Nat.le_of_ble_eq_true rfl, Nat.le_of_ble_eq_true rfl⟩, List.forall_mem_cons.mpr ⟨cr_V (d_X4_hears l) rfl (by decide +kernel) (by decide +kernel) ⟨rfl, rfl⟩ ⟨Nat.le_of_ble_eq_true rfl, Nat.le_of_ble_eq_true rfl⟩, List.forall_mem_cons.mpr ⟨cr_S (d_X4_told l) (by decide +kernel) (by decide +kernel) ⟨rfl, rfl⟩ ⟨Nat.le_of_ble_eq_true rfl, Nat.le_of_ble_eq_true rfl⟩, fun _ h => absurd h List.not_mem_nil⟩⟩⟩⟩⟩) (by
  intro As X post hC
  unfold C_X4_timeBy at hC
  split at hC
  next b st o v =>
    obtain ⟨rfl, g, hR0, hpost⟩ := hC
    refine ⟨Nat.le_of_ble_eq_true rfl, fun R hR => ?_⟩
    obtain ⟨⟨p1, p2, p3, p4, p5, p6, p7⟩, q1, q2, q3, q4, q5, q6, q7⟩ := sh_m
    have hw := hR0.1.1
    have hn := hw.1
    have m1 := hR0.2.1
    refine go hR [] 80 ?_
    simp only [lv_args, ↓reduceIte, Nat.reduceEqDiff, Nat.reduceAdd, Nat.reduceLeDiff, reduceCtorEq, and_true, true_and, false_and, and_false, true_or, or_true, or_false, false_or, true_implies, false_implies, implies_true, not_true_eq_false, not_false_eq_true, eq_self, fx_s, ↓run_s, run_0, ↓rs_n, ↓rs_c, as_s, ls_n, ls_c, lc_s, lget_c, fX4_timeBy_0, ↓ex_iload_n, ↓xI_i, ↓xIg_c, fX4_timeBy_1, ↓ex_invokestatic, ↓xc_0, ↓xc_s, ↓xc_1, ↓pk_s, ↓k_s, ↓k_n, catS_n, catS_c, rOk_c, ct_i, ct_l, ct_r, ↓pk_t, fX4_timeBy_4, ↓ex_ifCond_ne, ↓s1I_c, fX4_timeBy_7, ↓ex_bipush, fX4_timeBy_9, ↓ex_ireturn, ↓rt_i, fX4_timeBy_10, fX4_timeBy_11, fX4_timeBy_14, ↓ex_ifCond_eq, fX4_timeBy_17, ↓ex_aload_n, ↓xR_r, ↓xRg_c, fX4_timeBy_18, fX4_timeBy_19, ↓ex_invokevirtual, ↓pk_f, fX4_timeBy_22, fX4_timeBy_25, fX4_timeBy_27, fX4_timeBy_28, fX4_timeBy_29, fX4_timeBy_30, fX4_timeBy_31, fX4_timeBy_34, fX4_timeBy_35, ↓ex_getfield, ↓s1R_c, ↓fv_4_3, fX4_timeBy_38, fX4_timeBy_39, ↓ex_iaload, ↓sRI_c, ↓scrR_n, fX4_timeBy_40, fX4_timeBy_43, p1, p3, q1, q3, ↓C_X4_isNode, ↓C_X4_isStart, ↓C_X4_isOutcome, ↓C_X4_hears, ↓C_X4_told, b2i_0, Classical.not_not, ↓reduceIte, not_true_eq_false, not_false_eq_true, false_implies, true_implies, implies_true, and_true, true_and, and_false, false_and, or_true, true_or, or_false, false_or, Classical.not_not, ite_true, ite_false]
    unfold s_timeBy at hpost
    by_cases hv : inR v 0 7
    case neg => (rw [cif_f hv] at hpost; simp only [hv, ↓reduceIte, not_true_eq_false, not_false_eq_true, false_implies, true_implies, implies_true, and_true, true_and, and_false, false_and, or_true, true_or, or_false, false_or, Classical.not_not, ite_true, ite_false]; exact hpost X hR0 (FrC.rf X))
    rw [cif_t hv] at hpost
    simp only [hv, ↓reduceIte, not_true_eq_false, not_false_eq_true, false_implies, true_implies, implies_true, and_true, true_and, and_false, false_and, or_true, true_or, or_false, false_or, Classical.not_not, ite_true, ite_false]
    by_cases h : inR st 1 255
    case neg => (rw [cif_f (fun z => h z.1)] at hpost; simp only [h, ↓reduceIte, not_true_eq_false, not_false_eq_true, false_implies, true_implies, implies_true, and_true, true_and, and_false, false_and, or_true, true_or, or_false, false_or, Classical.not_not, ite_true, ite_false]; exact hpost X hR0 (FrC.rf X))
    simp only [h, ↓reduceIte, not_true_eq_false, not_false_eq_true, false_implies, true_implies, implies_true, and_true, true_and, and_false, false_and, or_true, true_or, or_false, false_or, Classical.not_not, ite_true, ite_false]
    refine ⟨g.now, ⟨m1, hn⟩, ?_⟩
    by_cases ho : isO g.now o
    case neg => (rw [cif_f (fun z => ho z.2)] at hpost; simp only [ho, ↓reduceIte, not_true_eq_false, not_false_eq_true, false_implies, true_implies, implies_true, and_true, true_and, and_false, false_and, or_true, true_or, or_false, false_or, Classical.not_not, ite_true, ite_false]; exact hpost X hR0 (FrC.rf X))
    simp only [ho, ↓reduceIte, not_true_eq_false, not_false_eq_true, false_implies, true_implies, implies_true, and_true, true_and, and_false, false_and, or_true, true_or, or_false, false_or, Classical.not_not, ite_true, ite_false]
    rw [cif_t ⟨h, ho⟩] at hpost
    obtain ⟨-, h2, h3⟩ := inR_cl (lo := 1) (hi := 255) (by omega) h
    obtain ⟨-, v2, v3⟩ := inR_cl (lo := 0) (hi := 7) (by omega) hv
    obtain ⟨o1, o2, o3⟩ := isO_cl hn ho
    refine ⟨g.now, cl st, cl o, ⟨m1, hw.we, h3, h2, o3, o2⟩, fun Z hZ hT => ?_⟩
    rw [hT (cl v) (by omega), told_tM (tau_31 hw.we _ _ (by omega))]
    exact ⟨by rw [v3]; exact vp_inN (by omega) (by omega), hpost Z (hR0.f53 hZ) hZ.c53⟩
  next => exact hC.elim)
noncomputable def C_X4_fits : CT := fun As X K => match As with
  | [.ref b, .int st, .int o] => b = 51 ∧ PubMI (s_fits st o) X K
  | _ => False
set_option maxRecDepth 20000 in
set_option maxHeartbeats 4000000 in
theorem d_X4_fits (l : Launch) : Does l yX4_fits (wY yX4_fits cX4_fits 3 (retT 0)) (rmF 2) C_X4_fits := does_of (rt := 0) (by decide +kernel) tkX4_fits (calls := [(74, true, 1, 4, C_X4_isStart), (81, false, 2, 4, C_X4_isOutcome), (78, false, 3, 4, C_X4_hears), (90, false, 1, 4, C_X4_isFit)]) (List.forall_mem_cons.mpr ⟨cr_S (d_X4_isStart l) (by decide +kernel) (by decide +kernel) ⟨rfl, rfl⟩ ⟨Nat.le_of_ble_eq_true rfl, Nat.le_of_ble_eq_true rfl⟩, List.forall_mem_cons.mpr ⟨cr_V (d_X4_isOutcome l) rfl (by decide +kernel) (by decide +kernel) ⟨rfl, rfl⟩ ⟨Nat.le_of_ble_eq_true rfl, Nat.le_of_ble_eq_true rfl⟩, List.forall_mem_cons.mpr ⟨cr_V (d_X4_hears l) rfl (by decide +kernel) (by decide +kernel) ⟨rfl, rfl⟩ ⟨Nat.le_of_ble_eq_true rfl, Nat.le_of_ble_eq_true rfl⟩, List.forall_mem_cons.mpr ⟨cr_V (d_X4_isFit l) rfl (by decide +kernel) (by decide +kernel) ⟨rfl, rfl⟩ ⟨Nat.le_of_ble_eq_true rfl, Nat.le_of_ble_eq_true rfl⟩, fun _ h => absurd h List.not_mem_nil⟩⟩⟩⟩) (by
  intro As X post hC
  unfold C_X4_fits at hC
  split at hC
  next b st o =>
    obtain ⟨rfl, g, hR0, hpost⟩ := hC
    refine ⟨Nat.le_of_ble_eq_true rfl, fun R hR => ?_⟩
    obtain ⟨⟨p1, p2, p3, p4, p5, p6, p7⟩, q1, q2, q3, q4, q5, q6, q7⟩ := sh_m
    have hw := hR0.1.1
    have hn := hw.1
    have m1 := hR0.2.1
    refine go hR [] 80 ?_
    simp only [lv_args, ↓reduceIte, Nat.reduceEqDiff, Nat.reduceAdd, Nat.reduceLeDiff, reduceCtorEq, and_true, true_and, false_and, and_false, true_or, or_true, or_false, false_or, true_implies, false_implies, implies_true, not_true_eq_false, not_false_eq_true, eq_self, fx_s, ↓run_s, run_0, ↓rs_n, ↓rs_c, as_s, ls_n, ls_c, lc_s, lget_c, fX4_fits_0, ↓ex_iload_n, ↓xI_i, ↓xIg_c, fX4_fits_1, ↓ex_invokestatic, ↓xc_0, ↓xc_s, ↓xc_1, ↓pk_s, ↓k_s, ↓k_n, catS_n, catS_c, rOk_c, ct_i, ct_l, ct_r, ↓pk_t, fX4_fits_4, ↓ex_ifCond_eq, ↓s1I_c, fX4_fits_7, ↓ex_aload_n, ↓xR_r, ↓xRg_c, fX4_fits_8, fX4_fits_9, ↓ex_invokevirtual, ↓pk_f, fX4_fits_12, ↓ex_ifCond_ne, fX4_fits_15, ↓ex_bipush, fX4_fits_17, ↓ex_ireturn, ↓rt_i, fX4_fits_18, fX4_fits_19, fX4_fits_20, fX4_fits_21, fX4_fits_24, fX4_fits_25, fX4_fits_28, fX4_fits_31, ↓ex_iconst, fX4_fits_32, ↓ex_goto, fX4_fits_35, fX4_fits_36, p1, p3, q1, q3, ↓C_X4_isStart, ↓C_X4_isOutcome, ↓C_X4_hears, ↓C_X4_isFit, b2i_0, Classical.not_not, ↓reduceIte, not_true_eq_false, not_false_eq_true, false_implies, true_implies, implies_true, and_true, true_and, and_false, false_and, or_true, true_or, or_false, false_or, Classical.not_not, ite_true, ite_false]
    unfold s_fits at hpost
    by_cases h : inR st 1 255
    case neg => (rw [cif_f (fun z => h z.1)] at hpost; simp only [h, ↓reduceIte, not_true_eq_false, not_false_eq_true, false_implies, true_implies, implies_true, and_true, true_and, and_false, false_and, or_true, true_or, or_false, false_or, Classical.not_not, ite_true, ite_false]; exact hpost X hR0 (FrC.rf X))
    simp only [h, ↓reduceIte, not_true_eq_false, not_false_eq_true, false_implies, true_implies, implies_true, and_true, true_and, and_false, false_and, or_true, true_or, or_false, false_or, Classical.not_not, ite_true, ite_false]
    refine ⟨g.now, ⟨m1, hn⟩, ?_⟩
    by_cases ho : isO g.now o
    case neg => (rw [cif_f (fun z => ho z.2)] at hpost; simp only [ho, ↓reduceIte, not_true_eq_false, not_false_eq_true, false_implies, true_implies, implies_true, and_true, true_and, and_false, false_and, or_true, true_or, or_false, false_or, Classical.not_not, ite_true, ite_false]; exact hpost X hR0 (FrC.rf X))
    simp only [ho, ↓reduceIte, not_true_eq_false, not_false_eq_true, false_implies, true_implies, implies_true, and_true, true_and, and_false, false_and, or_true, true_or, or_false, false_or, Classical.not_not, ite_true, ite_false]
    rw [cif_t ⟨h, ho⟩] at hpost
    obtain ⟨-, h2, h3⟩ := inR_cl (lo := 1) (hi := 255) (by omega) h
    obtain ⟨o1, o2, o3⟩ := isO_cl hn ho
    refine ⟨g.now, cl st, cl o, ⟨m1, hw.we, h3, h2, o3, o2⟩, fun Z hZ hT => ⟨g.now, cl st, cl o, ⟨m1.f53 hZ, hw.oks, hT⟩, ?_⟩⟩
    have hp := hpost Z (hR0.f53 hZ) hZ.c53
    refine ⟨fun z => ?_, fun z => ?_⟩
    · rw [b2i_f z] at hp; exact hp
    · rw [b2i_t z] at hp; exact hp
  next => exact hC.elim)
end MPUB3
