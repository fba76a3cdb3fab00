section MPUB4
theorem wt_12 {s : SV} (hW : WE s) (o : Nat) : wtN s.W o s.n ≤ 1000000000000 := Nat.le_trans (wtN_le (fun e he => (hW.2.1 e he).2.2.1) s.n (Nat.le_refl _)) (p10_le hW.1)
theorem agr_0 (s : SV) (o : Nat) : agr s 0 0 o := fun e _ hd => by simp at hd
theorem only_fit {s : SV} {m o k : Nat} {t : Int32} (hW : WE s) (hk : k < 8) (ht : inR t (-1) 30) : fitW s m (wOnly k t) o ↔ tN (tau s m o k) = t := by
  have h100 : t ≠ 100 := fun z => by rw [z] at ht; exact absurd ht (by unfold inR; decide)
  rw [tN_wI (okS_of ht) h100 (tau_31 hW m o hk)]
  have hw : wI t ≠ 100 := by
    unfold wI
    split
    · decide
    next h => 
      have : inR t 0 30 := ⟨by have := ht.1; have h2 : t.toInt ≠ -1 := fun z => h ((eqI _ _).mpr (by rw [z, tI_m1])); omega, ht.2⟩
      have := (inR_cl (lo := 0) (hi := 30) (by omega) this).2.1
      omega
  constructor
  · intro h
    have := h k hk
    unfold wOnly at this
    rw [if_pos rfl] at this
    exact this.resolve_left hw
  · intro h v hv
    unfold wOnly
    by_cases z : v = k
    · rw [if_pos z, z]; exact Or.inr h
    · rw [if_neg z]; exact Or.inl rfl
noncomputable def C_X4_timeWeight : CT := fun As X K => match As with
  | [.ref b, .int st, .int v, .int t] => b = 51 ∧ PubML (s_timeWeight st v t) X K
  | _ => False
set_option maxRecDepth 20000 in
set_option maxHeartbeats 4000000 in
theorem d_X4_timeWeight (l : Launch) : Does l yX4_timeWeight (wY yX4_timeWeight cX4_timeWeight 9 (retT 2)) (rmF 2) C_X4_timeWeight := does_of (rt := 2) (by decide +kernel) tkX4_timeWeight (calls := [(50, true, 1, 4, C_X4_isNode), (74, true, 1, 4, C_X4_isStart), (42, true, 3, 4, C_X4_in), (84, false, 2, 4, C_X4_weightOf), (78, false, 3, 4, C_X4_hears), (67, true, 1, 4, C_X4_told)]) (List.forall_mem_cons.mpr ⟨cr_S (d_X4_isNode l) (by decide +kernel) (by decide +kernel) ⟨rfl, rfl⟩ ⟨Nat.le_of_ble_eq_true rfl, Nat.le_of_ble_eq_true rfl⟩, List.forall_mem_cons.mpr ⟨cr_S (d_X4_isStart l) (by decide +kernel) (by decide +kernel) ⟨rfl, rfl⟩ ⟨Nat.le_of_ble_eq_true rfl, Nat.le_of_ble_eq_true rfl⟩, List.forall_mem_cons.mpr ⟨cr_S (d_X4_in l) (by decide +kernel) (by decide +kernel) ⟨rfl, rfl⟩ ⟨Nat.le_of_ble_eq_true rfl, Nat.le_of_ble_eq_true rfl⟩, List.forall_mem_cons.mpr ⟨cr_V (d_X4_weightOf l) rfl (by decide +kernel) (by decide +kernel) ⟨rfl, rfl⟩ ⟨Nat.le_of_ble_eq_true rfl, Nat.le_of_ble_eq_true rfl⟩, List.forall_mem_cons.mpr ⟨cr_V (d_X4_hears l) rfl (by decide +kernel) (by decide +kernel) ⟨rfl, rfl⟩ ⟨Nat.le_of_ble_eq_true rfl, Nat.le_of_ble_eq_true rfl⟩, List.forall_mem_cons.mpr ⟨cr_S (d_X4_told l) (by decide +kernel) (by decide +kernel) ⟨rfl, rfl⟩ ⟨Nat.le_of_ble_eq_true rfl, Nat.le_of_ble_eq_true rfl⟩, fun _ h => absurd h List.not_mem_nil⟩⟩⟩⟩⟩⟩) (by
  intro As X post hC
  unfold C_X4_timeWeight at hC
  split at hC
  next b st v t =>
    obtain ⟨rfl, g, hR0, hpost⟩ := hC
    refine ⟨Nat.le_of_ble_eq_true rfl, fun R hR => ?_⟩
    obtain ⟨⟨p1, p2, p3, p4, p5, p6, p7⟩, q1, q2, q3, q4, q5, q6, q7⟩ := sh_m
    have hw := hR0.1.1
    have hn := hw.1
    have m1 := hR0.2.1
    have h0 : (0 : Int64) = lN 0 := rfl
    refine go hR [(38, [0, 1, 2, 3, 4, 6])] 80 ?_
    simp only [lv_args, ↓reduceIte, Nat.reduceEqDiff, Nat.reduceAdd, Nat.reduceLeDiff, reduceCtorEq, and_true, true_and, false_and, and_false, true_or, or_true, or_false, false_or, true_implies, false_implies, implies_true, not_true_eq_false, not_false_eq_true, eq_self, fx_s, ↓run_s, run_0, ↓rs_n, ↓rs_c, as_s, ls_n, ls_c, lc_s, lget_c, fX4_timeWeight_0, ↓ex_iload_n, ↓xI_i, ↓xIg_c, fX4_timeWeight_1, ↓ex_invokestatic, ↓xc_0, ↓xc_s, ↓xc_1, ↓pk_s, ↓k_s, ↓k_n, catS_n, catS_c, rOk_c, ct_i, ct_l, ct_r, ↓pk_t, fX4_timeWeight_4, ↓ex_ifCond_ne, ↓s1I_c, fX4_timeWeight_7, ↓ex_ldc2_w, fX4_timeWeight_10, ↓ex_lreturn, ↓rt_l, fX4_timeWeight_11, fX4_timeWeight_12, fX4_timeWeight_15, ↓ex_ifCond_eq, fX4_timeWeight_18, fX4_timeWeight_19, ↓ex_iconst, fX4_timeWeight_20, ↓ex_bipush, fX4_timeWeight_22, fX4_timeWeight_25, fX4_timeWeight_28, fX4_timeWeight_31, fX4_timeWeight_32, ↓ex_lconst, fX4_timeWeight_33, ↓ex_lstore, ↓s1L_c, ↓lsto_e, ↓lrmK_n, ↓lrmK_t, fX4_timeWeight_35, fX4_timeWeight_36, ↓ex_istore, ↓lrmK_f, fX4_timeWeight_38, ↓ex_iload, fX4_timeWeight_40, fX4_timeWeight_41, ↓ex_aload_n, ↓xR_r, ↓xRg_c, fX4_timeWeight_42, ↓ex_getfield, ↓s1R_c, ↓fv_4_0, fX4_timeWeight_45, fX4_timeWeight_46, ↓ex_iaload, ↓sRI_c, ↓scrR_n, fX4_timeWeight_47, ↓ex_ishl, ↓s2I_c, fX4_timeWeight_48, ↓ex_if_icmp_ge, fX4_timeWeight_51, fX4_timeWeight_52, fX4_timeWeight_54, ↓ex_invokevirtual, ↓pk_f, fX4_timeWeight_57, fX4_timeWeight_59, ↓ex_lload, ↓xL_l, ↓xLg_c, fX4_timeWeight_61, fX4_timeWeight_62, ↓ex_lcmp, ↓s2L_c, fX4_timeWeight_63, ↓ex_ifCond_le, fX4_timeWeight_66, fX4_timeWeight_67, fX4_timeWeight_68, fX4_timeWeight_70, fX4_timeWeight_73, fX4_timeWeight_75, fX4_timeWeight_76, ↓fv_4_3, fX4_timeWeight_79, fX4_timeWeight_80, fX4_timeWeight_81, fX4_timeWeight_84, fX4_timeWeight_85, ↓ex_if_icmp_ne, fX4_timeWeight_88, fX4_timeWeight_90, ↓ex_goto, fX4_timeWeight_93, fX4_timeWeight_94, ↓ex_ladd, fX4_timeWeight_95, fX4_timeWeight_97, ↓ex_iinc, fX4_timeWeight_100, fX4_timeWeight_103, fX4_timeWeight_105, ↓C_X4_isNode, ↓C_X4_isStart, ↓C_X4_in, b2i_0, tI_m5, tI_m4, tI_m3, tI_m2, tI_m1, tI_0, tI_1, tI_2, tI_3, tI_4, tI_5, tI_7, tI_8, tI_10, tI_12, tI_30, tI_31, tI_32, tI_47, tI_48, tI_57, tI_59, tI_42, tI_43, tI_45, tI_61, tI_62, tI_100, tI_120, tI_255, tI_1000, Classical.not_not, ↓reduceIte, not_true_eq_false, not_false_eq_true, false_implies, true_implies, implies_true, and_true, true_and, and_false, false_and, or_true, true_or, or_false, false_or, Classical.not_not, ite_true, ite_false]
    unfold s_timeWeight at hpost
    by_cases hv : inR v 0 7
    case neg => (rw [cif_f hv] at hpost; simp only [hv, ↓reduceIte, not_true_eq_false, not_false_eq_true, false_implies, true_implies, implies_true, and_true, true_and, and_false, false_and, or_true, true_or, or_false, false_or, Classical.not_not, ite_true, ite_false]; exact hpost X hR0 (FrC.rf X))
    rw [cif_t hv] at hpost
    simp only [hv, ↓reduceIte, not_true_eq_false, not_false_eq_true, false_implies, true_implies, implies_true, and_true, true_and, and_false, false_and, or_true, true_or, or_false, false_or, Classical.not_not, ite_true, ite_false]
    by_cases h : inR st 1 255
    case neg => (rw [cif_f (fun z => h z.1)] at hpost; simp only [h, ↓reduceIte, not_true_eq_false, not_false_eq_true, false_implies, true_implies, implies_true, and_true, true_and, and_false, false_and, or_true, true_or, or_false, false_or, Classical.not_not, ite_true, ite_false]; exact hpost X hR0 (FrC.rf X))
    simp only [h, ↓reduceIte, not_true_eq_false, not_false_eq_true, false_implies, true_implies, implies_true, and_true, true_and, and_false, false_and, or_true, true_or, or_false, false_or, Classical.not_not, ite_true, ite_false]
    by_cases ht : inR t (-1) 30
    case neg => (rw [cif_f (fun z => ht z.2)] at hpost; simp only [ht, ↓reduceIte, not_true_eq_false, not_false_eq_true, false_implies, true_implies, implies_true, and_true, true_and, and_false, false_and, or_true, true_or, or_false, false_or, Classical.not_not, ite_true, ite_false]; exact hpost X hR0 (FrC.rf X))
    simp only [ht, ↓reduceIte, not_true_eq_false, not_false_eq_true, false_implies, true_implies, implies_true, and_true, true_and, and_false, false_and, or_true, true_or, or_false, false_or, Classical.not_not, ite_true, ite_false]
    rw [cif_t ⟨h, ht⟩] at hpost
    obtain ⟨-, h2, h3⟩ := inR_cl (lo := 1) (hi := 255) (by omega) h
    obtain ⟨-, v2, v3⟩ := inR_cl (lo := 0) (hi := 7) (by omega) hv
    have p24 := p2_lt hn
    obtain ⟨s, hs⟩ : ∃ s, s = g.now := ⟨_, rfl⟩
    rw [← hs] at hw hn m1 hpost p24
    unfold SF at hpost
    obtain ⟨f, hf⟩ : ∃ f : Nat → Nat, f = fun o => cif (agr s 0 0 o ∧ fitW s (cl st) (wOnly (cl v) t) o) (wtN s.W o s.n) 0 := ⟨_, rfl⟩
    rw [← hf] at hpost
    rw [v3]
    rw [h3]
    have hvv : vp_in (nI (cl v)) 8 := vp_inN (by omega) (by omega)
    have key : ∀ k i Y, i + k = 2 ^ s.n → Fr (fun k => k = 53) X Y → R 38 [(0, .ref 51), (1, .int (nI (cl st))), (2, .int (nI (cl v))), (3, .int t), (4, .long (lN (sumN f i))), (6, .int (nI i))] [] Y := by
      intro k
      induction k with
      | zero =>
        intro i Y hi hF
        refine go hR [(38, [0, 1, 2, 3, 4, 6])] 80 ?_
        simp only [↓reduceIte, Nat.reduceEqDiff, Nat.reduceAdd, Nat.reduceLeDiff, reduceCtorEq, and_true, true_and, false_and, and_false, true_or, or_true, or_false, false_or, true_implies, false_implies, implies_true, not_true_eq_false, not_false_eq_true, eq_self, fx_s, ↓run_s, run_0, ↓rs_n, ↓rs_c, as_s, ls_n, ls_c, lc_s, lget_c, fX4_timeWeight_0, ↓ex_iload_n, ↓xI_i, ↓xIg_c, fX4_timeWeight_1, ↓ex_invokestatic, ↓xc_0, ↓xc_s, ↓xc_1, ↓pk_s, ↓k_s, ↓k_n, catS_n, catS_c, rOk_c, ct_i, ct_l, ct_r, ↓pk_t, fX4_timeWeight_4, ↓ex_ifCond_ne, ↓s1I_c, fX4_timeWeight_7, ↓ex_ldc2_w, fX4_timeWeight_10, ↓ex_lreturn, ↓rt_l, fX4_timeWeight_11, fX4_timeWeight_12, fX4_timeWeight_15, ↓ex_ifCond_eq, fX4_timeWeight_18, fX4_timeWeight_19, ↓ex_iconst, fX4_timeWeight_20, ↓ex_bipush, fX4_timeWeight_22, fX4_timeWeight_25, fX4_timeWeight_28, fX4_timeWeight_31, fX4_timeWeight_32, ↓ex_lconst, fX4_timeWeight_33, ↓ex_lstore, ↓s1L_c, ↓lsto_e, ↓lrmK_n, ↓lrmK_t, fX4_timeWeight_35, fX4_timeWeight_36, ↓ex_istore, ↓lrmK_f, fX4_timeWeight_38, ↓ex_iload, fX4_timeWeight_40, fX4_timeWeight_41, ↓ex_aload_n, ↓xR_r, ↓xRg_c, fX4_timeWeight_42, ↓ex_getfield, ↓s1R_c, ↓fv_4_0, fX4_timeWeight_45, fX4_timeWeight_46, ↓ex_iaload, ↓sRI_c, ↓scrR_n, fX4_timeWeight_47, ↓ex_ishl, ↓s2I_c, fX4_timeWeight_48, ↓ex_if_icmp_ge, fX4_timeWeight_51, fX4_timeWeight_52, fX4_timeWeight_54, ↓ex_invokevirtual, ↓pk_f, fX4_timeWeight_57, fX4_timeWeight_59, ↓ex_lload, ↓xL_l, ↓xLg_c, fX4_timeWeight_61, fX4_timeWeight_62, ↓ex_lcmp, ↓s2L_c, fX4_timeWeight_63, ↓ex_ifCond_le, fX4_timeWeight_66, fX4_timeWeight_67, fX4_timeWeight_68, fX4_timeWeight_70, fX4_timeWeight_73, fX4_timeWeight_75, fX4_timeWeight_76, ↓fv_4_3, fX4_timeWeight_79, fX4_timeWeight_80, fX4_timeWeight_81, fX4_timeWeight_84, fX4_timeWeight_85, ↓ex_if_icmp_ne, fX4_timeWeight_88, fX4_timeWeight_90, ↓ex_goto, fX4_timeWeight_93, fX4_timeWeight_94, ↓ex_ladd, fX4_timeWeight_95, fX4_timeWeight_97, ↓ex_iinc, fX4_timeWeight_100, fX4_timeWeight_103, fX4_timeWeight_105, p1, p2, q1, q2, vr_0, clamp0, (m1.f53 hF).1, shlN (e := s.n) (by omega), leN (a := 2 ^ s.n) (b := i) (by omega) (by omega), ↓reduceIte, not_true_eq_false, not_false_eq_true, false_implies, true_implies, implies_true, and_true, true_and, and_false, false_and, or_true, true_or, or_false, false_or, Classical.not_not, ite_true, ite_false]
        refine ⟨fun _ => ?_, fun z => absurd (by omega) z⟩
        rw [show i = 2 ^ s.n by omega]
        exact hpost Y (hR0.f53 hF) hF.c53
      | succ k ih =>
        intro i Y hi hF
        have hwt := wt_12 hw.we i
        refine go hR [(38, [0, 1, 2, 3, 4, 6])] 80 ?_
        simp only [↓reduceIte, Nat.reduceEqDiff, Nat.reduceAdd, Nat.reduceLeDiff, reduceCtorEq, and_true, true_and, false_and, and_false, true_or, or_true, or_false, false_or, true_implies, false_implies, implies_true, not_true_eq_false, not_false_eq_true, eq_self, fx_s, ↓run_s, run_0, ↓rs_n, ↓rs_c, as_s, ls_n, ls_c, lc_s, lget_c, fX4_timeWeight_0, ↓ex_iload_n, ↓xI_i, ↓xIg_c, fX4_timeWeight_1, ↓ex_invokestatic, ↓xc_0, ↓xc_s, ↓xc_1, ↓pk_s, ↓k_s, ↓k_n, catS_n, catS_c, rOk_c, ct_i, ct_l, ct_r, ↓pk_t, fX4_timeWeight_4, ↓ex_ifCond_ne, ↓s1I_c, fX4_timeWeight_7, ↓ex_ldc2_w, fX4_timeWeight_10, ↓ex_lreturn, ↓rt_l, fX4_timeWeight_11, fX4_timeWeight_12, fX4_timeWeight_15, ↓ex_ifCond_eq, fX4_timeWeight_18, fX4_timeWeight_19, ↓ex_iconst, fX4_timeWeight_20, ↓ex_bipush, fX4_timeWeight_22, fX4_timeWeight_25, fX4_timeWeight_28, fX4_timeWeight_31, fX4_timeWeight_32, ↓ex_lconst, fX4_timeWeight_33, ↓ex_lstore, ↓s1L_c, ↓lsto_e, ↓lrmK_n, ↓lrmK_t, fX4_timeWeight_35, fX4_timeWeight_36, ↓ex_istore, ↓lrmK_f, fX4_timeWeight_38, ↓ex_iload, fX4_timeWeight_40, fX4_timeWeight_41, ↓ex_aload_n, ↓xR_r, ↓xRg_c, fX4_timeWeight_42, ↓ex_getfield, ↓s1R_c, ↓fv_4_0, fX4_timeWeight_45, fX4_timeWeight_46, ↓ex_iaload, ↓sRI_c, ↓scrR_n, fX4_timeWeight_47, ↓ex_ishl, ↓s2I_c, fX4_timeWeight_48, ↓ex_if_icmp_ge, fX4_timeWeight_51, fX4_timeWeight_52, fX4_timeWeight_54, ↓ex_invokevirtual, ↓pk_f, fX4_timeWeight_57, fX4_timeWeight_59, ↓ex_lload, ↓xL_l, ↓xLg_c, fX4_timeWeight_61, fX4_timeWeight_62, ↓ex_lcmp, ↓s2L_c, fX4_timeWeight_63, ↓ex_ifCond_le, fX4_timeWeight_66, fX4_timeWeight_67, fX4_timeWeight_68, fX4_timeWeight_70, fX4_timeWeight_73, fX4_timeWeight_75, fX4_timeWeight_76, ↓fv_4_3, fX4_timeWeight_79, fX4_timeWeight_80, fX4_timeWeight_81, fX4_timeWeight_84, fX4_timeWeight_85, ↓ex_if_icmp_ne, fX4_timeWeight_88, fX4_timeWeight_90, ↓ex_goto, fX4_timeWeight_93, fX4_timeWeight_94, ↓ex_ladd, fX4_timeWeight_95, fX4_timeWeight_97, ↓ex_iinc, fX4_timeWeight_100, fX4_timeWeight_103, fX4_timeWeight_105, p1, p2, p3, q1, q2, q3, vr_0, clamp0, (m1.f53 hF).1, shlN (e := s.n) (by omega), leN (a := 2 ^ s.n) (b := i) (by omega) (by omega), ↓C_X4_weightOf, ↓C_X4_hears, ↓C_X4_told, lg_cmp_le, h0, lN_add, add1N, clampN (n := cl v) (by omega), ↓reduceIte, not_true_eq_false, not_false_eq_true, false_implies, true_implies, implies_true, and_true, true_and, and_false, false_and, or_true, true_or, or_false, false_or, Classical.not_not, ite_true, ite_false]
        refine ⟨fun z => absurd z (by omega), fun _ => ⟨s, i, ⟨m1.f53 hF, hn, fun e he => (hw.2.1 e he).2.2.2.1, rfl, by omega⟩, ?_⟩⟩
        rw [pk_lLE (a := wtN s.W i s.n) (b := 0) (by omega) (by omega)]
        have hs1 : sumN f (i + 1) = sumN f i + f i := rfl
        have hfi : f i = cif (tN (tau s (cl st) i (cl v)) = t) (wtN s.W i s.n) 0 := by
          rw [hf]
          exact cif_c ⟨fun z => (only_fit hw.we (by omega) ht).mp z.2, fun z => ⟨agr_0 s i, (only_fit hw.we (by omega) ht).mpr z⟩⟩
        have hi1 := fun Z hZ => ih (i + 1) Z (by omega) hZ
        rw [hs1, hfi] at hi1
        refine ⟨fun hz => ?_, fun hz => ⟨s, cl st, i, ⟨m1.f53 hF, hw.we, rfl, h2, rfl, by omega⟩, fun Z hZ hT => ?_⟩⟩
        · have := hi1 Y hF
          rw [show wtN s.W i s.n = 0 by omega, show cif (tN (tau s (cl st) i (cl v)) = t) 0 0 = 0 from by unfold cif; exact ite_self _] at this
          exact this
        · rw [hT (cl v) (by omega), told_tM (tau_31 hw.we _ _ (by omega))]
          refine ⟨hvv, fun z => ?_, fun z => ?_⟩
          · have := hi1 Z (hF.tr hZ)
            rw [cif_f z] at this; exact this
          · have := hi1 Z (hF.tr hZ)
            rw [cif_t z] at this; exact this
    exact key (2 ^ s.n) 0 X (by omega) (Fr.rf _ _)
  next => exact hC.elim)
noncomputable def C_X4_reach : CT := fun As X K => match As with
  | [.ref b, .int st] => b = 51 ∧ PubML (s_reach st) X K
  | _ => False
set_option maxRecDepth 20000 in
set_option maxHeartbeats 4000000 in
theorem d_X4_reach (l : Launch) : Does l yX4_reach (wY yX4_reach cX4_reach 8 (retT 2)) (rmF 2) C_X4_reach := does_of (rt := 2) (by decide +kernel) tkX4_reach (calls := [(74, true, 1, 4, C_X4_isStart), (84, false, 2, 4, C_X4_weightOf), (78, false, 3, 4, C_X4_hears)]) (List.forall_mem_cons.mpr ⟨cr_S (d_X4_isStart l) (by decide +kernel) (by decide +kernel) ⟨rfl, rfl⟩ ⟨Nat.le_of_ble_eq_true rfl, Nat.le_of_ble_eq_true rfl⟩, List.forall_mem_cons.mpr ⟨cr_V (d_X4_weightOf l) rfl (by decide +kernel) (by decide +kernel) ⟨rfl, rfl⟩ ⟨Nat.le_of_ble_eq_true rfl, Nat.le_of_ble_eq_true rfl⟩, List.forall_mem_cons.mpr ⟨cr_V (d_X4_hears l) rfl (by decide +kernel) (by decide +kernel) ⟨rfl, rfl⟩ ⟨Nat.le_of_ble_eq_true rfl, Nat.le_of_ble_eq_true rfl⟩, fun _ h => absurd h List.not_mem_nil⟩⟩⟩) (by
  intro As X post hC
  unfold C_X4_reach at hC
  split at hC
  next b st =>
    obtain ⟨rfl, g, hR0, hpost⟩ := hC
    refine ⟨Nat.le_of_ble_eq_true rfl, fun R hR => ?_⟩
    obtain ⟨⟨p1, p2, p3, p4, p5, p6, p7⟩, q1, q2, q3, q4, q5, q6, q7⟩ := sh_m
    have hw := hR0.1.1
    have hn := hw.1
    have m1 := hR0.2.1
    have h0 : (0 : Int64) = lN 0 := rfl
    refine go hR [(16, [0, 1, 2, 4])] 80 ?_
    simp only [lv_args, ↓reduceIte, Nat.reduceEqDiff, Nat.reduceAdd, Nat.reduceLeDiff, reduceCtorEq, and_true, true_and, false_and, and_false, true_or, or_true, or_false, false_or, true_implies, false_implies, implies_true, not_true_eq_false, not_false_eq_true, eq_self, fx_s, ↓run_s, run_0, ↓rs_n, ↓rs_c, as_s, ls_n, ls_c, lc_s, lget_c, fX4_reach_0, ↓ex_iload_n, ↓xI_i, ↓xIg_c, fX4_reach_1, ↓ex_invokestatic, ↓xc_0, ↓xc_s, ↓xc_1, ↓pk_s, ↓k_s, ↓k_n, catS_n, catS_c, rOk_c, ct_i, ct_l, ct_r, ↓pk_t, fX4_reach_4, ↓ex_ifCond_ne, ↓s1I_c, fX4_reach_7, ↓ex_ldc2_w, fX4_reach_10, ↓ex_lreturn, ↓rt_l, fX4_reach_11, ↓ex_lconst, fX4_reach_12, ↓ex_lstore_n, ↓s1L_c, ↓lsto_e, ↓lrmK_n, ↓lrmK_t, fX4_reach_13, ↓ex_iconst, fX4_reach_14, ↓ex_istore, ↓lrmK_f, fX4_reach_16, ↓ex_iload, fX4_reach_18, fX4_reach_19, ↓ex_aload_n, ↓xR_r, ↓xRg_c, fX4_reach_20, ↓ex_getfield, ↓s1R_c, ↓fv_4_0, fX4_reach_23, fX4_reach_24, ↓ex_iaload, ↓sRI_c, ↓scrR_n, fX4_reach_25, ↓ex_ishl, ↓s2I_c, fX4_reach_26, ↓ex_if_icmp_ge, fX4_reach_29, fX4_reach_30, fX4_reach_32, ↓ex_invokevirtual, ↓pk_f, fX4_reach_35, ↓ex_lstore, fX4_reach_37, ↓ex_lload, ↓xL_l, ↓xLg_c, fX4_reach_39, fX4_reach_40, ↓ex_lcmp, ↓s2L_c, fX4_reach_41, ↓ex_ifCond_le, fX4_reach_44, fX4_reach_45, fX4_reach_46, fX4_reach_48, fX4_reach_51, fX4_reach_52, fX4_reach_54, fX4_reach_56, ↓ex_bipush, fX4_reach_58, fX4_reach_61, ↓ex_lload_n, fX4_reach_62, fX4_reach_63, ↓fv_4_3, fX4_reach_66, fX4_reach_68, fX4_reach_69, ↓ex_sipush, fX4_reach_72, ↓ex_if_icmp_ne, fX4_reach_75, fX4_reach_76, ↓ex_goto, fX4_reach_79, fX4_reach_81, ↓ex_ladd, fX4_reach_82, fX4_reach_83, ↓ex_iinc, fX4_reach_86, fX4_reach_89, fX4_reach_92, fX4_reach_95, fX4_reach_96, ↓C_X4_isStart, b2i_0, Classical.not_not, ↓reduceIte, not_true_eq_false, not_false_eq_true, false_implies, true_implies, implies_true, and_true, true_and, and_false, false_and, or_true, true_or, or_false, false_or, Classical.not_not, ite_true, ite_false]
    unfold s_reach at hpost
    by_cases h : inR st 1 255
    case neg => (rw [cif_f h] at hpost; simp only [h, ↓reduceIte, not_true_eq_false, not_false_eq_true, false_implies, true_implies, implies_true, and_true, true_and, and_false, false_and, or_true, true_or, or_false, false_or, Classical.not_not, ite_true, ite_false]; exact hpost X hR0 (FrC.rf X))
    simp only [h, ↓reduceIte, not_true_eq_false, not_false_eq_true, false_implies, true_implies, implies_true, and_true, true_and, and_false, false_and, or_true, true_or, or_false, false_or, Classical.not_not, ite_true, ite_false]
    rw [cif_t h] at hpost
    obtain ⟨-, h2, h3⟩ := inR_cl (lo := 1) (hi := 255) (by omega) h
    have p24 := p2_lt hn
    obtain ⟨s, hs⟩ : ∃ s, s = g.now := ⟨_, rfl⟩
    rw [← hs] at hw hn m1 hpost p24
    unfold SH at hpost
    obtain ⟨f, hf⟩ : ∃ f : Nat → Nat, f = fun o => cif (agr s 0 0 o ∧ fitW s (cl st) (fun _ => 100) o) (wtN s.W o s.n * hc (tau s (cl st) o)) 0 := ⟨_, rfl⟩
    rw [← hf] at hpost
    rw [h3]
    have key : ∀ k i Y, i + k = 2 ^ s.n → Fr (fun k => k = 53) X Y → R 16 [(0, .ref 51), (1, .int (nI (cl st))), (2, .long (lN (sumN f i))), (4, .int (nI i))] [] Y := by
      intro k
      induction k with
      | zero =>
        intro i Y hi hF
        refine go hR [(16, [0, 1, 2, 4]), (54, [0, 1, 2, 4, 5, 7])] 80 ?_
        simp only [↓reduceIte, Nat.reduceEqDiff, Nat.reduceAdd, Nat.reduceLeDiff, reduceCtorEq, and_true, true_and, false_and, and_false, true_or, or_true, or_false, false_or, true_implies, false_implies, implies_true, not_true_eq_false, not_false_eq_true, eq_self, fx_s, ↓run_s, run_0, ↓rs_n, ↓rs_c, as_s, ls_n, ls_c, lc_s, lget_c, fX4_reach_0, ↓ex_iload_n, ↓xI_i, ↓xIg_c, fX4_reach_1, ↓ex_invokestatic, ↓xc_0, ↓xc_s, ↓xc_1, ↓pk_s, ↓k_s, ↓k_n, catS_n, catS_c, rOk_c, ct_i, ct_l, ct_r, ↓pk_t, fX4_reach_4, ↓ex_ifCond_ne, ↓s1I_c, fX4_reach_7, ↓ex_ldc2_w, fX4_reach_10, ↓ex_lreturn, ↓rt_l, fX4_reach_11, ↓ex_lconst, fX4_reach_12, ↓ex_lstore_n, ↓s1L_c, ↓lsto_e, ↓lrmK_n, ↓lrmK_t, fX4_reach_13, ↓ex_iconst, fX4_reach_14, ↓ex_istore, ↓lrmK_f, fX4_reach_16, ↓ex_iload, fX4_reach_18, fX4_reach_19, ↓ex_aload_n, ↓xR_r, ↓xRg_c, fX4_reach_20, ↓ex_getfield, ↓s1R_c, ↓fv_4_0, fX4_reach_23, fX4_reach_24, ↓ex_iaload, ↓sRI_c, ↓scrR_n, fX4_reach_25, ↓ex_ishl, ↓s2I_c, fX4_reach_26, ↓ex_if_icmp_ge, fX4_reach_29, fX4_reach_30, fX4_reach_32, ↓ex_invokevirtual, ↓pk_f, fX4_reach_35, ↓ex_lstore, fX4_reach_37, ↓ex_lload, ↓xL_l, ↓xLg_c, fX4_reach_39, fX4_reach_40, ↓ex_lcmp, ↓s2L_c, fX4_reach_41, ↓ex_ifCond_le, fX4_reach_44, fX4_reach_45, fX4_reach_46, fX4_reach_48, fX4_reach_51, fX4_reach_52, fX4_reach_54, fX4_reach_56, ↓ex_bipush, fX4_reach_58, fX4_reach_61, ↓ex_lload_n, fX4_reach_62, fX4_reach_63, ↓fv_4_3, fX4_reach_66, fX4_reach_68, fX4_reach_69, ↓ex_sipush, fX4_reach_72, ↓ex_if_icmp_ne, fX4_reach_75, fX4_reach_76, ↓ex_goto, fX4_reach_79, fX4_reach_81, ↓ex_ladd, fX4_reach_82, fX4_reach_83, ↓ex_iinc, fX4_reach_86, fX4_reach_89, fX4_reach_92, fX4_reach_95, fX4_reach_96, p1, p2, q1, q2, vr_0, clamp0, (m1.f53 hF).1, shlN (e := s.n) (by omega), leN (a := 2 ^ s.n) (b := i) (by omega) (by omega), ↓reduceIte, not_true_eq_false, not_false_eq_true, false_implies, true_implies, implies_true, and_true, true_and, and_false, false_and, or_true, true_or, or_false, false_or, Classical.not_not, ite_true, ite_false]
        refine ⟨fun _ => ?_, fun z => absurd (by omega) z⟩
        rw [show i = 2 ^ s.n by omega]
        exact hpost Y (hR0.f53 hF) hF.c53
      | succ k ih =>
        intro i Y hi hF
        have hwt := wt_12 hw.we i
        have hs1 : sumN f (i + 1) = sumN f i + f i := rfl
        have hfi : f i = wtN s.W i s.n * hc (tau s (cl st) i) := by
          rw [hf]
          exact cif_t ⟨agr_0 s i, fun v hv => Or.inl rfl⟩
        have hi1 := fun Z hZ => ih (i + 1) Z (by omega) hZ
        rw [hs1, hfi] at hi1
        have inner : ∀ q v Z, v + q = 8 → Fr (fun k => k = 53) X Z → TT Z s (cl st) i → R 54 [(0, .ref 51), (1, .int (nI (cl st))), (2, .long (lN (sumN f i + wtN s.W i s.n * sumN (fun u => if tau s (cl st) i u = 31 then 0 else 1) v))), (4, .int (nI i)), (5, .long (lN (wtN s.W i s.n))), (7, .int (nI v))] [] Z := by
          intro q
          induction q with
          | zero =>
            intro v Z hv hZ hT
            refine go hR [(16, [0, 1, 2, 4]), (54, [0, 1, 2, 4, 5, 7])] 80 ?_
            simp only [↓reduceIte, Nat.reduceEqDiff, Nat.reduceAdd, Nat.reduceLeDiff, reduceCtorEq, and_true, true_and, false_and, and_false, true_or, or_true, or_false, false_or, true_implies, false_implies, implies_true, not_true_eq_false, not_false_eq_true, eq_self, fx_s, ↓run_s, run_0, ↓rs_n, ↓rs_c, as_s, ls_n, ls_c, lc_s, lget_c, fX4_reach_0, ↓ex_iload_n, ↓xI_i, ↓xIg_c, fX4_reach_1, ↓ex_invokestatic, ↓xc_0, ↓xc_s, ↓xc_1, ↓pk_s, ↓k_s, ↓k_n, catS_n, catS_c, rOk_c, ct_i, ct_l, ct_r, ↓pk_t, fX4_reach_4, ↓ex_ifCond_ne, ↓s1I_c, fX4_reach_7, ↓ex_ldc2_w, fX4_reach_10, ↓ex_lreturn, ↓rt_l, fX4_reach_11, ↓ex_lconst, fX4_reach_12, ↓ex_lstore_n, ↓s1L_c, ↓lsto_e, ↓lrmK_n, ↓lrmK_t, fX4_reach_13, ↓ex_iconst, fX4_reach_14, ↓ex_istore, ↓lrmK_f, fX4_reach_16, ↓ex_iload, fX4_reach_18, fX4_reach_19, ↓ex_aload_n, ↓xR_r, ↓xRg_c, fX4_reach_20, ↓ex_getfield, ↓s1R_c, ↓fv_4_0, fX4_reach_23, fX4_reach_24, ↓ex_iaload, ↓sRI_c, ↓scrR_n, fX4_reach_25, ↓ex_ishl, ↓s2I_c, fX4_reach_26, ↓ex_if_icmp_ge, fX4_reach_29, fX4_reach_30, fX4_reach_32, ↓ex_invokevirtual, ↓pk_f, fX4_reach_35, ↓ex_lstore, fX4_reach_37, ↓ex_lload, ↓xL_l, ↓xLg_c, fX4_reach_39, fX4_reach_40, ↓ex_lcmp, ↓s2L_c, fX4_reach_41, ↓ex_ifCond_le, fX4_reach_44, fX4_reach_45, fX4_reach_46, fX4_reach_48, fX4_reach_51, fX4_reach_52, fX4_reach_54, fX4_reach_56, ↓ex_bipush, fX4_reach_58, fX4_reach_61, ↓ex_lload_n, fX4_reach_62, fX4_reach_63, ↓fv_4_3, fX4_reach_66, fX4_reach_68, fX4_reach_69, ↓ex_sipush, fX4_reach_72, ↓ex_if_icmp_ne, fX4_reach_75, fX4_reach_76, ↓ex_goto, fX4_reach_79, fX4_reach_81, ↓ex_ladd, fX4_reach_82, fX4_reach_83, ↓ex_iinc, fX4_reach_86, fX4_reach_89, fX4_reach_92, fX4_reach_95, fX4_reach_96, leI, nI_toInt (n := v) (by omega), tI_m5, tI_m4, tI_m3, tI_m2, tI_m1, tI_0, tI_1, tI_2, tI_3, tI_4, tI_5, tI_7, tI_8, tI_10, tI_12, tI_30, tI_31, tI_32, tI_47, tI_48, tI_57, tI_59, tI_42, tI_43, tI_45, tI_61, tI_62, tI_100, tI_120, tI_255, tI_1000, add1N, ↓reduceIte, not_true_eq_false, not_false_eq_true, false_implies, true_implies, implies_true, and_true, true_and, and_false, false_and, or_true, true_or, or_false, false_or, Classical.not_not, ite_true, ite_false]
            refine ⟨fun _ => ?_, fun z => absurd (by omega) z⟩
            rw [show v = 8 by omega]
            exact hi1 Z hZ
          | succ q ihq =>
            intro v Z hv hZ hT
            have hnx := ihq (v + 1) Z (by omega) hZ hT
            have hs2 : sumN (fun u => if tau s (cl st) i u = 31 then 0 else 1) (v + 1) = sumN (fun u => if tau s (cl st) i u = 31 then 0 else 1) v + (if tau s (cl st) i v = 31 then 0 else 1) := rfl
            rw [hs2] at hnx
            refine go hR [(16, [0, 1, 2, 4]), (54, [0, 1, 2, 4, 5, 7])] 80 ?_
            simp only [↓reduceIte, Nat.reduceEqDiff, Nat.reduceAdd, Nat.reduceLeDiff, reduceCtorEq, and_true, true_and, false_and, and_false, true_or, or_true, or_false, false_or, true_implies, false_implies, implies_true, not_true_eq_false, not_false_eq_true, eq_self, fx_s, ↓run_s, run_0, ↓rs_n, ↓rs_c, as_s, ls_n, ls_c, lc_s, lget_c, fX4_reach_0, ↓ex_iload_n, ↓xI_i, ↓xIg_c, fX4_reach_1, ↓ex_invokestatic, ↓xc_0, ↓xc_s, ↓xc_1, ↓pk_s, ↓k_s, ↓k_n, catS_n, catS_c, rOk_c, ct_i, ct_l, ct_r, ↓pk_t, fX4_reach_4, ↓ex_ifCond_ne, ↓s1I_c, fX4_reach_7, ↓ex_ldc2_w, fX4_reach_10, ↓ex_lreturn, ↓rt_l, fX4_reach_11, ↓ex_lconst, fX4_reach_12, ↓ex_lstore_n, ↓s1L_c, ↓lsto_e, ↓lrmK_n, ↓lrmK_t, fX4_reach_13, ↓ex_iconst, fX4_reach_14, ↓ex_istore, ↓lrmK_f, fX4_reach_16, ↓ex_iload, fX4_reach_18, fX4_reach_19, ↓ex_aload_n, ↓xR_r, ↓xRg_c, fX4_reach_20, ↓ex_getfield, ↓s1R_c, ↓fv_4_0, fX4_reach_23, fX4_reach_24, ↓ex_iaload, ↓sRI_c, ↓scrR_n, fX4_reach_25, ↓ex_ishl, ↓s2I_c, fX4_reach_26, ↓ex_if_icmp_ge, fX4_reach_29, fX4_reach_30, fX4_reach_32, ↓ex_invokevirtual, ↓pk_f, fX4_reach_35, ↓ex_lstore, fX4_reach_37, ↓ex_lload, ↓xL_l, ↓xLg_c, fX4_reach_39, fX4_reach_40, ↓ex_lcmp, ↓s2L_c, fX4_reach_41, ↓ex_ifCond_le, fX4_reach_44, fX4_reach_45, fX4_reach_46, fX4_reach_48, fX4_reach_51, fX4_reach_52, fX4_reach_54, fX4_reach_56, ↓ex_bipush, fX4_reach_58, fX4_reach_61, ↓ex_lload_n, fX4_reach_62, fX4_reach_63, ↓fv_4_3, fX4_reach_66, fX4_reach_68, fX4_reach_69, ↓ex_sipush, fX4_reach_72, ↓ex_if_icmp_ne, fX4_reach_75, fX4_reach_76, ↓ex_goto, fX4_reach_79, fX4_reach_81, ↓ex_ladd, fX4_reach_82, fX4_reach_83, ↓ex_iinc, fX4_reach_86, fX4_reach_89, fX4_reach_92, fX4_reach_95, fX4_reach_96, p1, p3, q1, q3, leI, nI_toInt (n := v) (by omega), tI_m5, tI_m4, tI_m3, tI_m2, tI_m1, tI_0, tI_1, tI_2, tI_3, tI_4, tI_5, tI_7, tI_8, tI_10, tI_12, tI_30, tI_31, tI_32, tI_47, tI_48, tI_57, tI_59, tI_42, tI_43, tI_45, tI_61, tI_62, tI_100, tI_120, tI_255, tI_1000, clampN (n := v) (by omega), hT v (by omega), tM_1000 (tau_31 hw.we (cl st) i (v := v) (by omega)), h0, lN_add, add1N, ↓reduceIte, not_true_eq_false, not_false_eq_true, false_implies, true_implies, implies_true, and_true, true_and, and_false, false_and, or_true, true_or, or_false, false_or, Classical.not_not, ite_true, ite_false]
            refine ⟨fun z => absurd z (by omega), fun _ => ⟨vp_inN (by omega) (by omega), fun z => ?_, fun z => ?_⟩⟩
            · rw [if_neg z, Nat.mul_add, Nat.mul_one, ← Nat.add_assoc] at hnx; exact hnx
            · rw [if_pos z] at hnx; exact hnx
        refine go hR [(16, [0, 1, 2, 4]), (54, [0, 1, 2, 4, 5, 7])] 80 ?_
        simp only [↓reduceIte, Nat.reduceEqDiff, Nat.reduceAdd, Nat.reduceLeDiff, reduceCtorEq, and_true, true_and, false_and, and_false, true_or, or_true, or_false, false_or, true_implies, false_implies, implies_true, not_true_eq_false, not_false_eq_true, eq_self, fx_s, ↓run_s, run_0, ↓rs_n, ↓rs_c, as_s, ls_n, ls_c, lc_s, lget_c, fX4_reach_0, ↓ex_iload_n, ↓xI_i, ↓xIg_c, fX4_reach_1, ↓ex_invokestatic, ↓xc_0, ↓xc_s, ↓xc_1, ↓pk_s, ↓k_s, ↓k_n, catS_n, catS_c, rOk_c, ct_i, ct_l, ct_r, ↓pk_t, fX4_reach_4, ↓ex_ifCond_ne, ↓s1I_c, fX4_reach_7, ↓ex_ldc2_w, fX4_reach_10, ↓ex_lreturn, ↓rt_l, fX4_reach_11, ↓ex_lconst, fX4_reach_12, ↓ex_lstore_n, ↓s1L_c, ↓lsto_e, ↓lrmK_n, ↓lrmK_t, fX4_reach_13, ↓ex_iconst, fX4_reach_14, ↓ex_istore, ↓lrmK_f, fX4_reach_16, ↓ex_iload, fX4_reach_18, fX4_reach_19, ↓ex_aload_n, ↓xR_r, ↓xRg_c, fX4_reach_20, ↓ex_getfield, ↓s1R_c, ↓fv_4_0, fX4_reach_23, fX4_reach_24, ↓ex_iaload, ↓sRI_c, ↓scrR_n, fX4_reach_25, ↓ex_ishl, ↓s2I_c, fX4_reach_26, ↓ex_if_icmp_ge, fX4_reach_29, fX4_reach_30, fX4_reach_32, ↓ex_invokevirtual, ↓pk_f, fX4_reach_35, ↓ex_lstore, fX4_reach_37, ↓ex_lload, ↓xL_l, ↓xLg_c, fX4_reach_39, fX4_reach_40, ↓ex_lcmp, ↓s2L_c, fX4_reach_41, ↓ex_ifCond_le, fX4_reach_44, fX4_reach_45, fX4_reach_46, fX4_reach_48, fX4_reach_51, fX4_reach_52, fX4_reach_54, fX4_reach_56, ↓ex_bipush, fX4_reach_58, fX4_reach_61, ↓ex_lload_n, fX4_reach_62, fX4_reach_63, ↓fv_4_3, fX4_reach_66, fX4_reach_68, fX4_reach_69, ↓ex_sipush, fX4_reach_72, ↓ex_if_icmp_ne, fX4_reach_75, fX4_reach_76, ↓ex_goto, fX4_reach_79, fX4_reach_81, ↓ex_ladd, fX4_reach_82, fX4_reach_83, ↓ex_iinc, fX4_reach_86, fX4_reach_89, fX4_reach_92, fX4_reach_95, fX4_reach_96, p1, p2, p3, q1, q2, q3, vr_0, clamp0, (m1.f53 hF).1, shlN (e := s.n) (by omega), leN (a := 2 ^ s.n) (b := i) (by omega) (by omega), ↓C_X4_weightOf, ↓C_X4_hears, lg_cmp_le, h0, add1N, ↓reduceIte, not_true_eq_false, not_false_eq_true, false_implies, true_implies, implies_true, and_true, true_and, and_false, false_and, or_true, true_or, or_false, false_or, Classical.not_not, ite_true, ite_false]
        refine ⟨fun z => absurd z (by omega), fun _ => ⟨s, i, ⟨m1.f53 hF, hn, fun e he => (hw.2.1 e he).2.2.2.1, rfl, by omega⟩, ?_⟩⟩
        rw [pk_lLE (a := wtN s.W i s.n) (b := 0) (by omega) (by omega)]
        refine ⟨fun hz => ?_, fun hz => ⟨s, cl st, i, ⟨m1.f53 hF, hw.we, rfl, h2, rfl, by omega⟩, fun Z hZ hT => ?_⟩⟩
        · have := hi1 Y hF
          rw [show wtN s.W i s.n = 0 by omega, Nat.zero_mul] at this
          exact this
        · exact inner 8 0 Z (by omega) (hF.tr hZ) hT
    exact key (2 ^ s.n) 0 X (by omega) (Fr.rf _ _)
  next => exact hC.elim)
theorem sumN_mono {f : Nat → Nat} {i j : Nat} (h : i ≤ j) : sumN f i ≤ sumN f j := by
  obtain ⟨k, rfl⟩ := Nat.le.dest h
  rw [sumN_app]
  omega
noncomputable def C_X4_likelihoodOf : CT := fun As X K => match As with
  | [.ref b, .int st, .int first] => ∃ (s : SV) (m : Nat), (b = 51 ∧ RSf (X.1 52) s ∧ okSs s ∧ st = nI m ∧ m ≤ 255 ∧ (first = 0 ∨ first = 1)) ∧ ∀ X' q, Fr (fun k => k = 53) X X' → (first = 0 → q = LK s m) → (0 < q ↔ 0 < LK s m) → q ≤ 1000000000000 → K (some (.long (lN q))) X'
  | _ => False
set_option maxRecDepth 20000 in
set_option maxHeartbeats 4000000 in
theorem d_X4_likelihoodOf (l : Launch) : Does l yX4_likelihoodOf (wY yX4_likelihoodOf cX4_likelihoodOf 8 (retT 2)) (rmF 2) C_X4_likelihoodOf := does_of (rt := 2) (by decide +kernel) tkX4_likelihoodOf (calls := [(84, false, 2, 4, C_X4_weightOf), (78, false, 3, 4, C_X4_hears), (90, false, 1, 4, C_X4_isFit)]) (List.forall_mem_cons.mpr ⟨cr_V (d_X4_weightOf l) rfl (by decide +kernel) (by decide +kernel) ⟨rfl, rfl⟩ ⟨Nat.le_of_ble_eq_true rfl, Nat.le_of_ble_eq_true rfl⟩, List.forall_mem_cons.mpr ⟨cr_V (d_X4_hears l) rfl (by decide +kernel) (by decide +kernel) ⟨rfl, rfl⟩ ⟨Nat.le_of_ble_eq_true rfl, Nat.le_of_ble_eq_true rfl⟩, List.forall_mem_cons.mpr ⟨cr_V (d_X4_isFit l) rfl (by decide +kernel) (by decide +kernel) ⟨rfl, rfl⟩ ⟨Nat.le_of_ble_eq_true rfl, Nat.le_of_ble_eq_true rfl⟩, fun _ h => absurd h List.not_mem_nil⟩⟩⟩) (by
  intro As X post hC
  unfold C_X4_likelihoodOf at hC
  split at hC
  next b st first =>
    obtain ⟨s, m, ⟨rfl, m1, ⟨hW, hok⟩, rfl, hm, hfi⟩, hpost⟩ := hC
    refine ⟨Nat.le_of_ble_eq_true rfl, fun R hR => ?_⟩
    obtain ⟨⟨p1, p2, p3, p4, p5, p6, p7⟩, q1, q2, q3, q4, q5, q6, q7⟩ := sh_m
    have hn := hW.1
    have h0 : (0 : Int64) = lN 0 := rfl
    have p24 := p2_lt hn
    have h12 := SF_12 hW m (wS s)
    obtain ⟨f, hf⟩ : ∃ f : Nat → Nat, f = fun o => cif (agr s 0 0 o ∧ fitW s m (wS s) o) (wtN s.W o s.n) 0 := ⟨_, rfl⟩
    have hLK : LK s m = sumN f (2 ^ s.n) := by unfold LK SF; rw [hf]
    have hSF : SF s m (wS s) 0 0 = sumN f (2 ^ s.n) := hLK
    rw [hSF] at h12
    rw [hLK] at hpost
    have key : ∀ k i Y, i + k = 2 ^ s.n → Fr (fun k => k = 53) X Y → R 5 [(0, .ref 51), (1, .int (nI m)), (2, .int first), (3, .long (lN (sumN f i))), (5, .int (nI i))] [] Y := by
      intro k
      induction k with
      | zero =>
        intro i Y hi hF
        refine go hR [(5, [0, 1, 2, 3, 5])] 80 ?_
        simp only [↓reduceIte, Nat.reduceEqDiff, Nat.reduceAdd, Nat.reduceLeDiff, reduceCtorEq, and_true, true_and, false_and, and_false, true_or, or_true, or_false, false_or, true_implies, false_implies, implies_true, not_true_eq_false, not_false_eq_true, eq_self, fx_s, ↓run_s, run_0, ↓rs_n, ↓rs_c, as_s, ls_n, ls_c, lc_s, lget_c, fX4_likelihoodOf_0, ↓ex_lconst, fX4_likelihoodOf_1, ↓ex_lstore_n, ↓s1L_c, ↓lsto_e, ↓lrmK_n, ↓lrmK_t, ct_i, ct_l, ct_r, fX4_likelihoodOf_2, ↓ex_iconst, fX4_likelihoodOf_3, ↓ex_istore, ↓s1I_c, ↓lrmK_f, fX4_likelihoodOf_5, ↓ex_iload, ↓xI_i, ↓xIg_c, fX4_likelihoodOf_7, fX4_likelihoodOf_8, ↓ex_aload_n, ↓xR_r, ↓xRg_c, fX4_likelihoodOf_9, ↓ex_getfield, ↓s1R_c, ↓fv_4_0, fX4_likelihoodOf_12, fX4_likelihoodOf_13, ↓ex_iaload, ↓sRI_c, ↓scrR_n, fX4_likelihoodOf_14, ↓ex_ishl, ↓s2I_c, fX4_likelihoodOf_15, ↓ex_if_icmp_ge, fX4_likelihoodOf_18, ↓ex_lload_n, ↓xL_l, ↓xLg_c, fX4_likelihoodOf_19, fX4_likelihoodOf_20, ↓ex_lcmp, ↓s2L_c, fX4_likelihoodOf_21, ↓ex_ifCond_eq, fX4_likelihoodOf_24, ↓ex_iload_n, fX4_likelihoodOf_25, ↓ex_ifCond_ne, fX4_likelihoodOf_28, fX4_likelihoodOf_29, fX4_likelihoodOf_31, ↓ex_invokevirtual, ↓xc_0, ↓xc_s, ↓xc_1, ↓pk_s, ↓k_s, ↓k_n, catS_n, catS_c, rOk_c, ↓pk_f, fX4_likelihoodOf_34, ↓ex_lstore, fX4_likelihoodOf_36, ↓ex_lload, fX4_likelihoodOf_38, fX4_likelihoodOf_39, fX4_likelihoodOf_40, ↓ex_ifCond_le, fX4_likelihoodOf_43, fX4_likelihoodOf_44, fX4_likelihoodOf_45, fX4_likelihoodOf_47, fX4_likelihoodOf_50, fX4_likelihoodOf_51, fX4_likelihoodOf_52, fX4_likelihoodOf_55, fX4_likelihoodOf_58, fX4_likelihoodOf_60, ↓ex_goto, fX4_likelihoodOf_63, fX4_likelihoodOf_64, ↓ex_ladd, fX4_likelihoodOf_65, fX4_likelihoodOf_66, ↓ex_iinc, fX4_likelihoodOf_69, fX4_likelihoodOf_72, fX4_likelihoodOf_73, ↓ex_lreturn, ↓rt_l, p1, p2, q1, q2, vr_0, clamp0, (m1.f53 hF).1, shlN (e := s.n) (by omega), leN (a := 2 ^ s.n) (b := i) (by omega) (by omega), ↓reduceIte, not_true_eq_false, not_false_eq_true, false_implies, true_implies, implies_true, and_true, true_and, and_false, false_and, or_true, true_or, or_false, false_or, Classical.not_not, ite_true, ite_false]
        refine ⟨fun _ => ?_, fun z => absurd (by omega) z⟩
        rw [show i = 2 ^ s.n by omega]
        exact hpost Y _ hF (fun _ => rfl) Iff.rfl h12
      | succ k ih =>
        intro i Y hi hF
        have hwt := wt_12 hW i
        have hmo := sumN_mono (f := f) (i := i) (j := 2 ^ s.n) (by omega)
        have hs1 : sumN f (i + 1) = sumN f i + f i := rfl
        have hfi' : f i = cif (fitW s m (wS s) i) (wtN s.W i s.n) 0 := by
          rw [hf]
          exact cif_c ⟨fun z => z.2, fun z => ⟨agr_0 s i, z⟩⟩
        have hi1 := fun Z hZ => ih (i + 1) Z (by omega) hZ
        rw [hs1, hfi'] at hi1
        have body : R 28 [(0, .ref 51), (1, .int (nI m)), (2, .int first), (3, .long (lN (sumN f i))), (5, .int (nI i))] [] Y := by
          refine go hR [(5, [0, 1, 2, 3, 5])] 80 ?_
          simp only [↓reduceIte, Nat.reduceEqDiff, Nat.reduceAdd, Nat.reduceLeDiff, reduceCtorEq, and_true, true_and, false_and, and_false, true_or, or_true, or_false, false_or, true_implies, false_implies, implies_true, not_true_eq_false, not_false_eq_true, eq_self, fx_s, ↓run_s, run_0, ↓rs_n, ↓rs_c, as_s, ls_n, ls_c, lc_s, lget_c, fX4_likelihoodOf_0, ↓ex_lconst, fX4_likelihoodOf_1, ↓ex_lstore_n, ↓s1L_c, ↓lsto_e, ↓lrmK_n, ↓lrmK_t, ct_i, ct_l, ct_r, fX4_likelihoodOf_2, ↓ex_iconst, fX4_likelihoodOf_3, ↓ex_istore, ↓s1I_c, ↓lrmK_f, fX4_likelihoodOf_5, ↓ex_iload, ↓xI_i, ↓xIg_c, fX4_likelihoodOf_7, fX4_likelihoodOf_8, ↓ex_aload_n, ↓xR_r, ↓xRg_c, fX4_likelihoodOf_9, ↓ex_getfield, ↓s1R_c, ↓fv_4_0, fX4_likelihoodOf_12, fX4_likelihoodOf_13, ↓ex_iaload, ↓sRI_c, ↓scrR_n, fX4_likelihoodOf_14, ↓ex_ishl, ↓s2I_c, fX4_likelihoodOf_15, ↓ex_if_icmp_ge, fX4_likelihoodOf_18, ↓ex_lload_n, ↓xL_l, ↓xLg_c, fX4_likelihoodOf_19, fX4_likelihoodOf_20, ↓ex_lcmp, ↓s2L_c, fX4_likelihoodOf_21, ↓ex_ifCond_eq, fX4_likelihoodOf_24, ↓ex_iload_n, fX4_likelihoodOf_25, ↓ex_ifCond_ne, fX4_likelihoodOf_28, fX4_likelihoodOf_29, fX4_likelihoodOf_31, ↓ex_invokevirtual, ↓xc_0, ↓xc_s, ↓xc_1, ↓pk_s, ↓k_s, ↓k_n, catS_n, catS_c, rOk_c, ↓pk_f, fX4_likelihoodOf_34, ↓ex_lstore, fX4_likelihoodOf_36, ↓ex_lload, fX4_likelihoodOf_38, fX4_likelihoodOf_39, fX4_likelihoodOf_40, ↓ex_ifCond_le, fX4_likelihoodOf_43, fX4_likelihoodOf_44, fX4_likelihoodOf_45, fX4_likelihoodOf_47, fX4_likelihoodOf_50, fX4_likelihoodOf_51, fX4_likelihoodOf_52, fX4_likelihoodOf_55, fX4_likelihoodOf_58, fX4_likelihoodOf_60, ↓ex_goto, fX4_likelihoodOf_63, fX4_likelihoodOf_64, ↓ex_ladd, fX4_likelihoodOf_65, fX4_likelihoodOf_66, ↓ex_iinc, fX4_likelihoodOf_69, fX4_likelihoodOf_72, fX4_likelihoodOf_73, ↓ex_lreturn, ↓rt_l, p1, q1, ↓C_X4_weightOf, ↓C_X4_hears, ↓C_X4_isFit, lg_cmp_le, h0, lN_add, add1N, b2i_0, ↓reduceIte, not_true_eq_false, not_false_eq_true, false_implies, true_implies, implies_true, and_true, true_and, and_false, false_and, or_true, true_or, or_false, false_or, Classical.not_not, ite_true, ite_false]
          refine ⟨s, i, ⟨m1.f53 hF, hn, fun e he => (hW.2.1 e he).2.2.1, rfl, by omega⟩, ?_⟩
          rw [pk_lLE (a := wtN s.W i s.n) (b := 0) (by omega) (by omega)]
          refine ⟨fun hz => ?_, fun hz => ⟨s, m, i, ⟨m1.f53 hF, hW, rfl, hm, rfl, by omega⟩, fun Z hZ hT => ⟨s, m, i, ⟨m1.f53 (hF.tr hZ), ⟨hW, hok⟩, hT⟩, fun z => ?_, fun z => ?_⟩⟩⟩
          · have := hi1 Y hF
            rw [show wtN s.W i s.n = 0 by omega, show cif (fitW s m (wS s) i) 0 0 = 0 from by unfold cif; exact ite_self _] at this
            exact this
          · have := hi1 Z (hF.tr hZ)
            rw [cif_f z] at this; exact this
          · have := hi1 Z (hF.tr hZ)
            rw [cif_t z] at this; exact this
        refine go hR [(5, [0, 1, 2, 3, 5]), (28, [0, 1, 2, 3, 5])] 80 ?_
        simp only [↓reduceIte, Nat.reduceEqDiff, Nat.reduceAdd, Nat.reduceLeDiff, reduceCtorEq, and_true, true_and, false_and, and_false, true_or, or_true, or_false, false_or, true_implies, false_implies, implies_true, not_true_eq_false, not_false_eq_true, eq_self, fx_s, ↓run_s, run_0, ↓rs_n, ↓rs_c, as_s, ls_n, ls_c, lc_s, lget_c, fX4_likelihoodOf_0, ↓ex_lconst, fX4_likelihoodOf_1, ↓ex_lstore_n, ↓s1L_c, ↓lsto_e, ↓lrmK_n, ↓lrmK_t, ct_i, ct_l, ct_r, fX4_likelihoodOf_2, ↓ex_iconst, fX4_likelihoodOf_3, ↓ex_istore, ↓s1I_c, ↓lrmK_f, fX4_likelihoodOf_5, ↓ex_iload, ↓xI_i, ↓xIg_c, fX4_likelihoodOf_7, fX4_likelihoodOf_8, ↓ex_aload_n, ↓xR_r, ↓xRg_c, fX4_likelihoodOf_9, ↓ex_getfield, ↓s1R_c, ↓fv_4_0, fX4_likelihoodOf_12, fX4_likelihoodOf_13, ↓ex_iaload, ↓sRI_c, ↓scrR_n, fX4_likelihoodOf_14, ↓ex_ishl, ↓s2I_c, fX4_likelihoodOf_15, ↓ex_if_icmp_ge, fX4_likelihoodOf_18, ↓ex_lload_n, ↓xL_l, ↓xLg_c, fX4_likelihoodOf_19, fX4_likelihoodOf_20, ↓ex_lcmp, ↓s2L_c, fX4_likelihoodOf_21, ↓ex_ifCond_eq, fX4_likelihoodOf_24, ↓ex_iload_n, fX4_likelihoodOf_25, ↓ex_ifCond_ne, fX4_likelihoodOf_28, fX4_likelihoodOf_29, fX4_likelihoodOf_31, ↓ex_invokevirtual, ↓xc_0, ↓xc_s, ↓xc_1, ↓pk_s, ↓k_s, ↓k_n, catS_n, catS_c, rOk_c, ↓pk_f, fX4_likelihoodOf_34, ↓ex_lstore, fX4_likelihoodOf_36, ↓ex_lload, fX4_likelihoodOf_38, fX4_likelihoodOf_39, fX4_likelihoodOf_40, ↓ex_ifCond_le, fX4_likelihoodOf_43, fX4_likelihoodOf_44, fX4_likelihoodOf_45, fX4_likelihoodOf_47, fX4_likelihoodOf_50, fX4_likelihoodOf_51, fX4_likelihoodOf_52, fX4_likelihoodOf_55, fX4_likelihoodOf_58, fX4_likelihoodOf_60, ↓ex_goto, fX4_likelihoodOf_63, fX4_likelihoodOf_64, ↓ex_ladd, fX4_likelihoodOf_65, fX4_likelihoodOf_66, ↓ex_iinc, fX4_likelihoodOf_69, fX4_likelihoodOf_72, fX4_likelihoodOf_73, ↓ex_lreturn, ↓rt_l, p1, p2, q1, q2, vr_0, clamp0, (m1.f53 hF).1, shlN (e := s.n) (by omega), leN (a := 2 ^ s.n) (b := i) (by omega) (by omega), lg_cmp_eq, h0, pk_lEQ (a := sumN f i) (b := 0) (by omega) (by omega), ↓reduceIte, not_true_eq_false, not_false_eq_true, false_implies, true_implies, implies_true, and_true, true_and, and_false, false_and, or_true, true_or, or_false, false_or, Classical.not_not, ite_true, ite_false]
        refine ⟨fun z => absurd z (by omega), fun _ => ⟨fun _ => body, fun hz => ⟨fun hf1 => ?_, fun _ => body⟩⟩⟩
        exact hpost Y _ hF (fun z => absurd z hf1) ⟨fun _ => by omega, fun _ => by omega⟩ (by omega)
    refine go hR [(5, [0, 1, 2, 3, 5])] 80 ?_
    simp only [lv_args, ↓reduceIte, Nat.reduceEqDiff, Nat.reduceAdd, Nat.reduceLeDiff, reduceCtorEq, and_true, true_and, false_and, and_false, true_or, or_true, or_false, false_or, true_implies, false_implies, implies_true, not_true_eq_false, not_false_eq_true, eq_self, fx_s, ↓run_s, run_0, ↓rs_n, ↓rs_c, as_s, ls_n, ls_c, lc_s, lget_c, fX4_likelihoodOf_0, ↓ex_lconst, fX4_likelihoodOf_1, ↓ex_lstore_n, ↓s1L_c, ↓lsto_e, ↓lrmK_n, ↓lrmK_t, ct_i, ct_l, ct_r, fX4_likelihoodOf_2, ↓ex_iconst, fX4_likelihoodOf_3, ↓ex_istore, ↓s1I_c, ↓lrmK_f, fX4_likelihoodOf_5, ↓ex_iload, ↓xI_i, ↓xIg_c, fX4_likelihoodOf_7, fX4_likelihoodOf_8, ↓ex_aload_n, ↓xR_r, ↓xRg_c, fX4_likelihoodOf_9, ↓ex_getfield, ↓s1R_c, ↓fv_4_0, fX4_likelihoodOf_12, fX4_likelihoodOf_13, ↓ex_iaload, ↓sRI_c, ↓scrR_n, fX4_likelihoodOf_14, ↓ex_ishl, ↓s2I_c, fX4_likelihoodOf_15, ↓ex_if_icmp_ge, fX4_likelihoodOf_18, ↓ex_lload_n, ↓xL_l, ↓xLg_c, fX4_likelihoodOf_19, fX4_likelihoodOf_20, ↓ex_lcmp, ↓s2L_c, fX4_likelihoodOf_21, ↓ex_ifCond_eq, fX4_likelihoodOf_24, ↓ex_iload_n, fX4_likelihoodOf_25, ↓ex_ifCond_ne, fX4_likelihoodOf_28, fX4_likelihoodOf_29, fX4_likelihoodOf_31, ↓ex_invokevirtual, ↓xc_0, ↓xc_s, ↓xc_1, ↓pk_s, ↓k_s, ↓k_n, catS_n, catS_c, rOk_c, ↓pk_f, fX4_likelihoodOf_34, ↓ex_lstore, fX4_likelihoodOf_36, ↓ex_lload, fX4_likelihoodOf_38, fX4_likelihoodOf_39, fX4_likelihoodOf_40, ↓ex_ifCond_le, fX4_likelihoodOf_43, fX4_likelihoodOf_44, fX4_likelihoodOf_45, fX4_likelihoodOf_47, fX4_likelihoodOf_50, fX4_likelihoodOf_51, fX4_likelihoodOf_52, fX4_likelihoodOf_55, fX4_likelihoodOf_58, fX4_likelihoodOf_60, ↓ex_goto, fX4_likelihoodOf_63, fX4_likelihoodOf_64, ↓ex_ladd, fX4_likelihoodOf_65, fX4_likelihoodOf_66, ↓ex_iinc, fX4_likelihoodOf_69, fX4_likelihoodOf_72, fX4_likelihoodOf_73, ↓ex_lreturn, ↓rt_l, ↓reduceIte, not_true_eq_false, not_false_eq_true, false_implies, true_implies, implies_true, and_true, true_and, and_false, false_and, or_true, true_or, or_false, false_or, Classical.not_not, ite_true, ite_false]
    exact key (2 ^ s.n) 0 X (by omega) (Fr.rf _ _)
  next => exact hC.elim)
end MPUB4
