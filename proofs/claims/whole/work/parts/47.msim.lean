section MSIM
theorem or0N (a : Nat) : nI a ||| 0 = nI a := by
  have := fa_or a 0
  rw [Nat.or_zero] at this
  exact this
noncomputable def C_X4_simulate : CT := fun As X K => match As with
  | [.ref b, .int st, .int x] => b = 51 ∧ PubMI (s_simulate st x) X K
  | _ => False
set_option maxRecDepth 20000 in
set_option maxHeartbeats 4000000 in
theorem d_X4_simulate (l : Launch) : Does l yX4_simulate (wY yX4_simulate cX4_simulate 7 (retT 0)) (rmF 2) C_X4_simulate := does_of (rt := 0) (by decide +kernel) tkX4_simulate (calls := [(74, true, 1, 4, C_X4_isStart), (57, false, 1, 4, C_X4_saves), (46, false, 3, 4, C_X4_of), (78, false, 3, 4, C_X4_hears), (67, true, 1, 4, C_X4_told)]) (List.forall_mem_cons.mpr ⟨cr_S (d_X4_isStart l) (by decide +kernel) (by decide +kernel) ⟨rfl, rfl⟩ ⟨Nat.le_of_ble_eq_true rfl, Nat.le_of_ble_eq_true rfl⟩, List.forall_mem_cons.mpr ⟨cr_V (d_X4_saves l) rfl (by decide +kernel) (by decide +kernel) ⟨rfl, rfl⟩ ⟨Nat.le_of_ble_eq_true rfl, Nat.le_of_ble_eq_true rfl⟩, List.forall_mem_cons.mpr ⟨cr_V (d_X4_of l) rfl (by decide +kernel) (by decide +kernel) ⟨rfl, rfl⟩ ⟨Nat.le_of_ble_eq_true rfl, Nat.le_of_ble_eq_true rfl⟩, List.forall_mem_cons.mpr ⟨cr_V (d_X4_hears l) rfl (by decide +kernel) (by decide +kernel) ⟨rfl, rfl⟩ ⟨Nat.le_of_ble_eq_true rfl, Nat.le_of_ble_eq_true rfl⟩, List.forall_mem_cons.mpr ⟨cr_S (d_X4_told l) (by decide +kernel) (by decide +kernel) ⟨rfl, rfl⟩ ⟨Nat.le_of_ble_eq_true rfl, Nat.le_of_ble_eq_true rfl⟩, fun _ h => absurd h List.not_mem_nil⟩⟩⟩⟩⟩) (by
  intro As X post hC
  unfold C_X4_simulate at hC
  split at hC
  next b st x =>
    obtain ⟨rfl, g, hR0, hpost⟩ := hC
    refine ⟨Nat.le_of_ble_eq_true rfl, fun R hR => ?_⟩
    obtain ⟨⟨p1, p2, p3, p4, p5, p6, p7⟩, q1, q2, q3, q4, q5, q6, q7⟩ := sh_m
    have hw := hR0.1.1
    have hn := hw.1
    have p24 := p2_lt hn
    refine go hR [(22, [0, 1, 3, 4, 5])] 60 ?_
    simp only [lv_args, ↓reduceIte, Nat.reduceEqDiff, Nat.reduceAdd, Nat.reduceLeDiff, reduceCtorEq, and_true, true_and, false_and, and_false, true_or, or_true, or_false, false_or, true_implies, false_implies, implies_true, not_true_eq_false, not_false_eq_true, eq_self, fx_s, ↓run_s, run_0, ↓rs_n, ↓rs_c, as_s, ls_n, ls_c, lc_s, lget_c, fX4_simulate_0, ↓ex_iload_n, ↓xI_i, ↓xIg_c, fX4_simulate_1, ↓ex_invokestatic, ↓xc_0, ↓xc_s, ↓xc_1, ↓pk_s, ↓k_s, ↓k_n, catS_n, catS_c, rOk_c, ct_i, ct_l, ct_r, ↓pk_t, fX4_simulate_4, ↓ex_ifCond_ne, ↓s1I_c, fX4_simulate_7, ↓ex_bipush, fX4_simulate_9, ↓ex_ireturn, ↓rt_i, fX4_simulate_10, ↓ex_aload_n, ↓xR_r, ↓xRg_c, fX4_simulate_11, ↓ex_invokevirtual, ↓pk_f, fX4_simulate_14, fX4_simulate_15, ↓ex_istore_n, ↓lsto_e, ↓lrmK_n, ↓lrmK_f, fX4_simulate_16, ↓ex_iconst, fX4_simulate_17, ↓ex_istore, fX4_simulate_19, fX4_simulate_20, fX4_simulate_22, ↓ex_iload, fX4_simulate_24, fX4_simulate_25, ↓ex_getfield, ↓s1R_c, ↓fv_4_0, fX4_simulate_28, fX4_simulate_29, ↓ex_iaload, ↓sRI_c, ↓scrR_n, fX4_simulate_30, ↓ex_if_icmp_ge, ↓s2I_c, fX4_simulate_33, fX4_simulate_34, ↓ex_ldc, fX4_simulate_36, ↓ex_imul, fX4_simulate_37, ↓ex_sipush, fX4_simulate_40, ↓ex_iadd, fX4_simulate_41, fX4_simulate_42, fX4_simulate_44, fX4_simulate_45, fX4_simulate_47, ↓ex_iushr, fX4_simulate_48, fX4_simulate_50, ↓ex_irem, fX4_simulate_51, fX4_simulate_52, fX4_simulate_54, fX4_simulate_55, fX4_simulate_58, fX4_simulate_61, fX4_simulate_62, fX4_simulate_64, ↓ex_ishl, fX4_simulate_65, ↓ex_goto, fX4_simulate_68, fX4_simulate_69, ↓ex_ior, fX4_simulate_70, fX4_simulate_72, ↓ex_iinc, fX4_simulate_75, fX4_simulate_78, fX4_simulate_79, fX4_simulate_80, fX4_simulate_82, fX4_simulate_85, fX4_simulate_86, fX4_simulate_88, fX4_simulate_89, fX4_simulate_91, fX4_simulate_93, fX4_simulate_95, fX4_simulate_98, fX4_simulate_99, fX4_simulate_102, fX4_simulate_104, fX4_simulate_106, fX4_simulate_107, fX4_simulate_108, fX4_simulate_111, fX4_simulate_112, fX4_simulate_113, fX4_simulate_115, ↓ex_ishr, fX4_simulate_116, fX4_simulate_117, ↓ex_iand, fX4_simulate_118, fX4_simulate_119, ↓ex_if_icmp_ne, fX4_simulate_122, fX4_simulate_123, ↓fv_4_3, fX4_simulate_126, fX4_simulate_128, fX4_simulate_129, fX4_simulate_132, fX4_simulate_135, fX4_simulate_137, ↓ex_iastore, ↓sRII_c, fX4_simulate_138, fX4_simulate_140, fX4_simulate_141, fX4_simulate_144, fX4_simulate_146, fX4_simulate_147, fX4_simulate_150, fX4_simulate_153, fX4_simulate_154, fX4_simulate_157, fX4_simulate_158, fX4_simulate_159, fX4_simulate_161, fX4_simulate_164, fX4_simulate_167, fX4_simulate_169, p1, q1, ↓C_X4_isStart, ↓C_X4_saves, b2i_0, ↓reduceIte, not_true_eq_false, not_false_eq_true, false_implies, true_implies, implies_true, and_true, true_and, and_false, false_and, or_true, true_or, or_false, false_or, Classical.not_not, ite_true, ite_false]
    unfold s_simulate at hpost
    by_cases h : inR st 1 255
    case neg => (rw [cif_f h] at hpost; simp only [h, ↓reduceIte, not_true_eq_false, not_false_eq_true, false_implies, true_implies, implies_true, and_true, true_and, and_false, false_and, or_true, true_or, or_false, false_or, Classical.not_not, ite_true, ite_false]; exact hpost X hR0 (FrC.rf X))
    simp only [h, ↓reduceIte, not_true_eq_false, not_false_eq_true, false_implies, true_implies, implies_true, and_true, true_and, and_false, false_and, or_true, true_or, or_false, false_or, Classical.not_not, ite_true, ite_false]
    rw [cif_t h] at hpost
    obtain ⟨-, h2, h3⟩ := inR_cl (lo := 1) (hi := 255) (by omega) h
    generalize cl st = m at h2 h3 hpost
    subst h3
    refine ⟨g, hR0, fun Y hY hFY hY2 => ?_⟩
    have hYs := hY.remNow
    obtain ⟨s, hs⟩ : ∃ s, s = g.now := ⟨_, rfl⟩
    rw [← hs] at hw hn hpost p24 hYs
    obtain ⟨y1, y2, y3, y4, y5⟩ := id hYs
    generalize htau : tau s m (drawN s.W x s.n) = t at hpost
    have h31 : ∀ v, v < 8 → t v ≤ 31 := fun v hv => by rw [← htau]; exact tau_31 hw.we m _ hv
    have key2 : ∀ k i V, i + k = 8 → Fr (fun k => k = 52 ∨ mscr k) Y V → (∀ v, v < 8 → V.1 53 v = nI (tM (t v))) → (∀ v, v < i → V.1 52 (51 + v) = (if s.Q.testBit v = true then tN (t v) else 100)) → (∀ p, p < 51 ∨ 59 ≤ p → V.1 52 p = Y.1 52 p) → R 91 [(0, .ref 51), (5, .int (nI (sumN (fun u => if t u = 31 then 0 else 1) i))), (6, .int (nI i))] [] V := by
      intro k
      induction k with
      | zero =>
        intro i V hi hF hT hV hp
        refine go hR [(91, [0, 5, 6])] 60 ?_
        simp only [↓reduceIte, Nat.reduceEqDiff, Nat.reduceAdd, Nat.reduceLeDiff, reduceCtorEq, and_true, true_and, false_and, and_false, true_or, or_true, or_false, false_or, true_implies, false_implies, implies_true, not_true_eq_false, not_false_eq_true, eq_self, fx_s, ↓run_s, run_0, ↓rs_n, ↓rs_c, as_s, ls_n, ls_c, lc_s, lget_c, fX4_simulate_0, ↓ex_iload_n, ↓xI_i, ↓xIg_c, fX4_simulate_1, ↓ex_invokestatic, ↓xc_0, ↓xc_s, ↓xc_1, ↓pk_s, ↓k_s, ↓k_n, catS_n, catS_c, rOk_c, ct_i, ct_l, ct_r, ↓pk_t, fX4_simulate_4, ↓ex_ifCond_ne, ↓s1I_c, fX4_simulate_7, ↓ex_bipush, fX4_simulate_9, ↓ex_ireturn, ↓rt_i, fX4_simulate_10, ↓ex_aload_n, ↓xR_r, ↓xRg_c, fX4_simulate_11, ↓ex_invokevirtual, ↓pk_f, fX4_simulate_14, fX4_simulate_15, ↓ex_istore_n, ↓lsto_e, ↓lrmK_n, ↓lrmK_f, fX4_simulate_16, ↓ex_iconst, fX4_simulate_17, ↓ex_istore, fX4_simulate_19, fX4_simulate_20, fX4_simulate_22, ↓ex_iload, fX4_simulate_24, fX4_simulate_25, ↓ex_getfield, ↓s1R_c, ↓fv_4_0, fX4_simulate_28, fX4_simulate_29, ↓ex_iaload, ↓sRI_c, ↓scrR_n, fX4_simulate_30, ↓ex_if_icmp_ge, ↓s2I_c, fX4_simulate_33, fX4_simulate_34, ↓ex_ldc, fX4_simulate_36, ↓ex_imul, fX4_simulate_37, ↓ex_sipush, fX4_simulate_40, ↓ex_iadd, fX4_simulate_41, fX4_simulate_42, fX4_simulate_44, fX4_simulate_45, fX4_simulate_47, ↓ex_iushr, fX4_simulate_48, fX4_simulate_50, ↓ex_irem, fX4_simulate_51, fX4_simulate_52, fX4_simulate_54, fX4_simulate_55, fX4_simulate_58, fX4_simulate_61, fX4_simulate_62, fX4_simulate_64, ↓ex_ishl, fX4_simulate_65, ↓ex_goto, fX4_simulate_68, fX4_simulate_69, ↓ex_ior, fX4_simulate_70, fX4_simulate_72, ↓ex_iinc, fX4_simulate_75, fX4_simulate_78, fX4_simulate_79, fX4_simulate_80, fX4_simulate_82, fX4_simulate_85, fX4_simulate_86, fX4_simulate_88, fX4_simulate_89, fX4_simulate_91, fX4_simulate_93, fX4_simulate_95, fX4_simulate_98, fX4_simulate_99, fX4_simulate_102, fX4_simulate_104, fX4_simulate_106, fX4_simulate_107, fX4_simulate_108, fX4_simulate_111, fX4_simulate_112, fX4_simulate_113, fX4_simulate_115, ↓ex_ishr, fX4_simulate_116, fX4_simulate_117, ↓ex_iand, fX4_simulate_118, fX4_simulate_119, ↓ex_if_icmp_ne, fX4_simulate_122, fX4_simulate_123, ↓fv_4_3, fX4_simulate_126, fX4_simulate_128, fX4_simulate_129, fX4_simulate_132, fX4_simulate_135, fX4_simulate_137, ↓ex_iastore, ↓sRII_c, fX4_simulate_138, fX4_simulate_140, fX4_simulate_141, fX4_simulate_144, fX4_simulate_146, fX4_simulate_147, fX4_simulate_150, fX4_simulate_153, fX4_simulate_154, fX4_simulate_157, fX4_simulate_158, fX4_simulate_159, fX4_simulate_161, fX4_simulate_164, fX4_simulate_167, fX4_simulate_169, leI, nI_toInt (n := i) (by omega), tI_m5, tI_m4, tI_m3, tI_m2, tI_m1, tI_0, tI_1, tI_2, tI_3, tI_4, tI_5, tI_7, tI_8, tI_10, tI_12, tI_30, tI_31, tI_32, tI_47, tI_48, tI_57, tI_59, tI_42, tI_43, tI_45, tI_61, tI_62, tI_100, tI_120, tI_255, tI_1000, ↓reduceIte, not_true_eq_false, not_false_eq_true, false_implies, true_implies, implies_true, and_true, true_and, and_false, false_and, or_true, true_or, or_false, false_or, Classical.not_not, ite_true, ite_false]
        refine ⟨fun _ => ?_, fun z => absurd (by omega) z⟩
        rw [show i = 8 by omega]
        refine hpost V (hY.setNow hF hY2 ⟨by rw [hp 0 (by omega)]; exact y1, by rw [hp 1 (by omega)]; exact y2, by rw [hp 2 (by omega)]; exact y3, fun e he => ?_, fun v hv => hV v (by omega)⟩ (WF_told hw h31) (fun p hp2 => hp p (by omega))) (hFY.c51.tr (FrC.of hF (fun k hk => by unfold mscr at hk; omega)))
        have he' : e < s.n := he
        rw [hp _ (by omega), hp _ (by omega), hp _ (by omega), hp _ (by omega)]
        exact y4 e he'
      | succ k ih =>
        intro i V hi hF hT hV hp
        have hQ := hw.2.2.2.2.2
        have v2 : V.1 52 2 = nI s.Q := by rw [hp 2 (by omega)]; exact y3
        have hv : vp_in (nI i) 8 := vp_inN (by omega) (by omega)
        have hv2 : vp_in (nI (51 + i)) 354 := vp_inN (by omega) (by omega)
        have fin : ∀ (y : Int32), y = (if s.Q.testBit i = true then tN (t i) else 100) → (t i = 31 → R 91 [(0, .ref 51), (5, .int (nI (sumN (fun u => if t u = 31 then 0 else 1) i))), (6, .int (nI (i + 1)))] [] (sI V 52 (51 + i) y)) ∧ (¬ t i = 31 → R 91 [(0, .ref 51), (5, .int (nI (sumN (fun u => if t u = 31 then 0 else 1) i + 1))), (6, .int (nI (i + 1)))] [] (sI V 52 (51 + i) y)) := fun y hy => by
          have hi1 := ih (i + 1) (sI V 52 (51 + i) y) (by omega) (hF.pI (Or.inl rfl) _ _) (fun v hv => by rw [sI_1, if_neg (by decide)]; exact hT v hv) (fun v hv => by
            rw [sI_1, if_pos rfl, upd_a]
            by_cases e : v = i
            · subst e; rw [if_pos rfl]; exact hy
            · rw [if_neg (by omega)]; exact hV v (by omega)) (fun p hp2 => by rw [sI_1, if_pos rfl, upd_a, if_neg (by omega)]; exact hp p hp2)
          have hsn : sumN (fun u => if t u = 31 then 0 else 1) (i + 1) = sumN (fun u => if t u = 31 then 0 else 1) i + (if t i = 31 then 0 else 1) := rfl
          rw [hsn] at hi1
          exact ⟨fun z => by rw [if_pos z] at hi1; exact hi1, fun z => by rw [if_neg z] at hi1; exact hi1⟩
        refine go hR [(91, [0, 5, 6])] 80 ?_
        simp only [↓reduceIte, Nat.reduceEqDiff, Nat.reduceAdd, Nat.reduceLeDiff, reduceCtorEq, and_true, true_and, false_and, and_false, true_or, or_true, or_false, false_or, true_implies, false_implies, implies_true, not_true_eq_false, not_false_eq_true, eq_self, fx_s, ↓run_s, run_0, ↓rs_n, ↓rs_c, as_s, ls_n, ls_c, lc_s, lget_c, fX4_simulate_0, ↓ex_iload_n, ↓xI_i, ↓xIg_c, fX4_simulate_1, ↓ex_invokestatic, ↓xc_0, ↓xc_s, ↓xc_1, ↓pk_s, ↓k_s, ↓k_n, catS_n, catS_c, rOk_c, ct_i, ct_l, ct_r, ↓pk_t, fX4_simulate_4, ↓ex_ifCond_ne, ↓s1I_c, fX4_simulate_7, ↓ex_bipush, fX4_simulate_9, ↓ex_ireturn, ↓rt_i, fX4_simulate_10, ↓ex_aload_n, ↓xR_r, ↓xRg_c, fX4_simulate_11, ↓ex_invokevirtual, ↓pk_f, fX4_simulate_14, fX4_simulate_15, ↓ex_istore_n, ↓lsto_e, ↓lrmK_n, ↓lrmK_f, fX4_simulate_16, ↓ex_iconst, fX4_simulate_17, ↓ex_istore, fX4_simulate_19, fX4_simulate_20, fX4_simulate_22, ↓ex_iload, fX4_simulate_24, fX4_simulate_25, ↓ex_getfield, ↓s1R_c, ↓fv_4_0, fX4_simulate_28, fX4_simulate_29, ↓ex_iaload, ↓sRI_c, ↓scrR_n, fX4_simulate_30, ↓ex_if_icmp_ge, ↓s2I_c, fX4_simulate_33, fX4_simulate_34, ↓ex_ldc, fX4_simulate_36, ↓ex_imul, fX4_simulate_37, ↓ex_sipush, fX4_simulate_40, ↓ex_iadd, fX4_simulate_41, fX4_simulate_42, fX4_simulate_44, fX4_simulate_45, fX4_simulate_47, ↓ex_iushr, fX4_simulate_48, fX4_simulate_50, ↓ex_irem, fX4_simulate_51, fX4_simulate_52, fX4_simulate_54, fX4_simulate_55, fX4_simulate_58, fX4_simulate_61, fX4_simulate_62, fX4_simulate_64, ↓ex_ishl, fX4_simulate_65, ↓ex_goto, fX4_simulate_68, fX4_simulate_69, ↓ex_ior, fX4_simulate_70, fX4_simulate_72, ↓ex_iinc, fX4_simulate_75, fX4_simulate_78, fX4_simulate_79, fX4_simulate_80, fX4_simulate_82, fX4_simulate_85, fX4_simulate_86, fX4_simulate_88, fX4_simulate_89, fX4_simulate_91, fX4_simulate_93, fX4_simulate_95, fX4_simulate_98, fX4_simulate_99, fX4_simulate_102, fX4_simulate_104, fX4_simulate_106, fX4_simulate_107, fX4_simulate_108, fX4_simulate_111, fX4_simulate_112, fX4_simulate_113, fX4_simulate_115, ↓ex_ishr, fX4_simulate_116, fX4_simulate_117, ↓ex_iand, fX4_simulate_118, fX4_simulate_119, ↓ex_if_icmp_ne, fX4_simulate_122, fX4_simulate_123, ↓fv_4_3, fX4_simulate_126, fX4_simulate_128, fX4_simulate_129, fX4_simulate_132, fX4_simulate_135, fX4_simulate_137, ↓ex_iastore, ↓sRII_c, fX4_simulate_138, fX4_simulate_140, fX4_simulate_141, fX4_simulate_144, fX4_simulate_146, fX4_simulate_147, fX4_simulate_150, fX4_simulate_153, fX4_simulate_154, fX4_simulate_157, fX4_simulate_158, fX4_simulate_159, fX4_simulate_161, fX4_simulate_164, fX4_simulate_167, fX4_simulate_169, p1, p2, p3, q1, q2, q3, vr_2, cl_2, v2, ix_v, ↓C_X4_told, leI, nI_toInt (n := i) (by omega), tI_m5, tI_m4, tI_m3, tI_m2, tI_m1, tI_0, tI_1, tI_2, tI_3, tI_4, tI_5, tI_7, tI_8, tI_10, tI_12, tI_30, tI_31, tI_32, tI_47, tI_48, tI_57, tI_59, tI_42, tI_43, tI_45, tI_61, tI_62, tI_100, tI_120, tI_255, tI_1000, clampN (n := i) (by omega), clampN (n := 51 + i) (by omega), sI_1, hT i (by omega), told_tM (h31 i (by omega)), tM_1000 (h31 i (by omega)), bit1 (m := s.Q) (e := i) (by omega) (by omega), add1N, add0N, ↓reduceIte, not_true_eq_false, not_false_eq_true, false_implies, true_implies, implies_true, and_true, true_and, and_false, false_and, or_true, true_or, or_false, false_or, Classical.not_not, ite_true, ite_false]
        refine ⟨fun z => absurd z (by omega), fun _ => ?_⟩
        refine ⟨fun z => ?_, fun z => ?_⟩
        · have h1 := fin 100 (by rw [if_neg z])
          repeat' (first | exact hv | exact hv2 | apply And.intro | intro _)
          all_goals first | exact h1.1 ‹_› | exact h1.2 ‹_›
        · have etn : cif (t i = 31) (-1) (nI (tM (t i))) = tN (t i) := by
            rw [← tM_1000 (h31 i (by omega))]
            exact told_tM (h31 i (by omega))
          rw [etn]
          have h1 := fin (tN (t i)) (by rw [if_pos z])
          repeat' (first | exact hv | exact hv2 | apply And.intro | intro _)
          all_goals first | exact h1.1 ‹_› | exact h1.2 ‹_›
    have key1 : ∀ k i, i + k = s.n → R 22 [(0, .ref 51), (1, .int (nI m)), (3, .int (seedN x i)), (4, .int (nI (drawN s.W x i))), (5, .int (nI i))] [] Y := by
      intro k
      induction k with
      | zero =>
        intro i hi
        refine go hR [(22, [0, 1, 3, 4, 5]), (91, [0, 5, 6])] 60 ?_
        simp only [↓reduceIte, Nat.reduceEqDiff, Nat.reduceAdd, Nat.reduceLeDiff, reduceCtorEq, and_true, true_and, false_and, and_false, true_or, or_true, or_false, false_or, true_implies, false_implies, implies_true, not_true_eq_false, not_false_eq_true, eq_self, fx_s, ↓run_s, run_0, ↓rs_n, ↓rs_c, as_s, ls_n, ls_c, lc_s, lget_c, fX4_simulate_0, ↓ex_iload_n, ↓xI_i, ↓xIg_c, fX4_simulate_1, ↓ex_invokestatic, ↓xc_0, ↓xc_s, ↓xc_1, ↓pk_s, ↓k_s, ↓k_n, catS_n, catS_c, rOk_c, ct_i, ct_l, ct_r, ↓pk_t, fX4_simulate_4, ↓ex_ifCond_ne, ↓s1I_c, fX4_simulate_7, ↓ex_bipush, fX4_simulate_9, ↓ex_ireturn, ↓rt_i, fX4_simulate_10, ↓ex_aload_n, ↓xR_r, ↓xRg_c, fX4_simulate_11, ↓ex_invokevirtual, ↓pk_f, fX4_simulate_14, fX4_simulate_15, ↓ex_istore_n, ↓lsto_e, ↓lrmK_n, ↓lrmK_f, fX4_simulate_16, ↓ex_iconst, fX4_simulate_17, ↓ex_istore, fX4_simulate_19, fX4_simulate_20, fX4_simulate_22, ↓ex_iload, fX4_simulate_24, fX4_simulate_25, ↓ex_getfield, ↓s1R_c, ↓fv_4_0, fX4_simulate_28, fX4_simulate_29, ↓ex_iaload, ↓sRI_c, ↓scrR_n, fX4_simulate_30, ↓ex_if_icmp_ge, ↓s2I_c, fX4_simulate_33, fX4_simulate_34, ↓ex_ldc, fX4_simulate_36, ↓ex_imul, fX4_simulate_37, ↓ex_sipush, fX4_simulate_40, ↓ex_iadd, fX4_simulate_41, fX4_simulate_42, fX4_simulate_44, fX4_simulate_45, fX4_simulate_47, ↓ex_iushr, fX4_simulate_48, fX4_simulate_50, ↓ex_irem, fX4_simulate_51, fX4_simulate_52, fX4_simulate_54, fX4_simulate_55, fX4_simulate_58, fX4_simulate_61, fX4_simulate_62, fX4_simulate_64, ↓ex_ishl, fX4_simulate_65, ↓ex_goto, fX4_simulate_68, fX4_simulate_69, ↓ex_ior, fX4_simulate_70, fX4_simulate_72, ↓ex_iinc, fX4_simulate_75, fX4_simulate_78, fX4_simulate_79, fX4_simulate_80, fX4_simulate_82, fX4_simulate_85, fX4_simulate_86, fX4_simulate_88, fX4_simulate_89, fX4_simulate_91, fX4_simulate_93, fX4_simulate_95, fX4_simulate_98, fX4_simulate_99, fX4_simulate_102, fX4_simulate_104, fX4_simulate_106, fX4_simulate_107, fX4_simulate_108, fX4_simulate_111, fX4_simulate_112, fX4_simulate_113, fX4_simulate_115, ↓ex_ishr, fX4_simulate_116, fX4_simulate_117, ↓ex_iand, fX4_simulate_118, fX4_simulate_119, ↓ex_if_icmp_ne, fX4_simulate_122, fX4_simulate_123, ↓fv_4_3, fX4_simulate_126, fX4_simulate_128, fX4_simulate_129, fX4_simulate_132, fX4_simulate_135, fX4_simulate_137, ↓ex_iastore, ↓sRII_c, fX4_simulate_138, fX4_simulate_140, fX4_simulate_141, fX4_simulate_144, fX4_simulate_146, fX4_simulate_147, fX4_simulate_150, fX4_simulate_153, fX4_simulate_154, fX4_simulate_157, fX4_simulate_158, fX4_simulate_159, fX4_simulate_161, fX4_simulate_164, fX4_simulate_167, fX4_simulate_169, p1, p2, q1, q2, vr_0, clamp0, y1, leN (a := s.n) (b := i) (by omega) (by omega), ↓C_X4_hears, ↓reduceIte, not_true_eq_false, not_false_eq_true, false_implies, true_implies, implies_true, and_true, true_and, and_false, false_and, or_true, true_or, or_false, false_or, Classical.not_not, ite_true, ite_false]
        refine ⟨fun _ => ?_, fun z => absurd (by omega) z⟩
        rw [show i = s.n by omega]
        have hdl := drawN_lt s.W x s.n
        refine ⟨s, m, drawN s.W x s.n, ⟨hYs, hw.we, rfl, h2, rfl, by omega⟩, fun Z hZ hT => ?_⟩
        refine key2 8 0 Z (by omega) (hZ.mono (fun k z => Or.inr (Or.inl z))) (fun v hv => by rw [hT v hv, htau]) (fun v hv => absurd hv (by omega)) (fun p _ => by rw [hZ.1 52 (by decide)])
      | succ k ih =>
        intro i hi
        have hi1 := ih (i + 1) (by omega)
        unfold drawN at hi1
        refine go hR [(22, [0, 1, 3, 4, 5]), (91, [0, 5, 6])] 60 ?_
        simp only [↓reduceIte, Nat.reduceEqDiff, Nat.reduceAdd, Nat.reduceLeDiff, reduceCtorEq, and_true, true_and, false_and, and_false, true_or, or_true, or_false, false_or, true_implies, false_implies, implies_true, not_true_eq_false, not_false_eq_true, eq_self, fx_s, ↓run_s, run_0, ↓rs_n, ↓rs_c, as_s, ls_n, ls_c, lc_s, lget_c, fX4_simulate_0, ↓ex_iload_n, ↓xI_i, ↓xIg_c, fX4_simulate_1, ↓ex_invokestatic, ↓xc_0, ↓xc_s, ↓xc_1, ↓pk_s, ↓k_s, ↓k_n, catS_n, catS_c, rOk_c, ct_i, ct_l, ct_r, ↓pk_t, fX4_simulate_4, ↓ex_ifCond_ne, ↓s1I_c, fX4_simulate_7, ↓ex_bipush, fX4_simulate_9, ↓ex_ireturn, ↓rt_i, fX4_simulate_10, ↓ex_aload_n, ↓xR_r, ↓xRg_c, fX4_simulate_11, ↓ex_invokevirtual, ↓pk_f, fX4_simulate_14, fX4_simulate_15, ↓ex_istore_n, ↓lsto_e, ↓lrmK_n, ↓lrmK_f, fX4_simulate_16, ↓ex_iconst, fX4_simulate_17, ↓ex_istore, fX4_simulate_19, fX4_simulate_20, fX4_simulate_22, ↓ex_iload, fX4_simulate_24, fX4_simulate_25, ↓ex_getfield, ↓s1R_c, ↓fv_4_0, fX4_simulate_28, fX4_simulate_29, ↓ex_iaload, ↓sRI_c, ↓scrR_n, fX4_simulate_30, ↓ex_if_icmp_ge, ↓s2I_c, fX4_simulate_33, fX4_simulate_34, ↓ex_ldc, fX4_simulate_36, ↓ex_imul, fX4_simulate_37, ↓ex_sipush, fX4_simulate_40, ↓ex_iadd, fX4_simulate_41, fX4_simulate_42, fX4_simulate_44, fX4_simulate_45, fX4_simulate_47, ↓ex_iushr, fX4_simulate_48, fX4_simulate_50, ↓ex_irem, fX4_simulate_51, fX4_simulate_52, fX4_simulate_54, fX4_simulate_55, fX4_simulate_58, fX4_simulate_61, fX4_simulate_62, fX4_simulate_64, ↓ex_ishl, fX4_simulate_65, ↓ex_goto, fX4_simulate_68, fX4_simulate_69, ↓ex_ior, fX4_simulate_70, fX4_simulate_72, ↓ex_iinc, fX4_simulate_75, fX4_simulate_78, fX4_simulate_79, fX4_simulate_80, fX4_simulate_82, fX4_simulate_85, fX4_simulate_86, fX4_simulate_88, fX4_simulate_89, fX4_simulate_91, fX4_simulate_93, fX4_simulate_95, fX4_simulate_98, fX4_simulate_99, fX4_simulate_102, fX4_simulate_104, fX4_simulate_106, fX4_simulate_107, fX4_simulate_108, fX4_simulate_111, fX4_simulate_112, fX4_simulate_113, fX4_simulate_115, ↓ex_ishr, fX4_simulate_116, fX4_simulate_117, ↓ex_iand, fX4_simulate_118, fX4_simulate_119, ↓ex_if_icmp_ne, fX4_simulate_122, fX4_simulate_123, ↓fv_4_3, fX4_simulate_126, fX4_simulate_128, fX4_simulate_129, fX4_simulate_132, fX4_simulate_135, fX4_simulate_137, ↓ex_iastore, ↓sRII_c, fX4_simulate_138, fX4_simulate_140, fX4_simulate_141, fX4_simulate_144, fX4_simulate_146, fX4_simulate_147, fX4_simulate_150, fX4_simulate_153, fX4_simulate_154, fX4_simulate_157, fX4_simulate_158, fX4_simulate_159, fX4_simulate_161, fX4_simulate_164, fX4_simulate_167, fX4_simulate_169, p1, p2, q1, q2, vr_0, clamp0, cl_2, vq_2, y1, ↓C_X4_of, (y4 i (by omega)).2.2.1, leN (a := s.n) (b := i) (by omega) (by omega), shlN (e := i) (by omega), fa_or, clampN (n := i) (by omega), or0N, add1N, ↓reduceIte, not_true_eq_false, not_false_eq_true, false_implies, true_implies, implies_true, and_true, true_and, and_false, false_and, or_true, true_or, or_false, false_or, Classical.not_not, ite_true, ite_false]
        have vi : vp_in (nI i) 12 := vp_inN (by omega) (by omega)
        refine ⟨fun z => absurd z (by omega), fun _ => ⟨(by decide), vi, fun hb => ?_, fun hb => ?_⟩⟩
        · have hb' : ¬ drawB s.W x i := fun z => by
            have z' : (_ : Int32) < nI (s.W i) := z
            rw [ltI] at z'
            rw [leI] at hb
            have : ∀ a b : Int, a < b → b ≤ a → False := fun a b h1 h2 => by omega
            exact this _ _ z' hb
          rw [cif_f hb'] at hi1
          exact hi1
        · have hb' : drawB s.W x i := by
            show (_ : Int32) < nI (s.W i)
            rw [ltI]
            rw [leI] at hb
            exact Int.not_le.mp hb
          rw [cif_t hb'] at hi1
          exact hi1
    exact key1 s.n 0 (by omega)
  next => exact hC.elim)
end MSIM
