section SPREAD2
/-- an edge tells the rumour; a round of all; the times after seven rounds -/
def relax (s : SV) (o : Nat) (t : Nat → Nat) (e : Nat) : Nat → Nat := if o.testBit e = true ∧ arr s t e < t (s.T e) then updN t (s.T e) (arr s t e) else t
def rnd (s : SV) (o : Nat) (t : Nat → Nat) : Nat → (Nat → Nat)
  | 0 => t
  | k + 1 => relax s o (rnd s o t k) k
def folR (s : SV) (m o : Nat) : Nat → (Nat → Nat)
  | 0 => t0 m
  | r + 1 => rnd s o (folR s m o r) s.n
def tau (s : SV) (m o : Nat) : Nat → Nat := folR s m o 7
def C_X1_follow : CT := fun As X K => match As with
  | [.ref b, .ref c, .int st, .int o] => ∃ (s : SV) (m om : Nat), (b = 8 ∧ c = 1 ∧ RS X 1 s ∧ WE s ∧ st = nI m ∧ m ≤ 255 ∧ o = nI om ∧ om < 4096) ∧ ∀ X', Fr (fun k => k = 9) X X' → TM X' (tau s m om) → K none X'
  | _ => False
set_option maxRecDepth 20000 in
set_option maxHeartbeats 4000000 in
theorem d_X1_follow (l : Launch) : Does l yX1_follow (wY yX1_follow cX1_follow 8 (retT 3)) (rmF 2) C_X1_follow := does_of (rt := 3) (by decide +kernel) tkX1_follow (calls := [(52, false, 2, 1, C_X1_begin), (62, false, 3, 1, C_X1_arrivalBy), (43, true, 1, 3, C_X3_isNode)]) (List.forall_mem_cons.mpr ⟨cr_V (d_X1_begin l) rfl (by decide +kernel) (by decide +kernel) ⟨rfl, rfl⟩ ⟨Nat.le_of_ble_eq_true rfl, Nat.le_of_ble_eq_true rfl⟩, List.forall_mem_cons.mpr ⟨cr_V (d_X1_arrivalBy l) rfl (by decide +kernel) (by decide +kernel) ⟨rfl, rfl⟩ ⟨Nat.le_of_ble_eq_true rfl, Nat.le_of_ble_eq_true rfl⟩, List.forall_mem_cons.mpr ⟨cr_NS (d_X3_isNode l) (by decide +kernel) (by decide +kernel) (by decide +kernel) ⟨rfl, rfl⟩ ⟨Nat.le_of_ble_eq_true rfl, Nat.le_of_ble_eq_true rfl⟩, fun _ h => absurd h List.not_mem_nil⟩⟩⟩) (by
  intro As X post hC
  unfold C_X1_follow at hC
  split at hC
  next b c st o =>
    obtain ⟨s, m, om, ⟨rfl, rfl, hRS, hW, rfl, hm, rfl, ho⟩, hpost⟩ := hC
    obtain ⟨w1, w2, w3⟩ := id hW
    obtain ⟨d1, d2, d3, d4, d5⟩ := id hRS
    refine ⟨Nat.le_of_ble_eq_true rfl, fun R hR => ?_⟩
    obtain ⟨⟨p8, p9, p10, p11⟩, q8, q9, q10, q11⟩ := sh_sp
    obtain ⟨⟨p0, p1, p2, p3, p4, p5, p6⟩, q0, q1, q2, q3, q4, q5, q6⟩ := sh_base
    have fS : ∀ Y, Fr (fun k => k = 9) X Y → RS Y 1 s := fun Y hF => hRS.fr hF (fun k hk z => by unfold scn at hk; omega)
    have inner : ∀ (r : Nat) (tt : Nat → Nat), r ≤ 7 → (∀ Y, Fr (fun k => k = 9) X Y → TM Y (rnd s om tt s.n) → R 8 [(0, .ref 8), (1, .ref 1), (3, .int (nI om)), (4, .int (nI (r + 1)))] [] Y) →
        ∀ k i Y, i + k = s.n → Fr (fun k => k = 9) X Y → TM Y (rnd s om tt i) → R 18 [(0, .ref 8), (1, .ref 1), (3, .int (nI om)), (4, .int (nI r)), (5, .int (nI i))] [] Y := by
      intro r tt hr hout k
      induction k with
      | zero =>
        intro i Y hi hF hT
        obtain ⟨y1, -⟩ := fS Y hF
        refine go hR [(8, [0, 1, 3, 4]), (18, [0, 1, 3, 4, 5])] 3 ?_
        simp only [↓reduceIte, Nat.reduceEqDiff, Nat.reduceAdd, Nat.reduceLeDiff, reduceCtorEq, and_true, true_and, false_and, and_false, true_or, or_true, or_false, false_or, true_implies, false_implies, implies_true, not_true_eq_false, not_false_eq_true, eq_self, fx_s, ↓run_s, run_0, ↓rs_n, ↓rs_c, as_s, ls_n, ls_c, lc_s, lget_c, fX1_follow_0, ↓ex_aload_n, ↓xR_r, ↓xRg_c, fX1_follow_1, ↓ex_iload_n, ↓xI_i, ↓xIg_c, fX1_follow_2, ↓ex_invokevirtual, ↓xc_0, ↓xc_s, ↓xc_1, ↓pk_s, ↓k_s, ↓k_n, catS_n, catS_c, rOk_c, ct_i, ct_l, ct_r, ↓pk_f, fX1_follow_5, ↓ex_iconst, fX1_follow_6, ↓ex_istore, ↓s1I_c, ↓lsto_e, ↓lrmK_n, ↓lrmK_f, fX1_follow_8, ↓ex_iload, fX1_follow_10, ↓ex_bipush, fX1_follow_12, ↓ex_if_icmp_ge, ↓s2I_c, fX1_follow_15, fX1_follow_16, fX1_follow_18, fX1_follow_20, fX1_follow_21, ↓ex_getfield, ↓s1R_c, ↓fv_0_4, fX1_follow_24, fX1_follow_27, fX1_follow_28, ↓fv_0_1, fX1_follow_31, fX1_follow_33, ↓ex_iaload, ↓sRI_c, ↓scrR_n, fX1_follow_34, fX1_follow_36, fX1_follow_37, fX1_follow_39, ↓ex_ishr, fX1_follow_40, fX1_follow_41, ↓ex_iand, fX1_follow_42, fX1_follow_43, ↓ex_if_icmp_ne, fX1_follow_46, fX1_follow_47, fX1_follow_48, fX1_follow_50, fX1_follow_53, ↓ex_goto, fX1_follow_56, fX1_follow_58, fX1_follow_60, fX1_follow_62, ↓ex_invokestatic, ↓pk_t, fX1_follow_65, ↓ex_ifCond_eq, fX1_follow_68, fX1_follow_70, fX1_follow_71, ↓fv_1_0, fX1_follow_74, fX1_follow_76, fX1_follow_77, fX1_follow_80, fX1_follow_81, fX1_follow_84, fX1_follow_86, fX1_follow_88, ↓ex_iastore, ↓sRII_c, fX1_follow_89, ↓ex_iinc, fX1_follow_92, fX1_follow_95, fX1_follow_98, fX1_follow_101, ↓ex_return_, ↓rt_v, p1, q1, y1, leN (a := s.n) (b := i) (by omega) (by omega), add1N]
        refine ⟨fun _ => ?_, fun z => absurd (by omega) z⟩
        refine go hR [(8, [0, 1, 3, 4]), (18, [0, 1, 3, 4, 5])] 3 ?_
        simp only [↓reduceIte, Nat.reduceEqDiff, Nat.reduceAdd, Nat.reduceLeDiff, reduceCtorEq, and_true, true_and, false_and, and_false, true_or, or_true, or_false, false_or, true_implies, false_implies, implies_true, not_true_eq_false, not_false_eq_true, eq_self, fx_s, ↓run_s, run_0, ↓rs_n, ↓rs_c, as_s, ls_n, ls_c, lc_s, lget_c, fX1_follow_0, ↓ex_aload_n, ↓xR_r, ↓xRg_c, fX1_follow_1, ↓ex_iload_n, ↓xI_i, ↓xIg_c, fX1_follow_2, ↓ex_invokevirtual, ↓xc_0, ↓xc_s, ↓xc_1, ↓pk_s, ↓k_s, ↓k_n, catS_n, catS_c, rOk_c, ct_i, ct_l, ct_r, ↓pk_f, fX1_follow_5, ↓ex_iconst, fX1_follow_6, ↓ex_istore, ↓s1I_c, ↓lsto_e, ↓lrmK_n, ↓lrmK_f, fX1_follow_8, ↓ex_iload, fX1_follow_10, ↓ex_bipush, fX1_follow_12, ↓ex_if_icmp_ge, ↓s2I_c, fX1_follow_15, fX1_follow_16, fX1_follow_18, fX1_follow_20, fX1_follow_21, ↓ex_getfield, ↓s1R_c, ↓fv_0_4, fX1_follow_24, fX1_follow_27, fX1_follow_28, ↓fv_0_1, fX1_follow_31, fX1_follow_33, ↓ex_iaload, ↓sRI_c, ↓scrR_n, fX1_follow_34, fX1_follow_36, fX1_follow_37, fX1_follow_39, ↓ex_ishr, fX1_follow_40, fX1_follow_41, ↓ex_iand, fX1_follow_42, fX1_follow_43, ↓ex_if_icmp_ne, fX1_follow_46, fX1_follow_47, fX1_follow_48, fX1_follow_50, fX1_follow_53, ↓ex_goto, fX1_follow_56, fX1_follow_58, fX1_follow_60, fX1_follow_62, ↓ex_invokestatic, ↓pk_t, fX1_follow_65, ↓ex_ifCond_eq, fX1_follow_68, fX1_follow_70, fX1_follow_71, ↓fv_1_0, fX1_follow_74, fX1_follow_76, fX1_follow_77, fX1_follow_80, fX1_follow_81, fX1_follow_84, fX1_follow_86, fX1_follow_88, ↓ex_iastore, ↓sRII_c, fX1_follow_89, ↓ex_iinc, fX1_follow_92, fX1_follow_95, fX1_follow_98, fX1_follow_101, ↓ex_return_, ↓rt_v, add1N]
        refine hout Y hF ?_
        rw [show s.n = i by omega]; exact hT
      | succ k ih =>
        intro i Y hi hF hT
        obtain ⟨y1, y2, y3, y4, y5⟩ := fS Y hF
        obtain ⟨e1, e2, e3, e4⟩ := y2 i (by omega)
        obtain ⟨f1, f2, f3, f4, f5⟩ := w2 i (by omega)
        obtain ⟨g1, g2⟩ := hT (s.T i) f2
        refine go hR [(8, [0, 1, 3, 4]), (18, [0, 1, 3, 4, 5])] 3 ?_
        simp only [↓reduceIte, Nat.reduceEqDiff, Nat.reduceAdd, Nat.reduceLeDiff, reduceCtorEq, and_true, true_and, false_and, and_false, true_or, or_true, or_false, false_or, true_implies, false_implies, implies_true, not_true_eq_false, not_false_eq_true, eq_self, fx_s, ↓run_s, run_0, ↓rs_n, ↓rs_c, as_s, ls_n, ls_c, lc_s, lget_c, fX1_follow_0, ↓ex_aload_n, ↓xR_r, ↓xRg_c, fX1_follow_1, ↓ex_iload_n, ↓xI_i, ↓xIg_c, fX1_follow_2, ↓ex_invokevirtual, ↓xc_0, ↓xc_s, ↓xc_1, ↓pk_s, ↓k_s, ↓k_n, catS_n, catS_c, rOk_c, ct_i, ct_l, ct_r, ↓pk_f, fX1_follow_5, ↓ex_iconst, fX1_follow_6, ↓ex_istore, ↓s1I_c, ↓lsto_e, ↓lrmK_n, ↓lrmK_f, fX1_follow_8, ↓ex_iload, fX1_follow_10, ↓ex_bipush, fX1_follow_12, ↓ex_if_icmp_ge, ↓s2I_c, fX1_follow_15, fX1_follow_16, fX1_follow_18, fX1_follow_20, fX1_follow_21, ↓ex_getfield, ↓s1R_c, ↓fv_0_4, fX1_follow_24, fX1_follow_27, fX1_follow_28, ↓fv_0_1, fX1_follow_31, fX1_follow_33, ↓ex_iaload, ↓sRI_c, ↓scrR_n, fX1_follow_34, fX1_follow_36, fX1_follow_37, fX1_follow_39, ↓ex_ishr, fX1_follow_40, fX1_follow_41, ↓ex_iand, fX1_follow_42, fX1_follow_43, ↓ex_if_icmp_ne, fX1_follow_46, fX1_follow_47, fX1_follow_48, fX1_follow_50, fX1_follow_53, ↓ex_goto, fX1_follow_56, fX1_follow_58, fX1_follow_60, fX1_follow_62, ↓ex_invokestatic, ↓pk_t, fX1_follow_65, ↓ex_ifCond_eq, fX1_follow_68, fX1_follow_70, fX1_follow_71, ↓fv_1_0, fX1_follow_74, fX1_follow_76, fX1_follow_77, fX1_follow_80, fX1_follow_81, fX1_follow_84, fX1_follow_86, fX1_follow_88, ↓ex_iastore, ↓sRII_c, fX1_follow_89, ↓ex_iinc, fX1_follow_92, fX1_follow_95, fX1_follow_98, fX1_follow_101, ↓ex_return_, ↓rt_v, p1, q1, y1, leN (a := s.n) (b := i) (by omega) (by omega)]
        refine ⟨fun z => absurd z (by omega), fun _ => ?_⟩
        refine go hR [(8, [0, 1, 3, 4]), (18, [0, 1, 3, 4, 5])] 60 ?_
        simp only [↓reduceIte, Nat.reduceEqDiff, Nat.reduceAdd, Nat.reduceLeDiff, reduceCtorEq, and_true, true_and, false_and, and_false, true_or, or_true, or_false, false_or, true_implies, false_implies, implies_true, not_true_eq_false, not_false_eq_true, eq_self, fx_s, ↓run_s, run_0, ↓rs_n, ↓rs_c, as_s, ls_n, ls_c, lc_s, lget_c, fX1_follow_0, ↓ex_aload_n, ↓xR_r, ↓xRg_c, fX1_follow_1, ↓ex_iload_n, ↓xI_i, ↓xIg_c, fX1_follow_2, ↓ex_invokevirtual, ↓xc_0, ↓xc_s, ↓xc_1, ↓pk_s, ↓k_s, ↓k_n, catS_n, catS_c, rOk_c, ct_i, ct_l, ct_r, ↓pk_f, fX1_follow_5, ↓ex_iconst, fX1_follow_6, ↓ex_istore, ↓s1I_c, ↓lsto_e, ↓lrmK_n, ↓lrmK_f, fX1_follow_8, ↓ex_iload, fX1_follow_10, ↓ex_bipush, fX1_follow_12, ↓ex_if_icmp_ge, ↓s2I_c, fX1_follow_15, fX1_follow_16, fX1_follow_18, fX1_follow_20, fX1_follow_21, ↓ex_getfield, ↓s1R_c, ↓fv_0_4, fX1_follow_24, fX1_follow_27, fX1_follow_28, ↓fv_0_1, fX1_follow_31, fX1_follow_33, ↓ex_iaload, ↓sRI_c, ↓scrR_n, fX1_follow_34, fX1_follow_36, fX1_follow_37, fX1_follow_39, ↓ex_ishr, fX1_follow_40, fX1_follow_41, ↓ex_iand, fX1_follow_42, fX1_follow_43, ↓ex_if_icmp_ne, fX1_follow_46, fX1_follow_47, fX1_follow_48, fX1_follow_50, fX1_follow_53, ↓ex_goto, fX1_follow_56, fX1_follow_58, fX1_follow_60, fX1_follow_62, ↓ex_invokestatic, ↓pk_t, fX1_follow_65, ↓ex_ifCond_eq, fX1_follow_68, fX1_follow_70, fX1_follow_71, ↓fv_1_0, fX1_follow_74, fX1_follow_76, fX1_follow_77, fX1_follow_80, fX1_follow_81, fX1_follow_84, fX1_follow_86, fX1_follow_88, ↓ex_iastore, ↓sRII_c, fX1_follow_89, ↓ex_iinc, fX1_follow_92, fX1_follow_95, fX1_follow_98, fX1_follow_101, ↓ex_return_, ↓rt_v, p1, p3, p8, p9, q1, q3, q8, q9, clampN (n := i) (by omega), e2, bit1 (m := om) (e := i) (by omega) (by omega), ↓C_X3_isNode, ↓C_X1_arrivalBy, b2i_0, inR_n f2, clampN (n := s.T i) (by omega), g1, add1N, ↓reduceIte, not_true_eq_false, not_false_eq_true, false_implies, true_implies, implies_true, and_true, true_and, and_false, false_and, or_true, true_or, or_false, false_or, Classical.not_not, ite_true, ite_false]
        have hv1 : vp_in (nI i) 12 := vp_inN (by omega) (by omega)
        have hv2 : vp_in (nI (s.T i)) 8 := vp_inN (by omega) f2
        have hal := arr_le w3 (rnd s om tt i) i
        have next : ∀ a : Nat, a = (if om.testBit i = true then arr s (rnd s om tt i) i else 31) → a ≤ 31 → ((vp_in (nI (s.T i)) 8 ∧ (nI ((rnd s om tt i) (s.T i)) ≤ nI a → R 18 [(0, .ref 8), (1, .ref 1), (3, .int (nI om)), (4, .int (nI r)), (5, .int (nI (i + 1)))] [] Y) ∧ (¬ nI ((rnd s om tt i) (s.T i)) ≤ nI a → vp_in (nI (s.T i)) 8 ∧ R 18 [(0, .ref 8), (1, .ref 1), (3, .int (nI om)), (4, .int (nI r)), (5, .int (nI (i + 1)))] [] (sI Y 9 (s.T i) (nI a))))) := by
          intro a ha ha31
          refine ⟨hv2, fun z => ih (i + 1) Y (by omega) hF ?_, fun z => ⟨hv2, ih (i + 1) _ (by omega) (Fr.pI (P := fun k => k = 9) hF rfl _ _) ?_⟩⟩
          · have z' := (leN (by omega) (by omega)).mp z
            show TM Y (relax s om (rnd s om tt i) i)
            unfold relax
            rw [if_neg]
            · exact hT
            · rintro ⟨y1, y2⟩
              rw [if_pos y1] at ha
              omega
          · have z' : ¬ _ := fun y => z ((leN (by omega) (by omega)).mpr y)
            show TM _ (relax s om (rnd s om tt i) i)
            unfold relax
            have hb : om.testBit i = true := by
              cases h : om.testBit i with
              | true => rfl
              | false =>
                rw [h, if_neg (by decide)] at ha
                omega
            rw [if_pos hb] at ha
            rw [if_pos ⟨hb, by omega⟩]
            intro v hv
            rw [updN_a]
            by_cases e : v = s.T i
            · rw [if_pos e, ← ha]
              exact ⟨by simp [sI_1, upd_a, e], ha31⟩
            · rw [if_neg e]
              obtain ⟨h1, h2⟩ := hT v hv
              exact ⟨by simp [sI_1, upd_a, e, h1], h2⟩
        refine ⟨hv1, fun z => ?_, fun z => ⟨s, rnd s om tt i, i, ⟨fS Y hF, hW, hT, rfl, by omega⟩, ?_⟩⟩
        · exact next 31 (by rw [if_neg z]) (by omega)
        · exact next (arr s (rnd s om tt i) i) (by rw [if_pos z]) hal
    have outer : ∀ k r Y, r + k = 8 → 1 ≤ r → Fr (fun k => k = 9) X Y → TM Y (folR s m om (r - 1)) → R 8 [(0, .ref 8), (1, .ref 1), (3, .int (nI om)), (4, .int (nI r))] [] Y := by
      intro k
      induction k with
      | zero =>
        intro r Y hr h1 hF hT
        refine go hR [(8, [0, 1, 3, 4]), (18, [0, 1, 3, 4, 5])] 2 ?_
        simp only [↓reduceIte, Nat.reduceEqDiff, Nat.reduceAdd, Nat.reduceLeDiff, reduceCtorEq, and_true, true_and, false_and, and_false, true_or, or_true, or_false, false_or, true_implies, false_implies, implies_true, not_true_eq_false, not_false_eq_true, eq_self, fx_s, ↓run_s, run_0, ↓rs_n, ↓rs_c, as_s, ls_n, ls_c, lc_s, lget_c, fX1_follow_0, ↓ex_aload_n, ↓xR_r, ↓xRg_c, fX1_follow_1, ↓ex_iload_n, ↓xI_i, ↓xIg_c, fX1_follow_2, ↓ex_invokevirtual, ↓xc_0, ↓xc_s, ↓xc_1, ↓pk_s, ↓k_s, ↓k_n, catS_n, catS_c, rOk_c, ct_i, ct_l, ct_r, ↓pk_f, fX1_follow_5, ↓ex_iconst, fX1_follow_6, ↓ex_istore, ↓s1I_c, ↓lsto_e, ↓lrmK_n, ↓lrmK_f, fX1_follow_8, ↓ex_iload, fX1_follow_10, ↓ex_bipush, fX1_follow_12, ↓ex_if_icmp_ge, ↓s2I_c, fX1_follow_15, fX1_follow_16, fX1_follow_18, fX1_follow_20, fX1_follow_21, ↓ex_getfield, ↓s1R_c, ↓fv_0_4, fX1_follow_24, fX1_follow_27, fX1_follow_28, ↓fv_0_1, fX1_follow_31, fX1_follow_33, ↓ex_iaload, ↓sRI_c, ↓scrR_n, fX1_follow_34, fX1_follow_36, fX1_follow_37, fX1_follow_39, ↓ex_ishr, fX1_follow_40, fX1_follow_41, ↓ex_iand, fX1_follow_42, fX1_follow_43, ↓ex_if_icmp_ne, fX1_follow_46, fX1_follow_47, fX1_follow_48, fX1_follow_50, fX1_follow_53, ↓ex_goto, fX1_follow_56, fX1_follow_58, fX1_follow_60, fX1_follow_62, ↓ex_invokestatic, ↓pk_t, fX1_follow_65, ↓ex_ifCond_eq, fX1_follow_68, fX1_follow_70, fX1_follow_71, ↓fv_1_0, fX1_follow_74, fX1_follow_76, fX1_follow_77, fX1_follow_80, fX1_follow_81, fX1_follow_84, fX1_follow_86, fX1_follow_88, ↓ex_iastore, ↓sRII_c, fX1_follow_89, ↓ex_iinc, fX1_follow_92, fX1_follow_95, fX1_follow_98, fX1_follow_101, ↓ex_return_, ↓rt_v, leI, nI_toInt (n := r) (by omega), tI_m5, tI_m4, tI_m3, tI_m2, tI_m1, tI_0, tI_1, tI_2, tI_3, tI_4, tI_5, tI_7, tI_8, tI_10, tI_12, tI_30, tI_31, tI_32, tI_47, tI_48, tI_57, tI_59, tI_42, tI_43, tI_45, tI_61, tI_62, tI_100, tI_120, tI_255, tI_1000]
        refine ⟨fun _ => ?_, fun z => absurd (by omega) z⟩
        refine go hR [] 2 ?_
        simp only [↓reduceIte, Nat.reduceEqDiff, Nat.reduceAdd, Nat.reduceLeDiff, reduceCtorEq, and_true, true_and, false_and, and_false, true_or, or_true, or_false, false_or, true_implies, false_implies, implies_true, not_true_eq_false, not_false_eq_true, eq_self, fx_s, ↓run_s, run_0, ↓rs_n, ↓rs_c, as_s, ls_n, ls_c, lc_s, lget_c, fX1_follow_0, ↓ex_aload_n, ↓xR_r, ↓xRg_c, fX1_follow_1, ↓ex_iload_n, ↓xI_i, ↓xIg_c, fX1_follow_2, ↓ex_invokevirtual, ↓xc_0, ↓xc_s, ↓xc_1, ↓pk_s, ↓k_s, ↓k_n, catS_n, catS_c, rOk_c, ct_i, ct_l, ct_r, ↓pk_f, fX1_follow_5, ↓ex_iconst, fX1_follow_6, ↓ex_istore, ↓s1I_c, ↓lsto_e, ↓lrmK_n, ↓lrmK_f, fX1_follow_8, ↓ex_iload, fX1_follow_10, ↓ex_bipush, fX1_follow_12, ↓ex_if_icmp_ge, ↓s2I_c, fX1_follow_15, fX1_follow_16, fX1_follow_18, fX1_follow_20, fX1_follow_21, ↓ex_getfield, ↓s1R_c, ↓fv_0_4, fX1_follow_24, fX1_follow_27, fX1_follow_28, ↓fv_0_1, fX1_follow_31, fX1_follow_33, ↓ex_iaload, ↓sRI_c, ↓scrR_n, fX1_follow_34, fX1_follow_36, fX1_follow_37, fX1_follow_39, ↓ex_ishr, fX1_follow_40, fX1_follow_41, ↓ex_iand, fX1_follow_42, fX1_follow_43, ↓ex_if_icmp_ne, fX1_follow_46, fX1_follow_47, fX1_follow_48, fX1_follow_50, fX1_follow_53, ↓ex_goto, fX1_follow_56, fX1_follow_58, fX1_follow_60, fX1_follow_62, ↓ex_invokestatic, ↓pk_t, fX1_follow_65, ↓ex_ifCond_eq, fX1_follow_68, fX1_follow_70, fX1_follow_71, ↓fv_1_0, fX1_follow_74, fX1_follow_76, fX1_follow_77, fX1_follow_80, fX1_follow_81, fX1_follow_84, fX1_follow_86, fX1_follow_88, ↓ex_iastore, ↓sRII_c, fX1_follow_89, ↓ex_iinc, fX1_follow_92, fX1_follow_95, fX1_follow_98, fX1_follow_101, ↓ex_return_, ↓rt_v]
        refine hpost Y hF ?_
        have e : r - 1 = 7 := by omega
        rw [e] at hT
        exact hT
      | succ k ih =>
        intro r Y hr h1 hF hT
        refine go hR [(8, [0, 1, 3, 4]), (18, [0, 1, 3, 4, 5])] 2 ?_
        simp only [↓reduceIte, Nat.reduceEqDiff, Nat.reduceAdd, Nat.reduceLeDiff, reduceCtorEq, and_true, true_and, false_and, and_false, true_or, or_true, or_false, false_or, true_implies, false_implies, implies_true, not_true_eq_false, not_false_eq_true, eq_self, fx_s, ↓run_s, run_0, ↓rs_n, ↓rs_c, as_s, ls_n, ls_c, lc_s, lget_c, fX1_follow_0, ↓ex_aload_n, ↓xR_r, ↓xRg_c, fX1_follow_1, ↓ex_iload_n, ↓xI_i, ↓xIg_c, fX1_follow_2, ↓ex_invokevirtual, ↓xc_0, ↓xc_s, ↓xc_1, ↓pk_s, ↓k_s, ↓k_n, catS_n, catS_c, rOk_c, ct_i, ct_l, ct_r, ↓pk_f, fX1_follow_5, ↓ex_iconst, fX1_follow_6, ↓ex_istore, ↓s1I_c, ↓lsto_e, ↓lrmK_n, ↓lrmK_f, fX1_follow_8, ↓ex_iload, fX1_follow_10, ↓ex_bipush, fX1_follow_12, ↓ex_if_icmp_ge, ↓s2I_c, fX1_follow_15, fX1_follow_16, fX1_follow_18, fX1_follow_20, fX1_follow_21, ↓ex_getfield, ↓s1R_c, ↓fv_0_4, fX1_follow_24, fX1_follow_27, fX1_follow_28, ↓fv_0_1, fX1_follow_31, fX1_follow_33, ↓ex_iaload, ↓sRI_c, ↓scrR_n, fX1_follow_34, fX1_follow_36, fX1_follow_37, fX1_follow_39, ↓ex_ishr, fX1_follow_40, fX1_follow_41, ↓ex_iand, fX1_follow_42, fX1_follow_43, ↓ex_if_icmp_ne, fX1_follow_46, fX1_follow_47, fX1_follow_48, fX1_follow_50, fX1_follow_53, ↓ex_goto, fX1_follow_56, fX1_follow_58, fX1_follow_60, fX1_follow_62, ↓ex_invokestatic, ↓pk_t, fX1_follow_65, ↓ex_ifCond_eq, fX1_follow_68, fX1_follow_70, fX1_follow_71, ↓fv_1_0, fX1_follow_74, fX1_follow_76, fX1_follow_77, fX1_follow_80, fX1_follow_81, fX1_follow_84, fX1_follow_86, fX1_follow_88, ↓ex_iastore, ↓sRII_c, fX1_follow_89, ↓ex_iinc, fX1_follow_92, fX1_follow_95, fX1_follow_98, fX1_follow_101, ↓ex_return_, ↓rt_v, leI, nI_toInt (n := r) (by omega), tI_m5, tI_m4, tI_m3, tI_m2, tI_m1, tI_0, tI_1, tI_2, tI_3, tI_4, tI_5, tI_7, tI_8, tI_10, tI_12, tI_30, tI_31, tI_32, tI_47, tI_48, tI_57, tI_59, tI_42, tI_43, tI_45, tI_61, tI_62, tI_100, tI_120, tI_255, tI_1000]
        refine ⟨fun z => absurd z (by omega), fun _ => ?_⟩
        refine go hR [(8, [0, 1, 3, 4]), (18, [0, 1, 3, 4, 5])] 4 ?_
        simp only [↓reduceIte, Nat.reduceEqDiff, Nat.reduceAdd, Nat.reduceLeDiff, reduceCtorEq, and_true, true_and, false_and, and_false, true_or, or_true, or_false, false_or, true_implies, false_implies, implies_true, not_true_eq_false, not_false_eq_true, eq_self, fx_s, ↓run_s, run_0, ↓rs_n, ↓rs_c, as_s, ls_n, ls_c, lc_s, lget_c, fX1_follow_0, ↓ex_aload_n, ↓xR_r, ↓xRg_c, fX1_follow_1, ↓ex_iload_n, ↓xI_i, ↓xIg_c, fX1_follow_2, ↓ex_invokevirtual, ↓xc_0, ↓xc_s, ↓xc_1, ↓pk_s, ↓k_s, ↓k_n, catS_n, catS_c, rOk_c, ct_i, ct_l, ct_r, ↓pk_f, fX1_follow_5, ↓ex_iconst, fX1_follow_6, ↓ex_istore, ↓s1I_c, ↓lsto_e, ↓lrmK_n, ↓lrmK_f, fX1_follow_8, ↓ex_iload, fX1_follow_10, ↓ex_bipush, fX1_follow_12, ↓ex_if_icmp_ge, ↓s2I_c, fX1_follow_15, fX1_follow_16, fX1_follow_18, fX1_follow_20, fX1_follow_21, ↓ex_getfield, ↓s1R_c, ↓fv_0_4, fX1_follow_24, fX1_follow_27, fX1_follow_28, ↓fv_0_1, fX1_follow_31, fX1_follow_33, ↓ex_iaload, ↓sRI_c, ↓scrR_n, fX1_follow_34, fX1_follow_36, fX1_follow_37, fX1_follow_39, ↓ex_ishr, fX1_follow_40, fX1_follow_41, ↓ex_iand, fX1_follow_42, fX1_follow_43, ↓ex_if_icmp_ne, fX1_follow_46, fX1_follow_47, fX1_follow_48, fX1_follow_50, fX1_follow_53, ↓ex_goto, fX1_follow_56, fX1_follow_58, fX1_follow_60, fX1_follow_62, ↓ex_invokestatic, ↓pk_t, fX1_follow_65, ↓ex_ifCond_eq, fX1_follow_68, fX1_follow_70, fX1_follow_71, ↓fv_1_0, fX1_follow_74, fX1_follow_76, fX1_follow_77, fX1_follow_80, fX1_follow_81, fX1_follow_84, fX1_follow_86, fX1_follow_88, ↓ex_iastore, ↓sRII_c, fX1_follow_89, ↓ex_iinc, fX1_follow_92, fX1_follow_95, fX1_follow_98, fX1_follow_101, ↓ex_return_, ↓rt_v]
        refine (inner r (folR s m om (r - 1)) (by omega) (fun Z hZ hTZ => ih (r + 1) Z (by omega) (by omega) hZ ?_) s.n 0 Y (by omega) hF hT)
        have e : r + 1 - 1 = (r - 1) + 1 := by omega
        rw [e]
        exact hTZ
    refine go hR [(8, [0, 1, 3, 4])] 60 ?_
    simp only [lv_args, ↓reduceIte, Nat.reduceEqDiff, Nat.reduceAdd, Nat.reduceLeDiff, reduceCtorEq, and_true, true_and, false_and, and_false, true_or, or_true, or_false, false_or, true_implies, false_implies, implies_true, not_true_eq_false, not_false_eq_true, eq_self, fx_s, ↓run_s, run_0, ↓rs_n, ↓rs_c, as_s, ls_n, ls_c, lc_s, lget_c, fX1_follow_0, ↓ex_aload_n, ↓xR_r, ↓xRg_c, fX1_follow_1, ↓ex_iload_n, ↓xI_i, ↓xIg_c, fX1_follow_2, ↓ex_invokevirtual, ↓xc_0, ↓xc_s, ↓xc_1, ↓pk_s, ↓k_s, ↓k_n, catS_n, catS_c, rOk_c, ct_i, ct_l, ct_r, ↓pk_f, fX1_follow_5, ↓ex_iconst, fX1_follow_6, ↓ex_istore, ↓s1I_c, ↓lsto_e, ↓lrmK_n, ↓lrmK_f, fX1_follow_8, ↓ex_iload, fX1_follow_10, ↓ex_bipush, fX1_follow_12, ↓ex_if_icmp_ge, ↓s2I_c, fX1_follow_15, fX1_follow_16, fX1_follow_18, fX1_follow_20, fX1_follow_21, ↓ex_getfield, ↓s1R_c, ↓fv_0_4, fX1_follow_24, fX1_follow_27, fX1_follow_28, ↓fv_0_1, fX1_follow_31, fX1_follow_33, ↓ex_iaload, ↓sRI_c, ↓scrR_n, fX1_follow_34, fX1_follow_36, fX1_follow_37, fX1_follow_39, ↓ex_ishr, fX1_follow_40, fX1_follow_41, ↓ex_iand, fX1_follow_42, fX1_follow_43, ↓ex_if_icmp_ne, fX1_follow_46, fX1_follow_47, fX1_follow_48, fX1_follow_50, fX1_follow_53, ↓ex_goto, fX1_follow_56, fX1_follow_58, fX1_follow_60, fX1_follow_62, ↓ex_invokestatic, ↓pk_t, fX1_follow_65, ↓ex_ifCond_eq, fX1_follow_68, fX1_follow_70, fX1_follow_71, ↓fv_1_0, fX1_follow_74, fX1_follow_76, fX1_follow_77, fX1_follow_80, fX1_follow_81, fX1_follow_84, fX1_follow_86, fX1_follow_88, ↓ex_iastore, ↓sRII_c, fX1_follow_89, ↓ex_iinc, fX1_follow_92, fX1_follow_95, fX1_follow_98, fX1_follow_101, ↓ex_return_, ↓rt_v, p8, q8, ↓C_X1_begin, ↓reduceIte, not_true_eq_false, not_false_eq_true, false_implies, true_implies, implies_true, and_true, true_and, and_false, false_and, or_true, true_or, or_false, false_or, Classical.not_not, ite_true, ite_false]
    exact ⟨m, ⟨rfl, hm⟩, fun Y hF hT => outer 7 1 Y (by omega) (by omega) hF hT⟩
  next => exact hC.elim)
/-- can the times still become as wanted, where those yet to change will not lie before nx? -/
def canN (w t : Nat → Nat) (nx : Nat) : Prop := ∀ v, v < 8 → w v = 100 ∨ ¬ (t v < w v ∨ (w v < t v ∧ w v < nx))
noncomputable def C_X1_canBeAsWanted : CT := fun As X K => match As with
  | [.ref b, .int x] => ∃ (w t : Nat → Nat) (nx : Nat), (b = 8 ∧ WN X w ∧ TM X t ∧ x = nI nx ∧ nx ≤ 31) ∧ K (some (.int (b2i (canN w t nx)))) X
  | _ => False
set_option maxRecDepth 20000 in
set_option maxHeartbeats 4000000 in
theorem d_X1_canBeAsWanted (l : Launch) : Does l yX1_canBeAsWanted (wY yX1_canBeAsWanted cX1_canBeAsWanted 5 (retT 1)) (rmF 0) C_X1_canBeAsWanted := does_of (rt := 1) (by decide +kernel) tkX1_canBeAsWanted (calls := []) (fun _ h => absurd h List.not_mem_nil) (by
  intro As X post hC
  unfold C_X1_canBeAsWanted at hC
  split at hC
  next b x =>
    obtain ⟨w, t, nx, ⟨rfl, hw, ht, rfl, hn⟩, hC⟩ := hC
    refine ⟨Nat.le_of_ble_eq_true rfl, fun R hR => ?_⟩
    obtain ⟨⟨p8, p9, p10, p11⟩, q8, q9, q10, q11⟩ := sh_sp
    have f0 : ¬ canN w t nx → post (some (.int 0)) X := fun h => by rw [b2i_f h] at hC; exact hC
    have f1 : canN w t nx → post (some (.int 1)) X := fun h => by rw [b2i_t h] at hC; exact hC
    have key : ∀ k i, i + k = 8 → (∀ v, v < i → w v = 100 ∨ ¬ (t v < w v ∨ (w v < t v ∧ w v < nx))) → R 2 [(0, .ref 8), (1, .int (nI nx)), (2, .int (nI i))] [] X := by
      intro k
      induction k with
      | zero =>
        intro i hi hV
        refine go hR [(2, [0, 1, 2])] 2 ?_
        simp only [↓reduceIte, Nat.reduceEqDiff, Nat.reduceAdd, Nat.reduceLeDiff, reduceCtorEq, and_true, true_and, false_and, and_false, true_or, or_true, or_false, false_or, true_implies, false_implies, implies_true, not_true_eq_false, not_false_eq_true, eq_self, fx_s, ↓run_s, run_0, ↓rs_n, ↓rs_c, as_s, ls_n, ls_c, lc_s, lget_c, fX1_canBeAsWanted_0, ↓ex_iconst, fX1_canBeAsWanted_1, ↓ex_istore_n, ↓s1I_c, ↓lsto_e, ↓lrmK_n, ↓lrmK_f, ct_i, ct_l, ct_r, fX1_canBeAsWanted_2, ↓ex_iload_n, ↓xI_i, ↓xIg_c, fX1_canBeAsWanted_3, ↓ex_bipush, fX1_canBeAsWanted_5, ↓ex_if_icmp_ge, ↓s2I_c, fX1_canBeAsWanted_8, ↓ex_aload_n, ↓xR_r, ↓xRg_c, fX1_canBeAsWanted_9, ↓ex_getfield, ↓s1R_c, ↓fv_1_1, fX1_canBeAsWanted_12, fX1_canBeAsWanted_13, ↓ex_iaload, ↓sRI_c, ↓scrR_n, fX1_canBeAsWanted_14, fX1_canBeAsWanted_15, fX1_canBeAsWanted_16, fX1_canBeAsWanted_18, ↓ex_if_icmp_ne, fX1_canBeAsWanted_21, ↓ex_goto, fX1_canBeAsWanted_24, fX1_canBeAsWanted_25, ↓fv_1_0, fX1_canBeAsWanted_28, fX1_canBeAsWanted_29, fX1_canBeAsWanted_30, ↓ex_istore, fX1_canBeAsWanted_32, ↓ex_iload, fX1_canBeAsWanted_34, fX1_canBeAsWanted_35, ↓ex_if_icmp_lt, fX1_canBeAsWanted_38, fX1_canBeAsWanted_40, fX1_canBeAsWanted_41, ↓ex_if_icmp_le, fX1_canBeAsWanted_44, fX1_canBeAsWanted_45, fX1_canBeAsWanted_46, fX1_canBeAsWanted_49, fX1_canBeAsWanted_50, ↓ex_ireturn, ↓rt_i, fX1_canBeAsWanted_51, ↓ex_iinc, fX1_canBeAsWanted_54, fX1_canBeAsWanted_57, fX1_canBeAsWanted_58, leI, nI_toInt (n := i) (by omega), tI_m5, tI_m4, tI_m3, tI_m2, tI_m1, tI_0, tI_1, tI_2, tI_3, tI_4, tI_5, tI_7, tI_8, tI_10, tI_12, tI_30, tI_31, tI_32, tI_47, tI_48, tI_57, tI_59, tI_42, tI_43, tI_45, tI_61, tI_62, tI_100, tI_120, tI_255, tI_1000]
        refine ⟨fun _ => ?_, fun z => absurd (by omega) z⟩
        refine go hR [] 3 ?_
        simp only [↓reduceIte, Nat.reduceEqDiff, Nat.reduceAdd, Nat.reduceLeDiff, reduceCtorEq, and_true, true_and, false_and, and_false, true_or, or_true, or_false, false_or, true_implies, false_implies, implies_true, not_true_eq_false, not_false_eq_true, eq_self, fx_s, ↓run_s, run_0, ↓rs_n, ↓rs_c, as_s, ls_n, ls_c, lc_s, lget_c, fX1_canBeAsWanted_0, ↓ex_iconst, fX1_canBeAsWanted_1, ↓ex_istore_n, ↓s1I_c, ↓lsto_e, ↓lrmK_n, ↓lrmK_f, ct_i, ct_l, ct_r, fX1_canBeAsWanted_2, ↓ex_iload_n, ↓xI_i, ↓xIg_c, fX1_canBeAsWanted_3, ↓ex_bipush, fX1_canBeAsWanted_5, ↓ex_if_icmp_ge, ↓s2I_c, fX1_canBeAsWanted_8, ↓ex_aload_n, ↓xR_r, ↓xRg_c, fX1_canBeAsWanted_9, ↓ex_getfield, ↓s1R_c, ↓fv_1_1, fX1_canBeAsWanted_12, fX1_canBeAsWanted_13, ↓ex_iaload, ↓sRI_c, ↓scrR_n, fX1_canBeAsWanted_14, fX1_canBeAsWanted_15, fX1_canBeAsWanted_16, fX1_canBeAsWanted_18, ↓ex_if_icmp_ne, fX1_canBeAsWanted_21, ↓ex_goto, fX1_canBeAsWanted_24, fX1_canBeAsWanted_25, ↓fv_1_0, fX1_canBeAsWanted_28, fX1_canBeAsWanted_29, fX1_canBeAsWanted_30, ↓ex_istore, fX1_canBeAsWanted_32, ↓ex_iload, fX1_canBeAsWanted_34, fX1_canBeAsWanted_35, ↓ex_if_icmp_lt, fX1_canBeAsWanted_38, fX1_canBeAsWanted_40, fX1_canBeAsWanted_41, ↓ex_if_icmp_le, fX1_canBeAsWanted_44, fX1_canBeAsWanted_45, fX1_canBeAsWanted_46, fX1_canBeAsWanted_49, fX1_canBeAsWanted_50, ↓ex_ireturn, ↓rt_i, fX1_canBeAsWanted_51, ↓ex_iinc, fX1_canBeAsWanted_54, fX1_canBeAsWanted_57, fX1_canBeAsWanted_58]
        exact ⟨bl_1, f1 (fun v hv => hV v (by omega))⟩
      | succ k ih =>
        intro i hi hV
        refine go hR [(2, [0, 1, 2])] 60 ?_
        obtain ⟨a1, a2⟩ := hw i (by omega)
        obtain ⟨b1, b2⟩ := ht i (by omega)
        simp only [↓reduceIte, Nat.reduceEqDiff, Nat.reduceAdd, Nat.reduceLeDiff, reduceCtorEq, and_true, true_and, false_and, and_false, true_or, or_true, or_false, false_or, true_implies, false_implies, implies_true, not_true_eq_false, not_false_eq_true, eq_self, fx_s, ↓run_s, run_0, ↓rs_n, ↓rs_c, as_s, ls_n, ls_c, lc_s, lget_c, fX1_canBeAsWanted_0, ↓ex_iconst, fX1_canBeAsWanted_1, ↓ex_istore_n, ↓s1I_c, ↓lsto_e, ↓lrmK_n, ↓lrmK_f, ct_i, ct_l, ct_r, fX1_canBeAsWanted_2, ↓ex_iload_n, ↓xI_i, ↓xIg_c, fX1_canBeAsWanted_3, ↓ex_bipush, fX1_canBeAsWanted_5, ↓ex_if_icmp_ge, ↓s2I_c, fX1_canBeAsWanted_8, ↓ex_aload_n, ↓xR_r, ↓xRg_c, fX1_canBeAsWanted_9, ↓ex_getfield, ↓s1R_c, ↓fv_1_1, fX1_canBeAsWanted_12, fX1_canBeAsWanted_13, ↓ex_iaload, ↓sRI_c, ↓scrR_n, fX1_canBeAsWanted_14, fX1_canBeAsWanted_15, fX1_canBeAsWanted_16, fX1_canBeAsWanted_18, ↓ex_if_icmp_ne, fX1_canBeAsWanted_21, ↓ex_goto, fX1_canBeAsWanted_24, fX1_canBeAsWanted_25, ↓fv_1_0, fX1_canBeAsWanted_28, fX1_canBeAsWanted_29, fX1_canBeAsWanted_30, ↓ex_istore, fX1_canBeAsWanted_32, ↓ex_iload, fX1_canBeAsWanted_34, fX1_canBeAsWanted_35, ↓ex_if_icmp_lt, fX1_canBeAsWanted_38, fX1_canBeAsWanted_40, fX1_canBeAsWanted_41, ↓ex_if_icmp_le, fX1_canBeAsWanted_44, fX1_canBeAsWanted_45, fX1_canBeAsWanted_46, fX1_canBeAsWanted_49, fX1_canBeAsWanted_50, ↓ex_ireturn, ↓rt_i, fX1_canBeAsWanted_51, ↓ex_iinc, fX1_canBeAsWanted_54, fX1_canBeAsWanted_57, fX1_canBeAsWanted_58, p8, p9, p10, q8, q9, q10, show (8 : Int32) = nI 8 from rfl, show (100 : Int32) = nI 100 from rfl, clampN (n := i) (by omega), add1N, a1, b1, leN (a := 8) (b := i) (by omega) (by omega), eqN (a := w i) (b := 100) (by omega) (by omega), ltN (a := t i) (b := w i) (by omega) (by omega), leN (a := t i) (b := w i) (by omega) (by omega), leN (a := nx) (b := w i) (by omega) (by omega)]
        have hv : vp_in (nI i) 8 := vp_inN (by omega) (by omega)
        have nxt : (w i = 100 ∨ ¬ (t i < w i ∨ (w i < t i ∧ w i < nx))) → R 2 [(0, .ref 8), (1, .int (nI nx)), (2, .int (nI (i + 1)))] [] X := fun h => ih (i + 1) (by omega) (fun v hv => by
          by_cases e : v = i
          · rw [e]; exact h
          · exact hV v (by omega))
        have bad : ¬ (w i = 100 ∨ ¬ (t i < w i ∨ (w i < t i ∧ w i < nx))) → post (some (.int 0)) X := fun h => f0 (fun z => h (z i (by omega)))
        have hb0 := bl_0
        refine ⟨fun z => absurd z (by omega), fun _ => ⟨hv, ?_⟩⟩
        repeat' (first | exact hv | apply And.intro | intro _)
        all_goals first | exact hb0 | exact nxt (by omega) | exact bad (by omega)
    refine go hR [(2, [0, 1, 2])] 60 ?_
    simp only [lv_args, ↓reduceIte, Nat.reduceEqDiff, Nat.reduceAdd, Nat.reduceLeDiff, reduceCtorEq, and_true, true_and, false_and, and_false, true_or, or_true, or_false, false_or, true_implies, false_implies, implies_true, not_true_eq_false, not_false_eq_true, eq_self, fx_s, ↓run_s, run_0, ↓rs_n, ↓rs_c, as_s, ls_n, ls_c, lc_s, lget_c, fX1_canBeAsWanted_0, ↓ex_iconst, fX1_canBeAsWanted_1, ↓ex_istore_n, ↓s1I_c, ↓lsto_e, ↓lrmK_n, ↓lrmK_f, ct_i, ct_l, ct_r, fX1_canBeAsWanted_2, ↓ex_iload_n, ↓xI_i, ↓xIg_c, fX1_canBeAsWanted_3, ↓ex_bipush, fX1_canBeAsWanted_5, ↓ex_if_icmp_ge, ↓s2I_c, fX1_canBeAsWanted_8, ↓ex_aload_n, ↓xR_r, ↓xRg_c, fX1_canBeAsWanted_9, ↓ex_getfield, ↓s1R_c, ↓fv_1_1, fX1_canBeAsWanted_12, fX1_canBeAsWanted_13, ↓ex_iaload, ↓sRI_c, ↓scrR_n, fX1_canBeAsWanted_14, fX1_canBeAsWanted_15, fX1_canBeAsWanted_16, fX1_canBeAsWanted_18, ↓ex_if_icmp_ne, fX1_canBeAsWanted_21, ↓ex_goto, fX1_canBeAsWanted_24, fX1_canBeAsWanted_25, ↓fv_1_0, fX1_canBeAsWanted_28, fX1_canBeAsWanted_29, fX1_canBeAsWanted_30, ↓ex_istore, fX1_canBeAsWanted_32, ↓ex_iload, fX1_canBeAsWanted_34, fX1_canBeAsWanted_35, ↓ex_if_icmp_lt, fX1_canBeAsWanted_38, fX1_canBeAsWanted_40, fX1_canBeAsWanted_41, ↓ex_if_icmp_le, fX1_canBeAsWanted_44, fX1_canBeAsWanted_45, fX1_canBeAsWanted_46, fX1_canBeAsWanted_49, fX1_canBeAsWanted_50, ↓ex_ireturn, ↓rt_i, fX1_canBeAsWanted_51, ↓ex_iinc, fX1_canBeAsWanted_54, fX1_canBeAsWanted_57, fX1_canBeAsWanted_58]
    exact key 8 0 (by omega) (fun v hv => absurd hv (by omega))
  next => exact hC.elim)
noncomputable def C_X1_isAsWanted : CT := fun As X K => match As with
  | [.ref b] => ∃ (w t : Nat → Nat), (b = 8 ∧ WN X w ∧ TM X t) ∧ K (some (.int (b2i (canN w t 31)))) X
  | _ => False
set_option maxRecDepth 20000 in
set_option maxHeartbeats 4000000 in
theorem d_X1_isAsWanted (l : Launch) : Does l yX1_isAsWanted (wY yX1_isAsWanted cX1_isAsWanted 1 (retT 1)) (rmF 1) C_X1_isAsWanted := does_of (rt := 1) (by decide +kernel) tkX1_isAsWanted (calls := [(75, false, 2, 1, C_X1_canBeAsWanted)]) (List.forall_mem_cons.mpr ⟨cr_V (d_X1_canBeAsWanted l) rfl (by decide +kernel) (by decide +kernel) ⟨rfl, rfl⟩ ⟨Nat.le_of_ble_eq_true rfl, Nat.le_of_ble_eq_true rfl⟩, fun _ h => absurd h List.not_mem_nil⟩) (by
  intro As X post hC
  unfold C_X1_isAsWanted at hC
  split at hC
  next b =>
    obtain ⟨w, t, ⟨rfl, hw, ht⟩, hC⟩ := hC
    refine ⟨Nat.le_of_ble_eq_true rfl, fun R hR => ?_⟩
    obtain ⟨⟨p8, p9, p10, p11⟩, q8, q9, q10, q11⟩ := sh_sp
    refine go hR [] 60 ?_
    simp only [lv_args, ↓reduceIte, Nat.reduceEqDiff, Nat.reduceAdd, Nat.reduceLeDiff, reduceCtorEq, and_true, true_and, false_and, and_false, true_or, or_true, or_false, false_or, true_implies, false_implies, implies_true, not_true_eq_false, not_false_eq_true, eq_self, fx_s, ↓run_s, run_0, ↓rs_n, ↓rs_c, as_s, ls_n, ls_c, lc_s, lget_c, fX1_isAsWanted_0, ↓ex_aload_n, ↓xR_r, ↓xRg_c, fX1_isAsWanted_1, ↓ex_bipush, fX1_isAsWanted_3, ↓ex_invokevirtual, ↓xc_0, ↓xc_s, ↓xc_1, ↓pk_s, ↓k_s, ↓k_n, catS_n, catS_c, rOk_c, ct_i, ct_l, ct_r, ↓pk_f, fX1_isAsWanted_6, ↓ex_ireturn, ↓rt_i, p8, q8, ↓C_X1_canBeAsWanted, ↓reduceIte, not_true_eq_false, not_false_eq_true, false_implies, true_implies, implies_true, and_true, true_and, and_false, false_and, or_true, true_or, or_false, false_or, Classical.not_not, ite_true, ite_false]
    exact ⟨w, t, 31, ⟨hw, ht, rfl, by omega⟩, bl_b2i _, hC⟩
  next => exact hC.elim)
end SPREAD2
