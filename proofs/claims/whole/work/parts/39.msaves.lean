section MSAVES
theorem sub0N (k : Nat) : nI k - 0 = nI k := pk_sub (a := k) (b := 0) (by omega)
def MS (Y : XT) (g : SG) : Prop := okG g ∧ RSf (Y.1 52) g.now ∧ (∀ j, j < g.kept → RSf (fun k => Y.1 52 (59 * (j + 1) + k)) (g.hist j)) ∧ Y.1 51 7 = nI g.size ∧ ∀ i, i < g.size → Y.1 56 i = g.bytes i
noncomputable def C_X4_saves : CT := fun As X K => match As with
  | [.ref r] => ∃ g : SG, (r = 51 ∧ RelM X g) ∧ ∀ X', RelM X' (s_rem g) → Fr (fun k => k = 51 ∨ k = 52) X X' → X'.1 51 2 = 0 → K none X'
  | _ => False
set_option maxRecDepth 20000 in
set_option maxHeartbeats 4000000 in
theorem d_X4_saves (l : Launch) : Does l yX4_saves (wY yX4_saves cX4_saves 2 (retT 3)) (rmF 1) C_X4_saves := does_of (rt := 3) (by decide +kernel) tkX4_saves (calls := [(34, false, 3, 4, C_X4_copies)]) (List.forall_mem_cons.mpr ⟨cr_V (d_X4_copies l) rfl (by decide +kernel) (by decide +kernel) ⟨rfl, rfl⟩ ⟨Nat.le_of_ble_eq_true rfl, Nat.le_of_ble_eq_true rfl⟩, fun _ h => absurd h List.not_mem_nil⟩) (by
  intro As X post hC
  unfold C_X4_saves at hC
  split at hC
  next r =>
    obtain ⟨g, ⟨rfl, hR0⟩, hpost⟩ := hC
    refine ⟨Nat.le_of_ble_eq_true rfl, fun R hR => ?_⟩
    obtain ⟨⟨p1, p2, p3, p4, p5, p6, p7⟩, q1, q2, q3, q4, q5, q6, q7⟩ := sh_m
    have fin : ∀ Y g' lv, MS Y g' → g'.kept < 5 → Fr (fun k => k = 51 ∨ k = 52) X Y → Y.1 51 1 = nI (g'.kept + 1) → s_rem0 g' = s_rem g → R 61 ((0, .ref 51) :: lv) [] Y := by
      intro Y g' lv hM hk hF h51 he
      obtain ⟨⟨w1, w2, w3, w4⟩, m1, m2, m3, m4⟩ := hM
      refine go hR [] 60 ?_
      simp only [↓reduceIte, Nat.reduceEqDiff, Nat.reduceAdd, Nat.reduceLeDiff, reduceCtorEq, and_true, true_and, false_and, and_false, true_or, or_true, or_false, false_or, true_implies, false_implies, implies_true, not_true_eq_false, not_false_eq_true, eq_self, fx_s, ↓run_s, run_0, ↓rs_n, ↓rs_c, as_s, ls_n, ls_c, lc_s, lget_c, fX4_saves_0, ↓ex_iconst, fX4_saves_1, ↓ex_istore_n, ↓s1I_c, ↓lsto_e, ↓lrmK_n, ↓lrmK_f, ct_i, ct_l, ct_r, fX4_saves_2, ↓ex_iload_n, ↓xI_i, ↓xIg_c, fX4_saves_3, fX4_saves_4, ↓ex_if_icmp_ge, ↓s2I_c, fX4_saves_7, ↓ex_aload_n, ↓xR_r, ↓xRg_c, fX4_saves_8, ↓ex_getfield, ↓s1R_c, ↓fv_4_1, fX4_saves_11, fX4_saves_12, ↓ex_if_icmp_ne, fX4_saves_15, fX4_saves_16, fX4_saves_17, fX4_saves_18, ↓ex_iadd, fX4_saves_19, fX4_saves_20, ↓ex_invokevirtual, ↓xc_0, ↓xc_s, ↓xc_1, ↓pk_s, ↓k_s, ↓k_n, catS_n, catS_c, rOk_c, ↓pk_f, fX4_saves_23, ↓ex_iinc, fX4_saves_26, ↓ex_goto, fX4_saves_29, fX4_saves_30, ↓ex_dup, fX4_saves_31, fX4_saves_34, fX4_saves_35, fX4_saves_38, fX4_saves_39, fX4_saves_42, fX4_saves_43, fX4_saves_46, fX4_saves_47, ↓ex_isub, fX4_saves_48, ↓ex_putfield, ↓pf_4_1, fX4_saves_51, fX4_saves_52, fX4_saves_53, fX4_saves_56, fX4_saves_57, fX4_saves_58, fX4_saves_61, fX4_saves_62, fX4_saves_63, fX4_saves_64, fX4_saves_67, fX4_saves_70, fX4_saves_71, fX4_saves_72, ↓pf_4_2, fX4_saves_75, ↓ex_return_, ↓rt_v, p1, q1, ↓C_X4_copies, h51, ↓reduceIte, not_true_eq_false, not_false_eq_true, false_implies, true_implies, implies_true, and_true, true_and, and_false, false_and, or_true, true_or, or_false, false_or, Classical.not_not, ite_true, ite_false]
      refine ⟨0, g'.kept + 1, ⟨rfl, rfl, by omega, by omega, by omega⟩, fun Z hZ z1 z2 => ⟨bl_0, ?_⟩⟩
      have e51 : Z.1 51 = Y.1 51 := hZ.1 51 (by decide)
      have e56 : Z.1 56 = Y.1 56 := hZ.1 56 (by decide)
      refine hpost _ ?_ ⟨fun k hk => ?_, fun k hk => ?_, ?_⟩ (by simp [sI_1, upd_a])
      · rw [← he]
        refine ⟨⟨w1, (by show g'.kept + 1 ≤ 5; omega), fun j hj => ?_, w4⟩, ?_, ?_, fun j hj => ?_, ?_, fun i hi => ?_, fun z => ?_⟩
        · show WF (if j = g'.kept then g'.now else g'.hist j)
          have hj' : j < g'.kept + 1 := hj
          split
          · exact w1
          · exact w3 j (by omega)
        · exact m1.cg w1.1 (fun k hk => by rw [sI_1, if_neg (by decide)]; exact z2 k (by omega))
        · simp [sI_1, upd_a, e51, h51, s_rem0]
        · have hj' : j < g'.kept + 1 := hj
          show RSf _ (if j = g'.kept then g'.now else g'.hist j)
          split
          next e =>
            subst e
            refine m1.cg w1.1 (fun k hk => ?_)
            show (sI Z 51 2 0).1 52 (59 * (g'.kept + 1) + k) = _
            rw [sI_1, if_neg (by decide), z1 k hk]
            rw [Nat.mul_zero, Nat.zero_add]
          next e =>
            refine (m2 j (by omega)).cg (w3 j (by omega)).1 (fun k hk => ?_)
            show (sI Z 51 2 0).1 52 (59 * (j + 1) + k) = _
            rw [sI_1, if_neg (by decide), z2 _ (by omega)]
        · simp [sI_1, upd_a, e51, m3, s_rem0]
        · rw [sI_1, if_neg (by decide), e56]; exact m4 i hi
        · exact absurd (by simp [sI_1, upd_a]) z
      · rw [sI_1, if_neg (fun z => hk (Or.inl z)), hZ.1 k (fun z => hk (Or.inr z))]; exact hF.1 k hk
      · show Z.2.1 k = _
        rw [hZ.2.1 k (fun z => hk (Or.inr z))]; exact hF.2.1 k hk
      · show Z.2.2 = _
        rw [hZ.2.2]; exact hF.2.2
    obtain ⟨⟨w1, w2, w3, w4⟩, m1, m2, m3, m4, m5, m6⟩ := id hR0
    by_cases hk5 : g.kept = 5
    · have key : ∀ q i Y, i + q = 5 → 1 ≤ i → Fr (fun k => k = 52) X Y → (∀ j k, 1 ≤ j → j < i → k < 59 → Y.1 52 (59 * j + k) = X.1 52 (59 * (j + 1) + k)) → (∀ p, p < 59 ∨ 59 * i ≤ p → Y.1 52 p = X.1 52 p) → R 2 [(0, .ref 51), (1, .int (nI i))] [] Y := by
        intro q
        induction q with
        | zero =>
          intro i Y hi h1 hF a1 a2
          have hi5 : i = 5 := by omega
          subst hi5
          have e51 : Y.1 51 = X.1 51 := hF.1 51 (by decide)
          have e56 : Y.1 56 = X.1 56 := hF.1 56 (by decide)
          refine go hR [(2, [0, 1]), (61, [0])] 80 ?_
          simp only [↓reduceIte, Nat.reduceEqDiff, Nat.reduceAdd, Nat.reduceLeDiff, reduceCtorEq, and_true, true_and, false_and, and_false, true_or, or_true, or_false, false_or, true_implies, false_implies, implies_true, not_true_eq_false, not_false_eq_true, eq_self, fx_s, ↓run_s, run_0, ↓rs_n, ↓rs_c, as_s, ls_n, ls_c, lc_s, lget_c, fX4_saves_0, ↓ex_iconst, fX4_saves_1, ↓ex_istore_n, ↓s1I_c, ↓lsto_e, ↓lrmK_n, ↓lrmK_f, ct_i, ct_l, ct_r, fX4_saves_2, ↓ex_iload_n, ↓xI_i, ↓xIg_c, fX4_saves_3, fX4_saves_4, ↓ex_if_icmp_ge, ↓s2I_c, fX4_saves_7, ↓ex_aload_n, ↓xR_r, ↓xRg_c, fX4_saves_8, ↓ex_getfield, ↓s1R_c, ↓fv_4_1, fX4_saves_11, fX4_saves_12, ↓ex_if_icmp_ne, fX4_saves_15, fX4_saves_16, fX4_saves_17, fX4_saves_18, ↓ex_iadd, fX4_saves_19, fX4_saves_20, ↓ex_invokevirtual, ↓xc_0, ↓xc_s, ↓xc_1, ↓pk_s, ↓k_s, ↓k_n, catS_n, catS_c, rOk_c, ↓pk_f, fX4_saves_23, ↓ex_iinc, fX4_saves_26, ↓ex_goto, fX4_saves_29, fX4_saves_30, ↓ex_dup, fX4_saves_31, fX4_saves_34, fX4_saves_35, fX4_saves_38, fX4_saves_39, fX4_saves_42, fX4_saves_43, fX4_saves_46, fX4_saves_47, ↓ex_isub, fX4_saves_48, ↓ex_putfield, ↓pf_4_1, fX4_saves_51, fX4_saves_52, fX4_saves_53, fX4_saves_56, fX4_saves_57, fX4_saves_58, fX4_saves_61, fX4_saves_62, fX4_saves_63, fX4_saves_64, fX4_saves_67, fX4_saves_70, fX4_saves_71, fX4_saves_72, ↓pf_4_2, fX4_saves_75, ↓ex_return_, ↓rt_v, p1, q1, e51, m2, hk5, show nI 5 = 5 from rfl, sI_1, upd_a, ↓reduceIte, not_true_eq_false, not_false_eq_true, false_implies, true_implies, implies_true, and_true, true_and, and_false, false_and, or_true, true_or, or_false, false_or, Classical.not_not, ite_true, ite_false]
          refine ⟨fun _ => ?_, fun z => absurd (by decide) z⟩
          refine fin _ (s_shift g) _ ⟨⟨w1, (by show 4 ≤ 5; omega), fun j hj => w3 (j + 1) (by have : j < 4 := hj; omega), w4⟩, ?_, fun j hj => ?_, ?_, fun i hi => ?_⟩ (by show 4 < 5; omega) ⟨fun k hk => ?_, fun k hk => ?_, ?_⟩ ?_ (by unfold s_rem; rw [if_pos hk5])
          · exact m1.cg w1.1 (fun k hk => by simp only [sI_1]; rw [if_neg (by decide), if_neg (by decide)]; exact a2 k (by omega))
          · have hj4 : j < 4 := hj
            refine (m3 (j + 1) (by omega)).cg (w3 (j + 1) (by omega)).1 (fun k hk => ?_)
            simp only [sI_1]
            rw [if_neg (by decide), if_neg (by decide)]
            exact a1 (j + 1) k (by omega) (by omega) hk
          · simp [sI_1, upd_a, e51, m4, s_shift]
          · simp only [sI_1]
            rw [if_neg (by decide), if_neg (by decide), e56]; exact m5 i hi
          · simp only [sI_1]
            rw [if_neg (fun z => hk (Or.inl z)), if_neg (fun z => hk (Or.inl z))]
            exact hF.1 k (fun z => hk (Or.inr z))
          · exact hF.2.1 k (fun z => hk (Or.inr z))
          · exact hF.2.2
          · simp [sI_1, upd_a, s_shift]; rfl
        | succ q ih =>
          intro i Y hi h1 hF a1 a2
          have e51 : Y.1 51 = X.1 51 := hF.1 51 (by decide)
          refine go hR [(2, [0, 1]), (61, [0])] 80 ?_
          simp only [↓reduceIte, Nat.reduceEqDiff, Nat.reduceAdd, Nat.reduceLeDiff, reduceCtorEq, and_true, true_and, false_and, and_false, true_or, or_true, or_false, false_or, true_implies, false_implies, implies_true, not_true_eq_false, not_false_eq_true, eq_self, fx_s, ↓run_s, run_0, ↓rs_n, ↓rs_c, as_s, ls_n, ls_c, lc_s, lget_c, fX4_saves_0, ↓ex_iconst, fX4_saves_1, ↓ex_istore_n, ↓s1I_c, ↓lsto_e, ↓lrmK_n, ↓lrmK_f, ct_i, ct_l, ct_r, fX4_saves_2, ↓ex_iload_n, ↓xI_i, ↓xIg_c, fX4_saves_3, fX4_saves_4, ↓ex_if_icmp_ge, ↓s2I_c, fX4_saves_7, ↓ex_aload_n, ↓xR_r, ↓xRg_c, fX4_saves_8, ↓ex_getfield, ↓s1R_c, ↓fv_4_1, fX4_saves_11, fX4_saves_12, ↓ex_if_icmp_ne, fX4_saves_15, fX4_saves_16, fX4_saves_17, fX4_saves_18, ↓ex_iadd, fX4_saves_19, fX4_saves_20, ↓ex_invokevirtual, ↓xc_0, ↓xc_s, ↓xc_1, ↓pk_s, ↓k_s, ↓k_n, catS_n, catS_c, rOk_c, ↓pk_f, fX4_saves_23, ↓ex_iinc, fX4_saves_26, ↓ex_goto, fX4_saves_29, fX4_saves_30, ↓ex_dup, fX4_saves_31, fX4_saves_34, fX4_saves_35, fX4_saves_38, fX4_saves_39, fX4_saves_42, fX4_saves_43, fX4_saves_46, fX4_saves_47, ↓ex_isub, fX4_saves_48, ↓ex_putfield, ↓pf_4_1, fX4_saves_51, fX4_saves_52, fX4_saves_53, fX4_saves_56, fX4_saves_57, fX4_saves_58, fX4_saves_61, fX4_saves_62, fX4_saves_63, fX4_saves_64, fX4_saves_67, fX4_saves_70, fX4_saves_71, fX4_saves_72, ↓pf_4_2, fX4_saves_75, ↓ex_return_, ↓rt_v, p1, q1, e51, m2, hk5, show nI 5 = 5 from rfl, ↓C_X4_copies, add1N, leI, nI_toInt (n := i) (by omega), tI_m5, tI_m4, tI_m3, tI_m2, tI_m1, tI_0, tI_1, tI_2, tI_3, tI_4, tI_5, tI_7, tI_8, tI_10, tI_12, tI_30, tI_31, tI_32, tI_47, tI_48, tI_57, tI_59, tI_42, tI_43, tI_45, tI_61, tI_62, tI_100, tI_120, tI_255, tI_1000, ↓reduceIte, not_true_eq_false, not_false_eq_true, false_implies, true_implies, implies_true, and_true, true_and, and_false, false_and, or_true, true_or, or_false, false_or, Classical.not_not, ite_true, ite_false]
          refine ⟨fun z => absurd z (by omega), fun _ => ⟨i + 1, i, ⟨rfl, rfl, by omega, by omega, by omega⟩, fun Z hZ z1 z2 => ih (i + 1) Z (by omega) (by omega) (hF.tr hZ) (fun j k hj1 hj2 hk => ?_) (fun p hp => ?_)⟩⟩
          · by_cases e : j = i
            · subst e
              rw [z1 k hk]; exact a2 _ (by omega)
            · rw [z2 _ (by omega)]; exact a1 j k hj1 (by omega) hk
          · rw [z2 _ (by omega)]; exact a2 p (by omega)
      refine go hR [(2, [0, 1]), (61, [0])] 60 ?_
      simp only [lv_args, ↓reduceIte, Nat.reduceEqDiff, Nat.reduceAdd, Nat.reduceLeDiff, reduceCtorEq, and_true, true_and, false_and, and_false, true_or, or_true, or_false, false_or, true_implies, false_implies, implies_true, not_true_eq_false, not_false_eq_true, eq_self, fx_s, ↓run_s, run_0, ↓rs_n, ↓rs_c, as_s, ls_n, ls_c, lc_s, lget_c, fX4_saves_0, ↓ex_iconst, fX4_saves_1, ↓ex_istore_n, ↓s1I_c, ↓lsto_e, ↓lrmK_n, ↓lrmK_f, ct_i, ct_l, ct_r, fX4_saves_2, ↓ex_iload_n, ↓xI_i, ↓xIg_c, fX4_saves_3, fX4_saves_4, ↓ex_if_icmp_ge, ↓s2I_c, fX4_saves_7, ↓ex_aload_n, ↓xR_r, ↓xRg_c, fX4_saves_8, ↓ex_getfield, ↓s1R_c, ↓fv_4_1, fX4_saves_11, fX4_saves_12, ↓ex_if_icmp_ne, fX4_saves_15, fX4_saves_16, fX4_saves_17, fX4_saves_18, ↓ex_iadd, fX4_saves_19, fX4_saves_20, ↓ex_invokevirtual, ↓xc_0, ↓xc_s, ↓xc_1, ↓pk_s, ↓k_s, ↓k_n, catS_n, catS_c, rOk_c, ↓pk_f, fX4_saves_23, ↓ex_iinc, fX4_saves_26, ↓ex_goto, fX4_saves_29, fX4_saves_30, ↓ex_dup, fX4_saves_31, fX4_saves_34, fX4_saves_35, fX4_saves_38, fX4_saves_39, fX4_saves_42, fX4_saves_43, fX4_saves_46, fX4_saves_47, ↓ex_isub, fX4_saves_48, ↓ex_putfield, ↓pf_4_1, fX4_saves_51, fX4_saves_52, fX4_saves_53, fX4_saves_56, fX4_saves_57, fX4_saves_58, fX4_saves_61, fX4_saves_62, fX4_saves_63, fX4_saves_64, fX4_saves_67, fX4_saves_70, fX4_saves_71, fX4_saves_72, ↓pf_4_2, fX4_saves_75, ↓ex_return_, ↓rt_v, ↓reduceIte, not_true_eq_false, not_false_eq_true, false_implies, true_implies, implies_true, and_true, true_and, and_false, false_and, or_true, true_or, or_false, false_or, Classical.not_not, ite_true, ite_false]
      exact key 4 1 X (by omega) (by omega) (Fr.rf _ _) (fun j k h1 h2 => absurd h2 (by omega)) (fun p _ => rfl)
    · have h5 : (nI g.kept = 5) = False := eq_false (fun z => hk5 ((eqN (b := 5) (by omega) (by decide)).mp z))
      refine go hR [(61, [0])] 80 ?_
      simp only [lv_args, ↓reduceIte, Nat.reduceEqDiff, Nat.reduceAdd, Nat.reduceLeDiff, reduceCtorEq, and_true, true_and, false_and, and_false, true_or, or_true, or_false, false_or, true_implies, false_implies, implies_true, not_true_eq_false, not_false_eq_true, eq_self, fx_s, ↓run_s, run_0, ↓rs_n, ↓rs_c, as_s, ls_n, ls_c, lc_s, lget_c, fX4_saves_0, ↓ex_iconst, fX4_saves_1, ↓ex_istore_n, ↓s1I_c, ↓lsto_e, ↓lrmK_n, ↓lrmK_f, ct_i, ct_l, ct_r, fX4_saves_2, ↓ex_iload_n, ↓xI_i, ↓xIg_c, fX4_saves_3, fX4_saves_4, ↓ex_if_icmp_ge, ↓s2I_c, fX4_saves_7, ↓ex_aload_n, ↓xR_r, ↓xRg_c, fX4_saves_8, ↓ex_getfield, ↓s1R_c, ↓fv_4_1, fX4_saves_11, fX4_saves_12, ↓ex_if_icmp_ne, fX4_saves_15, fX4_saves_16, fX4_saves_17, fX4_saves_18, ↓ex_iadd, fX4_saves_19, fX4_saves_20, ↓ex_invokevirtual, ↓xc_0, ↓xc_s, ↓xc_1, ↓pk_s, ↓k_s, ↓k_n, catS_n, catS_c, rOk_c, ↓pk_f, fX4_saves_23, ↓ex_iinc, fX4_saves_26, ↓ex_goto, fX4_saves_29, fX4_saves_30, ↓ex_dup, fX4_saves_31, fX4_saves_34, fX4_saves_35, fX4_saves_38, fX4_saves_39, fX4_saves_42, fX4_saves_43, fX4_saves_46, fX4_saves_47, ↓ex_isub, fX4_saves_48, ↓ex_putfield, ↓pf_4_1, fX4_saves_51, fX4_saves_52, fX4_saves_53, fX4_saves_56, fX4_saves_57, fX4_saves_58, fX4_saves_61, fX4_saves_62, fX4_saves_63, fX4_saves_64, fX4_saves_67, fX4_saves_70, fX4_saves_71, fX4_saves_72, ↓pf_4_2, fX4_saves_75, ↓ex_return_, ↓rt_v, p1, q1, m2, h5, sI_1, upd_a, sub0N, add1N, ↓reduceIte, not_true_eq_false, not_false_eq_true, false_implies, true_implies, implies_true, and_true, true_and, and_false, false_and, or_true, true_or, or_false, false_or, Classical.not_not, ite_true, ite_false]
      refine ⟨fun z => absurd z (by decide), fun _ => ?_⟩
      refine fin _ g _ ⟨⟨w1, w2, w3, w4⟩, ?_, fun j hj => ?_, ?_, fun i hi => ?_⟩ (by omega) ⟨fun k hk => ?_, fun k hk => rfl, rfl⟩ ?_ (by unfold s_rem; rw [if_neg hk5])
      · exact m1.cg w1.1 (fun k hk => by simp only [sI_1]; rw [if_neg (by decide), if_neg (by decide)])
      · refine (m3 j hj).cg (w3 j hj).1 (fun k hk => ?_)
        simp only [sI_1]
        rw [if_neg (by decide), if_neg (by decide)]
      · simp [sI_1, upd_a, m4]
      · simp only [sI_1]
        rw [if_neg (by decide), if_neg (by decide)]; exact m5 i hi
      · simp only [sI_1]
        rw [if_neg (fun z => hk (Or.inl z)), if_neg (fun z => hk (Or.inl z))]
      · simp [sI_1, upd_a]
  next => exact hC.elim)
end MSAVES
