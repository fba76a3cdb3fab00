section TEXTN
/-- the digits from i on: where they end, and their value -/
noncomputable def dgW (n : Nat) (b : Nat → Int32) : Nat → Nat → Int32 → Nat × Int32
  | 0, i, v => (i, v)
  | k + 1, i, v => cif (i < n ∧ 48 ≤ b i ∧ b i ≤ 57) (dgW n b k (i + 1) (v * 10 + (b i - 48))) (i, v)
theorem dgW_le (n : Nat) (b : Nat → Int32) : ∀ k i v, i + k = n → i ≤ (dgW n b k i v).1 ∧ (dgW n b k i v).1 ≤ n := by
  intro k
  induction k with
  | zero => intro i v h; exact ⟨Nat.le_refl _, by show i ≤ n; omega⟩
  | succ k ih =>
    intro i v h
    unfold dgW
    by_cases c : i < n ∧ 48 ≤ b i ∧ b i ≤ 57
    · rw [cif_t c]
      have := ih (i + 1) (v * 10 + (b i - 48)) (by omega)
      exact ⟨by omega, this.2⟩
    · rw [cif_f c]; exact ⟨Nat.le_refl _, by show i ≤ n; omega⟩
theorem skp_le (n : Nat) (b : Nat → Int32) : ∀ k i, i + k = n → i ≤ skp n b k i ∧ skp n b k i ≤ n := by
  intro k
  induction k with
  | zero => intro i h; exact ⟨Nat.le_refl _, by show i ≤ n; omega⟩
  | succ k ih =>
    intro i h
    unfold skp
    by_cases c : i < n ∧ b i = 32
    · rw [cif_t c]
      have := ih (i + 1) (by omega)
      exact ⟨by omega, this.2⟩
    · rw [cif_f c]; exact ⟨Nat.le_refl _, by show i ≤ n; omega⟩
noncomputable def C_X2_readNumber : CT := fun As X K => match As with
  | [.ref r, .int lo, .int hi] => ∃ (n : Nat) (b : Nat → Int32) (i : Nat), (r = 12 ∧ TXt X n b i) ∧ K none X
  | _ => False
set_option maxRecDepth 20000 in
set_option maxHeartbeats 4000000 in
theorem d_X2_readNumber (l : Launch) : Does l yX2_readNumber (wY yX2_readNumber cX2_readNumber 6 (retT 0)) (rmF 1) C_X2_readNumber := does_of (rt := 0) (by decide +kernel) tkX2_readNumber (calls := [(50, false, 1, 2, C_X2_nextByte), (47, false, 1, 2, C_X2_refuse)]) (List.forall_mem_cons.mpr ⟨cr_V (d_X2_nextByte l) rfl (by decide +kernel) (by decide +kernel) ⟨rfl, rfl⟩ ⟨Nat.le_of_ble_eq_true rfl, Nat.le_of_ble_eq_true rfl⟩, List.forall_mem_cons.mpr ⟨cr_V (d_X2_refuse l) rfl (by decide +kernel) (by decide +kernel) ⟨rfl, rfl⟩ ⟨Nat.le_of_ble_eq_true rfl, Nat.le_of_ble_eq_true rfl⟩, fun _ h => absurd h List.not_mem_nil⟩⟩) (by
  intro As X post hC
  unfold C_X2_readNumber at hC
  split at hC
  next r lo hi =>
    obtain ⟨n, b, i0, ⟨rfl, hT0⟩, hpost⟩ := hC
    refine ⟨Nat.le_of_ble_eq_true rfl, fun R hR => ?_⟩
    obtain ⟨⟨p0, p7, p12, p13⟩, q0, q7, q12, q13⟩ := sh_text
    have key : ∀ (J : Nat), ∀ k i v Y, k = n - i → J ≤ i → fr12 X Y → TXt Y n b i → (∀ Z, fr12 X Z → TXt Z n b (dgW n b k i v).1 → R 85 [(0, .ref 12), (1, .int lo), (2, .int hi), (3, .int (nI J)), (4, .int (dgW n b k i v).2)] [] Z) → R 13 [(0, .ref 12), (1, .int lo), (2, .int hi), (3, .int (nI J)), (4, .int v)] [] Y := by
      intro J k
      induction k with
      | zero =>
        intro i v Y hk hJ hF hT hout
        have hf := hout Y hF hT
        obtain ⟨t1, t2, t3, t4, t5⟩ := id hT
        refine go hR [(13, [0, 1, 2, 3, 4]), (85, [0, 1, 2, 3, 4])] 60 ?_
        simp only [↓reduceIte, Nat.reduceEqDiff, Nat.reduceAdd, Nat.reduceLeDiff, reduceCtorEq, and_true, true_and, false_and, and_false, true_or, or_true, or_false, false_or, true_implies, false_implies, implies_true, not_true_eq_false, not_false_eq_true, eq_self, fx_s, ↓run_s, run_0, ↓rs_n, ↓rs_c, as_s, ls_n, ls_c, lc_s, lget_c, fX2_readNumber_0, ↓ex_aload_n, ↓xR_r, ↓xRg_c, fX2_readNumber_1, ↓ex_invokevirtual, ↓xc_0, ↓xc_s, ↓xc_1, ↓pk_s, ↓k_s, ↓k_n, catS_n, catS_c, rOk_c, ct_i, ct_l, ct_r, ↓pk_f, fX2_readNumber_4, ↓ex_pop, fX2_readNumber_5, fX2_readNumber_6, ↓ex_getfield, ↓s1R_c, ↓fv_2_3, fX2_readNumber_9, ↓ex_istore_n, ↓s1I_c, ↓lsto_e, ↓lrmK_n, ↓lrmK_f, fX2_readNumber_10, ↓ex_iconst, fX2_readNumber_11, ↓ex_istore, fX2_readNumber_13, fX2_readNumber_14, fX2_readNumber_17, fX2_readNumber_18, ↓fv_2_1, fX2_readNumber_21, ↓ex_if_icmp_ge, ↓s2I_c, fX2_readNumber_24, fX2_readNumber_25, ↓fv_2_0, fX2_readNumber_28, fX2_readNumber_29, fX2_readNumber_32, ↓ex_iaload, ↓sRI_c, ↓scrR_n, fX2_readNumber_33, ↓ex_bipush, fX2_readNumber_35, ↓ex_if_icmp_lt, fX2_readNumber_38, fX2_readNumber_39, fX2_readNumber_42, fX2_readNumber_43, fX2_readNumber_46, fX2_readNumber_47, fX2_readNumber_49, ↓ex_if_icmp_gt, fX2_readNumber_52, ↓ex_iload, ↓xI_i, ↓xIg_c, fX2_readNumber_54, fX2_readNumber_56, ↓ex_imul, fX2_readNumber_57, fX2_readNumber_58, fX2_readNumber_61, fX2_readNumber_62, fX2_readNumber_65, fX2_readNumber_66, fX2_readNumber_68, ↓ex_isub, fX2_readNumber_69, ↓ex_iadd, fX2_readNumber_70, fX2_readNumber_72, fX2_readNumber_73, ↓ex_dup, fX2_readNumber_74, fX2_readNumber_77, fX2_readNumber_78, fX2_readNumber_79, ↓ex_putfield, ↓pf_2_3, fX2_readNumber_82, ↓ex_goto, fX2_readNumber_85, fX2_readNumber_86, fX2_readNumber_89, ↓ex_iload_n, fX2_readNumber_90, fX2_readNumber_91, fX2_readNumber_93, fX2_readNumber_95, fX2_readNumber_96, fX2_readNumber_99, fX2_readNumber_101, fX2_readNumber_102, fX2_readNumber_105, fX2_readNumber_107, fX2_readNumber_108, fX2_readNumber_111, fX2_readNumber_113, fX2_readNumber_114, ↓ex_if_icmp_le, fX2_readNumber_117, fX2_readNumber_118, fX2_readNumber_119, fX2_readNumber_122, fX2_readNumber_123, fX2_readNumber_126, fX2_readNumber_127, fX2_readNumber_128, ↓ex_ireturn, ↓rt_i, fX2_readNumber_129, fX2_readNumber_131, p12, p13, q12, q13, t3, t4, leI, nI_toInt (n := n) (by omega), nI_toInt (n := i) (by omega), clampN (n := i) (by omega), ↓reduceIte, not_true_eq_false, not_false_eq_true, false_implies, true_implies, implies_true, and_true, true_and, and_false, false_and, or_true, true_or, or_false, false_or, Classical.not_not, ite_true, ite_false]
        exact ⟨fun _ => hf, fun z => absurd (by omega) z⟩
      | succ k ih =>
        intro i v Y hk hJ hF hT hout
        obtain ⟨t1, t2, t3, t4, t5⟩ := id hT
        have hin : i < n := by omega
        refine go hR [(13, [0, 1, 2, 3, 4]), (85, [0, 1, 2, 3, 4])] 60 ?_
        simp only [↓reduceIte, Nat.reduceEqDiff, Nat.reduceAdd, Nat.reduceLeDiff, reduceCtorEq, and_true, true_and, false_and, and_false, true_or, or_true, or_false, false_or, true_implies, false_implies, implies_true, not_true_eq_false, not_false_eq_true, eq_self, fx_s, ↓run_s, run_0, ↓rs_n, ↓rs_c, as_s, ls_n, ls_c, lc_s, lget_c, fX2_readNumber_0, ↓ex_aload_n, ↓xR_r, ↓xRg_c, fX2_readNumber_1, ↓ex_invokevirtual, ↓xc_0, ↓xc_s, ↓xc_1, ↓pk_s, ↓k_s, ↓k_n, catS_n, catS_c, rOk_c, ct_i, ct_l, ct_r, ↓pk_f, fX2_readNumber_4, ↓ex_pop, fX2_readNumber_5, fX2_readNumber_6, ↓ex_getfield, ↓s1R_c, ↓fv_2_3, fX2_readNumber_9, ↓ex_istore_n, ↓s1I_c, ↓lsto_e, ↓lrmK_n, ↓lrmK_f, fX2_readNumber_10, ↓ex_iconst, fX2_readNumber_11, ↓ex_istore, fX2_readNumber_13, fX2_readNumber_14, fX2_readNumber_17, fX2_readNumber_18, ↓fv_2_1, fX2_readNumber_21, ↓ex_if_icmp_ge, ↓s2I_c, fX2_readNumber_24, fX2_readNumber_25, ↓fv_2_0, fX2_readNumber_28, fX2_readNumber_29, fX2_readNumber_32, ↓ex_iaload, ↓sRI_c, ↓scrR_n, fX2_readNumber_33, ↓ex_bipush, fX2_readNumber_35, ↓ex_if_icmp_lt, fX2_readNumber_38, fX2_readNumber_39, fX2_readNumber_42, fX2_readNumber_43, fX2_readNumber_46, fX2_readNumber_47, fX2_readNumber_49, ↓ex_if_icmp_gt, fX2_readNumber_52, ↓ex_iload, ↓xI_i, ↓xIg_c, fX2_readNumber_54, fX2_readNumber_56, ↓ex_imul, fX2_readNumber_57, fX2_readNumber_58, fX2_readNumber_61, fX2_readNumber_62, fX2_readNumber_65, fX2_readNumber_66, fX2_readNumber_68, ↓ex_isub, fX2_readNumber_69, ↓ex_iadd, fX2_readNumber_70, fX2_readNumber_72, fX2_readNumber_73, ↓ex_dup, fX2_readNumber_74, fX2_readNumber_77, fX2_readNumber_78, fX2_readNumber_79, ↓ex_putfield, ↓pf_2_3, fX2_readNumber_82, ↓ex_goto, fX2_readNumber_85, fX2_readNumber_86, fX2_readNumber_89, ↓ex_iload_n, fX2_readNumber_90, fX2_readNumber_91, fX2_readNumber_93, fX2_readNumber_95, fX2_readNumber_96, fX2_readNumber_99, fX2_readNumber_101, fX2_readNumber_102, fX2_readNumber_105, fX2_readNumber_107, fX2_readNumber_108, fX2_readNumber_111, fX2_readNumber_113, fX2_readNumber_114, ↓ex_if_icmp_le, fX2_readNumber_117, fX2_readNumber_118, fX2_readNumber_119, fX2_readNumber_122, fX2_readNumber_123, fX2_readNumber_126, fX2_readNumber_127, fX2_readNumber_128, ↓ex_ireturn, ↓rt_i, fX2_readNumber_129, fX2_readNumber_131, p12, p13, q12, q13, t3, t4, sI_1, upd_a, clampN (n := i) (by omega), t5 i hin, add1N, ↓reduceIte, not_true_eq_false, not_false_eq_true, false_implies, true_implies, implies_true, and_true, true_and, and_false, false_and, or_true, true_or, or_false, false_or, Classical.not_not, ite_true, ite_false]
        have e : dgW n b (k + 1) i v = cif (i < n ∧ 48 ≤ b i ∧ b i ≤ 57) (dgW n b k (i + 1) (v * 10 + (b i - 48))) (i, v) := rfl
        refine ⟨fun z => absurd z (by rw [leI, nI_toInt (n := n) (by omega), nI_toInt (n := i) (by omega)]; omega), fun _ => ⟨vp_inN (by omega) (by omega), fun z => ?_, fun z => ⟨vp_inN (by omega) (by omega), fun y => ?_, fun y => ⟨vp_inN (by omega) (by omega), ?_⟩⟩⟩⟩
        · rw [cif_f (fun x => by have h := x.2.1; rw [ltI] at z; rw [leI] at h; omega)] at e
          rw [e] at hout
          exact hout Y hF hT
        · rw [cif_f (fun x => by have h := x.2.2; rw [ltI] at y; rw [leI] at h; omega)] at e
          rw [e] at hout
          exact hout Y hF hT
        · rw [cif_t ⟨hin, by rw [ltI] at z; rw [leI]; omega, by rw [ltI] at y; rw [leI]; omega⟩] at e
          rw [e] at hout
          exact ih (i + 1) _ _ (by omega) (by omega) (hF.set _) (hT.set (by omega)) hout
    refine go hR [(13, [0, 1, 2, 3, 4])] 60 ?_
    simp only [lv_args, ↓reduceIte, Nat.reduceEqDiff, Nat.reduceAdd, Nat.reduceLeDiff, reduceCtorEq, and_true, true_and, false_and, and_false, true_or, or_true, or_false, false_or, true_implies, false_implies, implies_true, not_true_eq_false, not_false_eq_true, eq_self, fx_s, ↓run_s, run_0, ↓rs_n, ↓rs_c, as_s, ls_n, ls_c, lc_s, lget_c, fX2_readNumber_0, ↓ex_aload_n, ↓xR_r, ↓xRg_c, fX2_readNumber_1, ↓ex_invokevirtual, ↓xc_0, ↓xc_s, ↓xc_1, ↓pk_s, ↓k_s, ↓k_n, catS_n, catS_c, rOk_c, ct_i, ct_l, ct_r, ↓pk_f, fX2_readNumber_4, ↓ex_pop, fX2_readNumber_5, fX2_readNumber_6, ↓ex_getfield, ↓s1R_c, ↓fv_2_3, fX2_readNumber_9, ↓ex_istore_n, ↓s1I_c, ↓lsto_e, ↓lrmK_n, ↓lrmK_f, fX2_readNumber_10, ↓ex_iconst, fX2_readNumber_11, ↓ex_istore, fX2_readNumber_13, fX2_readNumber_14, fX2_readNumber_17, fX2_readNumber_18, ↓fv_2_1, fX2_readNumber_21, ↓ex_if_icmp_ge, ↓s2I_c, fX2_readNumber_24, fX2_readNumber_25, ↓fv_2_0, fX2_readNumber_28, fX2_readNumber_29, fX2_readNumber_32, ↓ex_iaload, ↓sRI_c, ↓scrR_n, fX2_readNumber_33, ↓ex_bipush, fX2_readNumber_35, ↓ex_if_icmp_lt, fX2_readNumber_38, fX2_readNumber_39, fX2_readNumber_42, fX2_readNumber_43, fX2_readNumber_46, fX2_readNumber_47, fX2_readNumber_49, ↓ex_if_icmp_gt, fX2_readNumber_52, ↓ex_iload, ↓xI_i, ↓xIg_c, fX2_readNumber_54, fX2_readNumber_56, ↓ex_imul, fX2_readNumber_57, fX2_readNumber_58, fX2_readNumber_61, fX2_readNumber_62, fX2_readNumber_65, fX2_readNumber_66, fX2_readNumber_68, ↓ex_isub, fX2_readNumber_69, ↓ex_iadd, fX2_readNumber_70, fX2_readNumber_72, fX2_readNumber_73, ↓ex_dup, fX2_readNumber_74, fX2_readNumber_77, fX2_readNumber_78, fX2_readNumber_79, ↓ex_putfield, ↓pf_2_3, fX2_readNumber_82, ↓ex_goto, fX2_readNumber_85, fX2_readNumber_86, fX2_readNumber_89, ↓ex_iload_n, fX2_readNumber_90, fX2_readNumber_91, fX2_readNumber_93, fX2_readNumber_95, fX2_readNumber_96, fX2_readNumber_99, fX2_readNumber_101, fX2_readNumber_102, fX2_readNumber_105, fX2_readNumber_107, fX2_readNumber_108, fX2_readNumber_111, fX2_readNumber_113, fX2_readNumber_114, ↓ex_if_icmp_le, fX2_readNumber_117, fX2_readNumber_118, fX2_readNumber_119, fX2_readNumber_122, fX2_readNumber_123, fX2_readNumber_126, fX2_readNumber_127, fX2_readNumber_128, ↓ex_ireturn, ↓rt_i, fX2_readNumber_129, fX2_readNumber_131, p12, q12, ↓C_X2_nextByte, ↓reduceIte, not_true_eq_false, not_false_eq_true, false_implies, true_implies, implies_true, and_true, true_and, and_false, false_and, or_true, true_or, or_false, false_or, Classical.not_not, ite_true, ite_false]
    trace_state
    sorry
  next => exact hC.elim)
end TEXTN
