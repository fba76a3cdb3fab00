section TEXTS
/-- where the next byte that is no space lies -/
noncomputable def skp (n : Nat) (b : Nat → Int32) : Nat → Nat → Nat
  | 0, i => i
  | k + 1, i => cif (i < n ∧ b i = 32) (skp n b k (i + 1)) i
noncomputable def C_X2_nextByte : CT := fun As X K => match As with
  | [.ref b] => b = 12 ∧ K none X
  | _ => False
set_option maxRecDepth 20000 in
set_option maxHeartbeats 4000000 in
theorem d_X2_nextByte (l : Launch) : Does l yX2_nextByte (wY yX2_nextByte cX2_nextByte 1 (retT 0)) (rmF 0) C_X2_nextByte := does_of (rt := 0) (by decide +kernel) tkX2_nextByte (calls := []) (fun _ h => absurd h List.not_mem_nil) (by
  intro As X post hC
  unfold C_X2_nextByte at hC
  split at hC
  next b =>
    obtain ⟨rfl, hpost⟩ := hC
    refine ⟨Nat.le_of_ble_eq_true rfl, fun R hR => ?_⟩
    have key : ∀ Y, R 0 [(0, .ref 12)] [] Y := by
      intro Y
      refine go hR [(38, [0])] 40 ?_
      simp only [↓reduceIte, Nat.reduceEqDiff, Nat.reduceAdd, Nat.reduceLeDiff, reduceCtorEq, and_true, true_and, false_and, and_false, true_or, or_true, or_false, false_or, true_implies, false_implies, implies_true, not_true_eq_false, not_false_eq_true, eq_self, fx_s, ↓run_s, run_0, ↓rs_n, ↓rs_c, as_s, ls_n, ls_c, lc_s, lget_c, fX2_nextByte_0, ↓ex_aload_n, ↓xR_r, ↓xRg_c, fX2_nextByte_1, ↓ex_getfield, ↓s1R_c, ↓fv_2_3, fX2_nextByte_4, fX2_nextByte_5, ↓fv_2_1, fX2_nextByte_8, ↓ex_if_icmp_ge, ↓s2I_c, fX2_nextByte_11, fX2_nextByte_12, ↓fv_2_0, fX2_nextByte_15, fX2_nextByte_16, fX2_nextByte_19, ↓ex_iaload, ↓sRI_c, ↓scrR_n, fX2_nextByte_20, ↓ex_bipush, fX2_nextByte_22, ↓ex_if_icmp_ne, fX2_nextByte_25, fX2_nextByte_26, ↓ex_dup, ct_i, ct_l, ct_r, fX2_nextByte_27, fX2_nextByte_30, ↓ex_iconst, fX2_nextByte_31, ↓ex_iadd, fX2_nextByte_32, ↓ex_putfield, ↓pf_2_3, fX2_nextByte_35, ↓ex_goto, fX2_nextByte_38, fX2_nextByte_39, fX2_nextByte_42, fX2_nextByte_43, fX2_nextByte_46, fX2_nextByte_49, fX2_nextByte_50, fX2_nextByte_53, fX2_nextByte_54, fX2_nextByte_57, fX2_nextByte_58, fX2_nextByte_61, fX2_nextByte_62, ↓ex_ireturn, ↓rt_i, ↓reduceIte, not_true_eq_false, not_false_eq_true, false_implies, true_implies, implies_true, and_true, true_and, and_false, false_and, or_true, true_or, or_false, false_or, Classical.not_not, ite_true, ite_false]
      trace_state
      sorry
    sorry
  next => exact hC.elim)
end TEXTS
