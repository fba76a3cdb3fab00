section TEXTN
/-- the digits from i on: where they end, and their value -/
noncomputable def dgW (n : Nat) (b : Nat → Int32) : Nat → Nat → Int32 → Nat × Int32
  | 0, i, v => (i, v)
  | k + 1, i, v => cif (i < n ∧ 48 ≤ b i ∧ b i ≤ 57) (dgW n b k (i + 1) (v * 10 + (b i - 48))) (i, v)
theorem dgW_le (n : Nat) (b : Nat → Int32) : ∀ k i v, i + k = n → i ≤ (dgW n b k i v).1 ∧ (dgW n b k i v).1 ≤ n := by
  intro k
  induction k with
  | zero => intro i v h; exact ⟨Nat.le_refl _, by show i ≤ n; omega⟩
  | succ k ih =>
    intro i v h
    unfold dgW
    by_cases c : i < n ∧ 48 ≤ b i ∧ b i ≤ 57
    · rw [cif_t c]
      have := ih (i + 1) (v * 10 + (b i - 48)) (by omega)
      exact ⟨by omega, this.2⟩
    · rw [cif_f c]; exact ⟨Nat.le_refl _, by show i ≤ n; omega⟩
theorem skp_le (n : Nat) (b : Nat → Int32) : ∀ k i, i + k = n → i ≤ skp n b k i ∧ skp n b k i ≤ n := by
  intro k
  induction k with
  | zero => intro i h; exact ⟨Nat.le_refl _, by show i ≤ n; omega⟩
  | succ k ih =>
    intro i h
    unfold skp
    by_cases c : i < n ∧ b i = 32
    · rw [cif_t c]
      have := ih (i + 1) (by omega)
      exact ⟨by omega, this.2⟩
    · rw [cif_f c]; exact ⟨Nat.le_refl _, by show i ≤ n; omega⟩
theorem skp_at (n : Nat) (b : Nat → Int32) (i : Nat) (h : i ≤ n) : i ≤ skp n b (n - i) i ∧ skp n b (n - i) i ≤ n := skp_le n b (n - i) i (by omega)
/-- a number from j on: its end and value; where it can't stand, j and -1 -/
noncomputable def numR (n : Nat) (b : Nat → Int32) (lo hi : Int32) (j : Nat) : Nat × Int32 :=
  cif (((dgW n b (n - j) j 0).1 = j + 1 ∨ (dgW n b (n - j) j 0).1 = j + 2) ∧ lo ≤ (dgW n b (n - j) j 0).2 ∧ (dgW n b (n - j) j 0).2 ≤ hi) (dgW n b (n - j) j 0) (j, -1)
theorem numR_in {n : Nat} {b : Nat → Int32} {lo hi : Int32} {j : Nat} (hj : j ≤ n) (h : (numR n b lo hi j).2 ≠ -1) : j + 1 ≤ (numR n b lo hi j).1 ∧ (numR n b lo hi j).1 ≤ n ∧ inR (numR n b lo hi j).2 lo.toInt hi.toInt := by
  unfold numR at h ⊢
  by_cases c : (((dgW n b (n - j) j 0).1 = j + 1 ∨ (dgW n b (n - j) j 0).1 = j + 2) ∧ lo ≤ (dgW n b (n - j) j 0).2 ∧ (dgW n b (n - j) j 0).2 ≤ hi)
  · rw [cif_t c] at h ⊢
    have := dgW_le n b (n - j) j 0 (by omega)
    exact ⟨by omega, this.2, (leI _ _).mp c.2.1, (leI _ _).mp c.2.2⟩
  · rw [cif_f c] at h
    exact absurd rfl h
theorem numR_no {n : Nat} {b : Nat → Int32} {lo hi : Int32} {j : Nat} (hlo : 0 ≤ lo.toInt) (h : (numR n b lo hi j).2 = -1) : (numR n b lo hi j).1 = j := by
  unfold numR at h ⊢
  by_cases c : (((dgW n b (n - j) j 0).1 = j + 1 ∨ (dgW n b (n - j) j 0).1 = j + 2) ∧ lo ≤ (dgW n b (n - j) j 0).2 ∧ (dgW n b (n - j) j 0).2 ≤ hi)
  · rw [cif_t c] at h
    have h1 := (leI _ _).mp c.2.1
    rw [h, tI_m1] at h1
    omega
  · rw [cif_f c]
noncomputable def C_X2_readNumber : CT := fun As X K => match As with
  | [.ref r, .int lo, .int hi] => ∃ (n : Nat) (b : Nat → Int32) (i : Nat), (r = 12 ∧ TXt X n b i ∧ 0 ≤ lo.toInt) ∧ ∀ X', fr34 X X' → TXt X' n b (numR n b lo hi (skp n b (n - i) i)).1 →
    ((numR n b lo hi (skp n b (n - i) i)).2 = -1 → X'.1 12 4 = nI (numR n b lo hi (skp n b (n - i) i)).1) → ((numR n b lo hi (skp n b (n - i) i)).2 ≠ -1 → X'.1 12 4 = X.1 12 4) → K (some (.int (numR n b lo hi (skp n b (n - i) i)).2)) X'
  | _ => False
set_option maxRecDepth 20000 in
set_option maxHeartbeats 4000000 in
theorem d_X2_readNumber (l : Launch) : Does l yX2_readNumber (wY yX2_readNumber cX2_readNumber 6 (retT 0)) (rmF 1) C_X2_readNumber := does_of (rt := 0) (by decide +kernel) tkX2_readNumber (calls := [(50, false, 1, 2, C_X2_nextByte), (47, false, 1, 2, C_X2_refuse)]) (List.forall_mem_cons.mpr ⟨cr_V (d_X2_nextByte l) rfl (by decide +kernel) (by decide +kernel) ⟨rfl, rfl⟩ ⟨Nat.le_of_ble_eq_true rfl, Nat.le_of_ble_eq_true rfl⟩, List.forall_mem_cons.mpr ⟨cr_V (d_X2_refuse l) rfl (by decide +kernel) (by decide +kernel) ⟨rfl, rfl⟩ ⟨Nat.le_of_ble_eq_true rfl, Nat.le_of_ble_eq_true rfl⟩, fun _ h => absurd h List.not_mem_nil⟩⟩) (by
  intro As X post hC
  unfold C_X2_readNumber at hC
  split at hC
  next r lo hi =>
    obtain ⟨n, b, i0, ⟨rfl, hT0, hlo⟩, hpost⟩ := hC
    refine ⟨Nat.le_of_ble_eq_true rfl, fun R hR => ?_⟩
    obtain ⟨⟨p0, p7, p12, p13⟩, q0, q7, q12, q13⟩ := sh_text
    have key : ∀ (J : Nat), ∀ k i v Y, k = n - i → J ≤ i → fr12 X Y → TXt Y n b i → (∀ Z, fr12 X Z → TXt Z n b (dgW n b k i v).1 → R 85 [(0, .ref 12), (1, .int lo), (2, .int hi), (3, .int (nI J)), (4, .int (dgW n b k i v).2)] [] Z) → R 13 [(0, .ref 12), (1, .int lo), (2, .int hi), (3, .int (nI J)), (4, .int v)] [] Y := by
      intro J k
      induction k with
      | zero =>
        intro i v Y hk hJ hF hT hout
        have hf := hout Y hF hT
        obtain ⟨t1, t2, t3, t4, t5⟩ := id hT
        refine go hR [(13, [0, 1, 2, 3, 4]), (85, [0, 1, 2, 3, 4])] 60 ?_
        simp only [↓reduceIte, Nat.reduceEqDiff, Nat.reduceAdd, Nat.reduceLeDiff, reduceCtorEq, and_true, true_and, false_and, and_false, true_or, or_true, or_false, false_or, true_implies, false_implies, implies_true, not_true_eq_false, not_false_eq_true, eq_self, fx_s, ↓run_s, run_0, ↓rs_n, ↓rs_c, as_s, ls_n, ls_c, lc_s, lget_c, fX2_readNumber_0, ↓ex_aload_n, ↓xR_r, ↓xRg_c, fX2_readNumber_1, ↓ex_invokevirtual, ↓xc_0, ↓xc_s, ↓xc_1, ↓pk_s, ↓k_s, ↓k_n, catS_n, catS_c, rOk_c, ct_i, ct_l, ct_r, ↓pk_f, fX2_readNumber_4, ↓ex_pop, fX2_readNumber_5, fX2_readNumber_6, ↓ex_getfield, ↓s1R_c, ↓fv_2_3, fX2_readNumber_9, ↓ex_istore_n, ↓s1I_c, ↓lsto_e, ↓lrmK_n, ↓lrmK_f, fX2_readNumber_10, ↓ex_iconst, fX2_readNumber_11, ↓ex_istore, fX2_readNumber_13, fX2_readNumber_14, fX2_readNumber_17, fX2_readNumber_18, ↓fv_2_1, fX2_readNumber_21, ↓ex_if_icmp_ge, ↓s2I_c, fX2_readNumber_24, fX2_readNumber_25, ↓fv_2_0, fX2_readNumber_28, fX2_readNumber_29, fX2_readNumber_32, ↓ex_iaload, ↓sRI_c, ↓scrR_n, fX2_readNumber_33, ↓ex_bipush, fX2_readNumber_35, ↓ex_if_icmp_lt, fX2_readNumber_38, fX2_readNumber_39, fX2_readNumber_42, fX2_readNumber_43, fX2_readNumber_46, fX2_readNumber_47, fX2_readNumber_49, ↓ex_if_icmp_gt, fX2_readNumber_52, ↓ex_iload, ↓xI_i, ↓xIg_c, fX2_readNumber_54, fX2_readNumber_56, ↓ex_imul, fX2_readNumber_57, fX2_readNumber_58, fX2_readNumber_61, fX2_readNumber_62, fX2_readNumber_65, fX2_readNumber_66, fX2_readNumber_68, ↓ex_isub, fX2_readNumber_69, ↓ex_iadd, fX2_readNumber_70, fX2_readNumber_72, fX2_readNumber_73, ↓ex_dup, fX2_readNumber_74, fX2_readNumber_77, fX2_readNumber_78, fX2_readNumber_79, ↓ex_putfield, ↓pf_2_3, fX2_readNumber_82, ↓ex_goto, fX2_readNumber_85, fX2_readNumber_86, fX2_readNumber_89, ↓ex_iload_n, fX2_readNumber_90, fX2_readNumber_91, fX2_readNumber_93, fX2_readNumber_95, fX2_readNumber_96, fX2_readNumber_99, fX2_readNumber_101, fX2_readNumber_102, fX2_readNumber_105, fX2_readNumber_107, fX2_readNumber_108, fX2_readNumber_111, fX2_readNumber_113, fX2_readNumber_114, ↓ex_if_icmp_le, fX2_readNumber_117, fX2_readNumber_118, fX2_readNumber_119, fX2_readNumber_122, fX2_readNumber_123, fX2_readNumber_126, fX2_readNumber_127, fX2_readNumber_128, ↓ex_ireturn, ↓rt_i, fX2_readNumber_129, fX2_readNumber_131, p12, p13, q12, q13, t3, t4, leI, nI_toInt (n := n) (by omega), nI_toInt (n := i) (by omega), clampN (n := i) (by omega), ↓reduceIte, not_true_eq_false, not_false_eq_true, false_implies, true_implies, implies_true, and_true, true_and, and_false, false_and, or_true, true_or, or_false, false_or, Classical.not_not, ite_true, ite_false]
        exact ⟨fun _ => hf, fun z => absurd (by omega) z⟩
      | succ k ih =>
        intro i v Y hk hJ hF hT hout
        obtain ⟨t1, t2, t3, t4, t5⟩ := id hT
        have hin : i < n := by omega
        refine go hR [(13, [0, 1, 2, 3, 4]), (85, [0, 1, 2, 3, 4])] 60 ?_
        simp only [↓reduceIte, Nat.reduceEqDiff, Nat.reduceAdd, Nat.reduceLeDiff, reduceCtorEq, and_true, true_and, false_and, and_false, true_or, or_true, or_false, false_or, true_implies, false_implies, implies_true, not_true_eq_false, not_false_eq_true, eq_self, fx_s, ↓run_s, run_0, ↓rs_n, ↓rs_c, as_s, ls_n, ls_c, lc_s, lget_c, fX2_readNumber_0, ↓ex_aload_n, ↓xR_r, ↓xRg_c, fX2_readNumber_1, ↓ex_invokevirtual, ↓xc_0, ↓xc_s, ↓xc_1, ↓pk_s, ↓k_s, ↓k_n, catS_n, catS_c, rOk_c, ct_i, ct_l, ct_r, ↓pk_f, fX2_readNumber_4, ↓ex_pop, fX2_readNumber_5, fX2_readNumber_6, ↓ex_getfield, ↓s1R_c, ↓fv_2_3, fX2_readNumber_9, ↓ex_istore_n, ↓s1I_c, ↓lsto_e, ↓lrmK_n, ↓lrmK_f, fX2_readNumber_10, ↓ex_iconst, fX2_readNumber_11, ↓ex_istore, fX2_readNumber_13, fX2_readNumber_14, fX2_readNumber_17, fX2_readNumber_18, ↓fv_2_1, fX2_readNumber_21, ↓ex_if_icmp_ge, ↓s2I_c, fX2_readNumber_24, fX2_readNumber_25, ↓fv_2_0, fX2_readNumber_28, fX2_readNumber_29, fX2_readNumber_32, ↓ex_iaload, ↓sRI_c, ↓scrR_n, fX2_readNumber_33, ↓ex_bipush, fX2_readNumber_35, ↓ex_if_icmp_lt, fX2_readNumber_38, fX2_readNumber_39, fX2_readNumber_42, fX2_readNumber_43, fX2_readNumber_46, fX2_readNumber_47, fX2_readNumber_49, ↓ex_if_icmp_gt, fX2_readNumber_52, ↓ex_iload, ↓xI_i, ↓xIg_c, fX2_readNumber_54, fX2_readNumber_56, ↓ex_imul, fX2_readNumber_57, fX2_readNumber_58, fX2_readNumber_61, fX2_readNumber_62, fX2_readNumber_65, fX2_readNumber_66, fX2_readNumber_68, ↓ex_isub, fX2_readNumber_69, ↓ex_iadd, fX2_readNumber_70, fX2_readNumber_72, fX2_readNumber_73, ↓ex_dup, fX2_readNumber_74, fX2_readNumber_77, fX2_readNumber_78, fX2_readNumber_79, ↓ex_putfield, ↓pf_2_3, fX2_readNumber_82, ↓ex_goto, fX2_readNumber_85, fX2_readNumber_86, fX2_readNumber_89, ↓ex_iload_n, fX2_readNumber_90, fX2_readNumber_91, fX2_readNumber_93, fX2_readNumber_95, fX2_readNumber_96, fX2_readNumber_99, fX2_readNumber_101, fX2_readNumber_102, fX2_readNumber_105, fX2_readNumber_107, fX2_readNumber_108, fX2_readNumber_111, fX2_readNumber_113, fX2_readNumber_114, ↓ex_if_icmp_le, fX2_readNumber_117, fX2_readNumber_118, fX2_readNumber_119, fX2_readNumber_122, fX2_readNumber_123, fX2_readNumber_126, fX2_readNumber_127, fX2_readNumber_128, ↓ex_ireturn, ↓rt_i, fX2_readNumber_129, fX2_readNumber_131, p12, p13, q12, q13, t3, t4, sI_1, upd_a, clampN (n := i) (by omega), t5 i hin, add1N, ↓reduceIte, not_true_eq_false, not_false_eq_true, false_implies, true_implies, implies_true, and_true, true_and, and_false, false_and, or_true, true_or, or_false, false_or, Classical.not_not, ite_true, ite_false]
        have e : dgW n b (k + 1) i v = cif (i < n ∧ 48 ≤ b i ∧ b i ≤ 57) (dgW n b k (i + 1) (v * 10 + (b i - 48))) (i, v) := rfl
        refine ⟨fun z => absurd z (by rw [leI, nI_toInt (n := n) (by omega), nI_toInt (n := i) (by omega)]; omega), fun _ => ⟨vp_inN (by omega) (by omega), fun z => ?_, fun z => ⟨vp_inN (by omega) (by omega), fun y => ?_, fun y => ⟨vp_inN (by omega) (by omega), ?_⟩⟩⟩⟩
        · rw [cif_f (fun x => by have h := x.2.1; rw [ltI] at z; rw [leI] at h; omega)] at e
          rw [e] at hout
          exact hout Y hF hT
        · rw [cif_f (fun x => by have h := x.2.2; rw [ltI] at y; rw [leI] at h; omega)] at e
          rw [e] at hout
          exact hout Y hF hT
        · rw [cif_t ⟨hin, by rw [ltI] at z; rw [leI]; omega, by rw [ltI] at y; rw [leI]; omega⟩] at e
          rw [e] at hout
          exact ih (i + 1) _ _ (by omega) (by omega) (hF.set _) (hT.set (by omega)) hout
    have hj0 := skp_at n b i0 hT0.2.1
    obtain ⟨J, hJ⟩ : ∃ J, J = skp n b (n - i0) i0 := ⟨_, rfl⟩
    rw [← hJ] at hj0 hpost
    have tail : ∀ Z, fr12 X Z → TXt Z n b (dgW n b (n - J) J 0).1 → R 85 [(0, .ref 12), (1, .int lo), (2, .int hi), (3, .int (nI J)), (4, .int (dgW n b (n - J) J 0).2)] [] Z := by
      intro Z hF hT
      obtain ⟨e, he⟩ : ∃ e, e = (dgW n b (n - J) J 0).1 := ⟨_, rfl⟩
      obtain ⟨v, hv⟩ : ∃ v, v = (dgW n b (n - J) J 0).2 := ⟨_, rfl⟩
      have hle := dgW_le n b (n - J) J 0 (by omega)
      have hp : dgW n b (n - J) J 0 = (e, v) := by rw [he, hv]
      unfold numR at hpost
      rw [hp] at hpost hle hT ⊢
      obtain ⟨t1, t2, t3, t4, t5⟩ := id hT
      have e1 : nI e - nI J = nI (e - J) := pk_sub (a := e) (b := J) (by omega)
      have bad : ¬ ((e = J + 1 ∨ e = J + 2) ∧ lo ≤ v ∧ v ≤ hi) → post (some (.int (-1))) (sI (sI Z 12 3 (nI J)) 12 4 (nI J)) := by
        intro c
        rw [cif_f c] at hpost
        exact hpost _ ((hF.set (nI J)).fr34.setF (nI J)) ((hT.set hj0.2).setF (nI J)) (fun _ => by simp [sI_1, upd_a]) (fun z => absurd rfl z)
      have good : ((e = J + 1 ∨ e = J + 2) ∧ lo ≤ v ∧ v ≤ hi) → post (some (.int v)) Z := by
        intro c
        rw [cif_t c] at hpost
        exact hpost Z hF.fr34 hT (fun z => absurd ((leI _ _).mp c.2.1) (by have z2 : v = -1 := z; rw [z2, tI_m1]; omega)) (fun _ => hF.2 4 (by omega))
      refine go hR [] 60 ?_
      simp only [↓reduceIte, Nat.reduceEqDiff, Nat.reduceAdd, Nat.reduceLeDiff, reduceCtorEq, and_true, true_and, false_and, and_false, true_or, or_true, or_false, false_or, true_implies, false_implies, implies_true, not_true_eq_false, not_false_eq_true, eq_self, fx_s, ↓run_s, run_0, ↓rs_n, ↓rs_c, as_s, ls_n, ls_c, lc_s, lget_c, fX2_readNumber_0, ↓ex_aload_n, ↓xR_r, ↓xRg_c, fX2_readNumber_1, ↓ex_invokevirtual, ↓xc_0, ↓xc_s, ↓xc_1, ↓pk_s, ↓k_s, ↓k_n, catS_n, catS_c, rOk_c, ct_i, ct_l, ct_r, ↓pk_f, fX2_readNumber_4, ↓ex_pop, fX2_readNumber_5, fX2_readNumber_6, ↓ex_getfield, ↓s1R_c, ↓fv_2_3, fX2_readNumber_9, ↓ex_istore_n, ↓s1I_c, ↓lsto_e, ↓lrmK_n, ↓lrmK_f, fX2_readNumber_10, ↓ex_iconst, fX2_readNumber_11, ↓ex_istore, fX2_readNumber_13, fX2_readNumber_14, fX2_readNumber_17, fX2_readNumber_18, ↓fv_2_1, fX2_readNumber_21, ↓ex_if_icmp_ge, ↓s2I_c, fX2_readNumber_24, fX2_readNumber_25, ↓fv_2_0, fX2_readNumber_28, fX2_readNumber_29, fX2_readNumber_32, ↓ex_iaload, ↓sRI_c, ↓scrR_n, fX2_readNumber_33, ↓ex_bipush, fX2_readNumber_35, ↓ex_if_icmp_lt, fX2_readNumber_38, fX2_readNumber_39, fX2_readNumber_42, fX2_readNumber_43, fX2_readNumber_46, fX2_readNumber_47, fX2_readNumber_49, ↓ex_if_icmp_gt, fX2_readNumber_52, ↓ex_iload, ↓xI_i, ↓xIg_c, fX2_readNumber_54, fX2_readNumber_56, ↓ex_imul, fX2_readNumber_57, fX2_readNumber_58, fX2_readNumber_61, fX2_readNumber_62, fX2_readNumber_65, fX2_readNumber_66, fX2_readNumber_68, ↓ex_isub, fX2_readNumber_69, ↓ex_iadd, fX2_readNumber_70, fX2_readNumber_72, fX2_readNumber_73, ↓ex_dup, fX2_readNumber_74, fX2_readNumber_77, fX2_readNumber_78, fX2_readNumber_79, ↓ex_putfield, ↓pf_2_3, fX2_readNumber_82, ↓ex_goto, fX2_readNumber_85, fX2_readNumber_86, fX2_readNumber_89, ↓ex_iload_n, fX2_readNumber_90, fX2_readNumber_91, fX2_readNumber_93, fX2_readNumber_95, fX2_readNumber_96, fX2_readNumber_99, fX2_readNumber_101, fX2_readNumber_102, fX2_readNumber_105, fX2_readNumber_107, fX2_readNumber_108, fX2_readNumber_111, fX2_readNumber_113, fX2_readNumber_114, ↓ex_if_icmp_le, fX2_readNumber_117, fX2_readNumber_118, fX2_readNumber_119, fX2_readNumber_122, fX2_readNumber_123, fX2_readNumber_126, fX2_readNumber_127, fX2_readNumber_128, ↓ex_ireturn, ↓rt_i, fX2_readNumber_129, fX2_readNumber_131, p12, q12, t4, e1, ↓C_X2_refuse, sI_1, upd_a, leI, ltI, nI_toInt (n := e - J) (by omega), tI_m5, tI_m4, tI_m3, tI_m2, tI_m1, tI_0, tI_1, tI_2, tI_3, tI_4, tI_5, tI_7, tI_8, tI_10, tI_12, tI_30, tI_31, tI_32, tI_47, tI_48, tI_57, tI_59, tI_42, tI_43, tI_45, tI_61, tI_62, tI_100, tI_120, tI_255, tI_1000, ↓reduceIte, not_true_eq_false, not_false_eq_true, false_implies, true_implies, implies_true, and_true, true_and, and_false, false_and, or_true, true_or, or_false, false_or, Classical.not_not, ite_true, ite_false]
      rw [leI, leI] at bad good
      repeat' (first | apply And.intro | intro _)
      all_goals first | exact bad (by omega) | exact good (by omega)
    refine go hR [(13, [0, 1, 2, 3, 4])] 60 ?_
    simp only [lv_args, ↓reduceIte, Nat.reduceEqDiff, Nat.reduceAdd, Nat.reduceLeDiff, reduceCtorEq, and_true, true_and, false_and, and_false, true_or, or_true, or_false, false_or, true_implies, false_implies, implies_true, not_true_eq_false, not_false_eq_true, eq_self, fx_s, ↓run_s, run_0, ↓rs_n, ↓rs_c, as_s, ls_n, ls_c, lc_s, lget_c, fX2_readNumber_0, ↓ex_aload_n, ↓xR_r, ↓xRg_c, fX2_readNumber_1, ↓ex_invokevirtual, ↓xc_0, ↓xc_s, ↓xc_1, ↓pk_s, ↓k_s, ↓k_n, catS_n, catS_c, rOk_c, ct_i, ct_l, ct_r, ↓pk_f, fX2_readNumber_4, ↓ex_pop, fX2_readNumber_5, fX2_readNumber_6, ↓ex_getfield, ↓s1R_c, ↓fv_2_3, fX2_readNumber_9, ↓ex_istore_n, ↓s1I_c, ↓lsto_e, ↓lrmK_n, ↓lrmK_f, fX2_readNumber_10, ↓ex_iconst, fX2_readNumber_11, ↓ex_istore, fX2_readNumber_13, fX2_readNumber_14, fX2_readNumber_17, fX2_readNumber_18, ↓fv_2_1, fX2_readNumber_21, ↓ex_if_icmp_ge, ↓s2I_c, fX2_readNumber_24, fX2_readNumber_25, ↓fv_2_0, fX2_readNumber_28, fX2_readNumber_29, fX2_readNumber_32, ↓ex_iaload, ↓sRI_c, ↓scrR_n, fX2_readNumber_33, ↓ex_bipush, fX2_readNumber_35, ↓ex_if_icmp_lt, fX2_readNumber_38, fX2_readNumber_39, fX2_readNumber_42, fX2_readNumber_43, fX2_readNumber_46, fX2_readNumber_47, fX2_readNumber_49, ↓ex_if_icmp_gt, fX2_readNumber_52, ↓ex_iload, ↓xI_i, ↓xIg_c, fX2_readNumber_54, fX2_readNumber_56, ↓ex_imul, fX2_readNumber_57, fX2_readNumber_58, fX2_readNumber_61, fX2_readNumber_62, fX2_readNumber_65, fX2_readNumber_66, fX2_readNumber_68, ↓ex_isub, fX2_readNumber_69, ↓ex_iadd, fX2_readNumber_70, fX2_readNumber_72, fX2_readNumber_73, ↓ex_dup, fX2_readNumber_74, fX2_readNumber_77, fX2_readNumber_78, fX2_readNumber_79, ↓ex_putfield, ↓pf_2_3, fX2_readNumber_82, ↓ex_goto, fX2_readNumber_85, fX2_readNumber_86, fX2_readNumber_89, ↓ex_iload_n, fX2_readNumber_90, fX2_readNumber_91, fX2_readNumber_93, fX2_readNumber_95, fX2_readNumber_96, fX2_readNumber_99, fX2_readNumber_101, fX2_readNumber_102, fX2_readNumber_105, fX2_readNumber_107, fX2_readNumber_108, fX2_readNumber_111, fX2_readNumber_113, fX2_readNumber_114, ↓ex_if_icmp_le, fX2_readNumber_117, fX2_readNumber_118, fX2_readNumber_119, fX2_readNumber_122, fX2_readNumber_123, fX2_readNumber_126, fX2_readNumber_127, fX2_readNumber_128, ↓ex_ireturn, ↓rt_i, fX2_readNumber_129, fX2_readNumber_131, p12, q12, ↓C_X2_nextByte, ↓reduceIte, not_true_eq_false, not_false_eq_true, false_implies, true_implies, implies_true, and_true, true_and, and_false, false_and, or_true, true_or, or_false, false_or, Classical.not_not, ite_true, ite_false]
    refine ⟨n, b, i0, hT0, fun Y hF hT => ?_⟩
    rw [← hJ] at hT
    rw [hT.2.2.2.1]
    exact key J (n - J) J 0 Y rfl (Nat.le_refl _) hF hT (fun Z hZ hTZ => tail Z hZ hTZ)
  next => exact hC.elim)
end TEXTN
