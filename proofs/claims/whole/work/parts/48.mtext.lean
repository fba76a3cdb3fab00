section MTEXT
def TXm (X : XT) (n : Nat) (b : Nat → Int32) (i : Nat) : Prop := n ≤ 120 ∧ i ≤ n ∧ X.1 51 7 = nI n ∧ X.1 51 8 = nI i ∧ ∀ j, j < n → X.1 56 j = b j ∧ 0 ≤ (b j).toInt
def fr8 (X X' : XT) : Prop := Fr (fun k => k = 51) X X' ∧ ∀ p, p ≠ 8 → X'.1 51 p = X.1 51 p
theorem fr8.rf (X : XT) : fr8 X X := ⟨Fr.rf _ _, fun _ _ => rfl⟩
theorem fr8.tr {X Y Z : XT} (h : fr8 X Y) (g : fr8 Y Z) : fr8 X Z := ⟨h.1.tr g.1, fun p hp => (g.2 p hp).trans (h.2 p hp)⟩
theorem fr8.set {X Y : XT} (h : fr8 X Y) (v : Int32) : fr8 X (sI Y 51 8 v) := ⟨Fr.pI (P := fun k => k = 51) h.1 rfl _ _, fun p hp => by rw [sI_1, if_pos rfl, upd_a, if_neg hp]; exact h.2 p hp⟩
theorem TXm.set {X : XT} {n : Nat} {b : Nat → Int32} {i j : Nat} (h : TXm X n b i) (hj : j ≤ n) : TXm (sI X 51 8 (nI j)) n b j := by
  obtain ⟨t1, t2, t3, t4, t5⟩ := h
  refine ⟨t1, hj, ?_, ?_, fun k hk => ?_⟩
  · rw [sI_1, if_pos rfl, upd_a, if_neg (by decide)]; exact t3
  · rw [sI_1, if_pos rfl, upd_a, if_pos rfl]
  · rw [sI_1, if_neg (by decide)]; exact t5 k hk
noncomputable def C_X4_here : CT := fun As X K => match As with
  | [.ref r] => ∃ (n : Nat) (b : Nat → Int32) (i : Nat), (r = 51 ∧ TXm X n b i) ∧ ∀ X', fr8 X X' → TXm X' n b (skp n b (n - i) i) → K (some (.int (byA n b (skp n b (n - i) i)))) X'
  | _ => False
set_option maxRecDepth 20000 in
set_option maxHeartbeats 4000000 in
theorem d_X4_here (l : Launch) : Does l yX4_here (wY yX4_here cX4_here 1 (retT 0)) (rmF 0) C_X4_here := does_of (rt := 0) (by decide +kernel) tkX4_here (calls := []) (fun _ h => absurd h List.not_mem_nil) (by
  intro As X post hC
  unfold C_X4_here at hC
  split at hC
  next r =>
    obtain ⟨n, b, i0, ⟨rfl, hT0⟩, hpost⟩ := hC
    refine ⟨Nat.le_of_ble_eq_true rfl, fun R hR => ?_⟩
    obtain ⟨⟨p1, p2, p3, p4, p5, p6, p7⟩, q1, q2, q3, q4, q5, q6, q7⟩ := sh_m
    have fin : ∀ Y, fr8 X Y → TXm Y n b (skp n b (n - i0) i0) → R 38 [(0, .ref 51)] [] Y := by
      intro Y hF hT
      have hp := hpost Y hF hT
      obtain ⟨t1, t2, t3, t4, t5⟩ := hT
      refine go hR [(0, [0]), (38, [0])] 40 ?_
      simp only [↓reduceIte, Nat.reduceEqDiff, Nat.reduceAdd, Nat.reduceLeDiff, reduceCtorEq, and_true, true_and, false_and, and_false, true_or, or_true, or_false, false_or, true_implies, false_implies, implies_true, not_true_eq_false, not_false_eq_true, eq_self, fx_s, ↓run_s, run_0, ↓rs_n, ↓rs_c, as_s, ls_n, ls_c, lc_s, lget_c, fX4_here_0, ↓ex_aload_n, ↓xR_r, ↓xRg_c, fX4_here_1, ↓ex_getfield, ↓s1R_c, ↓fv_4_8, fX4_here_4, fX4_here_5, ↓fv_4_7, fX4_here_8, ↓ex_if_icmp_ge, ↓s2I_c, fX4_here_11, fX4_here_12, ↓fv_4_6, fX4_here_15, fX4_here_16, fX4_here_19, ↓ex_iaload, ↓sRI_c, ↓scrR_n, fX4_here_20, ↓ex_bipush, fX4_here_22, ↓ex_if_icmp_ne, fX4_here_25, fX4_here_26, ↓ex_dup, ct_i, ct_l, ct_r, fX4_here_27, fX4_here_30, ↓ex_iconst, fX4_here_31, ↓ex_iadd, fX4_here_32, ↓ex_putfield, ↓pf_4_8, fX4_here_35, ↓ex_goto, fX4_here_38, fX4_here_39, fX4_here_42, fX4_here_43, fX4_here_46, fX4_here_49, fX4_here_50, fX4_here_53, fX4_here_54, fX4_here_57, fX4_here_58, fX4_here_61, fX4_here_62, ↓ex_ireturn, ↓rt_i, p1, p6, q1, q6, t3, t4, leI, nI_toInt (n := n) (by omega), nI_toInt (n := skp n b (n - i0) i0) (by omega), clampN (n := skp n b (n - i0) i0) (by omega), ↓reduceIte, not_true_eq_false, not_false_eq_true, false_implies, true_implies, implies_true, and_true, true_and, and_false, false_and, or_true, true_or, or_false, false_or, Classical.not_not, ite_true, ite_false]
      unfold byA at hp
      refine ⟨fun z => ?_, fun z => ⟨vp_inN (by omega) (by omega), ?_⟩⟩
      · rw [cif_f (by omega)] at hp; exact hp
      · rw [cif_t (by omega)] at hp; rw [(t5 _ (by omega)).1]; exact hp
    have key : ∀ k i Y, k = n - i → fr8 X Y → TXm Y n b i → skp n b k i = skp n b (n - i0) i0 → R 0 [(0, .ref 51)] [] Y := by
      intro k
      induction k with
      | zero =>
        intro i Y hk hF hT hs
        have hf := fin Y hF (by rw [← hs]; exact hT)
        obtain ⟨t1, t2, t3, t4, t5⟩ := id hT
        refine go hR [(0, [0]), (38, [0])] 40 ?_
        simp only [↓reduceIte, Nat.reduceEqDiff, Nat.reduceAdd, Nat.reduceLeDiff, reduceCtorEq, and_true, true_and, false_and, and_false, true_or, or_true, or_false, false_or, true_implies, false_implies, implies_true, not_true_eq_false, not_false_eq_true, eq_self, fx_s, ↓run_s, run_0, ↓rs_n, ↓rs_c, as_s, ls_n, ls_c, lc_s, lget_c, fX4_here_0, ↓ex_aload_n, ↓xR_r, ↓xRg_c, fX4_here_1, ↓ex_getfield, ↓s1R_c, ↓fv_4_8, fX4_here_4, fX4_here_5, ↓fv_4_7, fX4_here_8, ↓ex_if_icmp_ge, ↓s2I_c, fX4_here_11, fX4_here_12, ↓fv_4_6, fX4_here_15, fX4_here_16, fX4_here_19, ↓ex_iaload, ↓sRI_c, ↓scrR_n, fX4_here_20, ↓ex_bipush, fX4_here_22, ↓ex_if_icmp_ne, fX4_here_25, fX4_here_26, ↓ex_dup, ct_i, ct_l, ct_r, fX4_here_27, fX4_here_30, ↓ex_iconst, fX4_here_31, ↓ex_iadd, fX4_here_32, ↓ex_putfield, ↓pf_4_8, fX4_here_35, ↓ex_goto, fX4_here_38, fX4_here_39, fX4_here_42, fX4_here_43, fX4_here_46, fX4_here_49, fX4_here_50, fX4_here_53, fX4_here_54, fX4_here_57, fX4_here_58, fX4_here_61, fX4_here_62, ↓ex_ireturn, ↓rt_i, p1, p6, q1, q6, t3, t4, leI, nI_toInt (n := n) (by omega), nI_toInt (n := i) (by omega), clampN (n := i) (by omega), ↓reduceIte, not_true_eq_false, not_false_eq_true, false_implies, true_implies, implies_true, and_true, true_and, and_false, false_and, or_true, true_or, or_false, false_or, Classical.not_not, ite_true, ite_false]
        exact ⟨fun _ => hf, fun z => absurd (by omega) z⟩
      | succ k ih =>
        intro i Y hk hF hT hs
        obtain ⟨t1, t2, t3, t4, t5⟩ := id hT
        have hin : i < n := by omega
        refine go hR [(0, [0]), (38, [0])] 40 ?_
        simp only [↓reduceIte, Nat.reduceEqDiff, Nat.reduceAdd, Nat.reduceLeDiff, reduceCtorEq, and_true, true_and, false_and, and_false, true_or, or_true, or_false, false_or, true_implies, false_implies, implies_true, not_true_eq_false, not_false_eq_true, eq_self, fx_s, ↓run_s, run_0, ↓rs_n, ↓rs_c, as_s, ls_n, ls_c, lc_s, lget_c, fX4_here_0, ↓ex_aload_n, ↓xR_r, ↓xRg_c, fX4_here_1, ↓ex_getfield, ↓s1R_c, ↓fv_4_8, fX4_here_4, fX4_here_5, ↓fv_4_7, fX4_here_8, ↓ex_if_icmp_ge, ↓s2I_c, fX4_here_11, fX4_here_12, ↓fv_4_6, fX4_here_15, fX4_here_16, fX4_here_19, ↓ex_iaload, ↓sRI_c, ↓scrR_n, fX4_here_20, ↓ex_bipush, fX4_here_22, ↓ex_if_icmp_ne, fX4_here_25, fX4_here_26, ↓ex_dup, ct_i, ct_l, ct_r, fX4_here_27, fX4_here_30, ↓ex_iconst, fX4_here_31, ↓ex_iadd, fX4_here_32, ↓ex_putfield, ↓pf_4_8, fX4_here_35, ↓ex_goto, fX4_here_38, fX4_here_39, fX4_here_42, fX4_here_43, fX4_here_46, fX4_here_49, fX4_here_50, fX4_here_53, fX4_here_54, fX4_here_57, fX4_here_58, fX4_here_61, fX4_here_62, ↓ex_ireturn, ↓rt_i, p1, p6, q1, q6, t3, t4, leI, nI_toInt (n := n) (by omega), nI_toInt (n := i) (by omega), clampN (n := i) (by omega), (t5 i hin).1, add1N, ↓reduceIte, not_true_eq_false, not_false_eq_true, false_implies, true_implies, implies_true, and_true, true_and, and_false, false_and, or_true, true_or, or_false, false_or, Classical.not_not, ite_true, ite_false]
        have h : cif (i < n ∧ b i = 32) (skp n b k (i + 1)) i = skp n b (n - i0) i0 := hs
        refine ⟨fun z => absurd z (by omega), fun _ => ⟨vp_inN (by omega) (by omega), fun z => ?_, fun z => ?_⟩⟩
        · refine fin Y hF ?_
          rw [cif_f (fun x => z x.2)] at h
          rw [← h]; exact hT
        · refine ih (i + 1) _ (by omega) (hF.set _) (hT.set (by omega)) ?_
          rw [cif_t ⟨hin, z⟩] at h
          exact h
    exact key (n - i0) i0 X rfl (fr8.rf X) hT0 rfl
  next => exact hC.elim)
noncomputable def C_X4_sign : CT := fun As X K => match As with
  | [.ref r, .int c] => ∃ (n : Nat) (b : Nat → Int32) (i : Nat), (r = 51 ∧ TXm X n b i ∧ c ≠ -1) ∧
    (byA n b (skp n b (n - i) i) = c → ∀ X', fr8 X X' → TXm X' n b (skp n b (n - i) i + 1) → K (some (.int 1)) X') ∧
    (byA n b (skp n b (n - i) i) ≠ c → ∀ X', fr8 X X' → TXm X' n b (skp n b (n - i) i) → K (some (.int 0)) X')
  | _ => False
set_option maxRecDepth 20000 in
set_option maxHeartbeats 4000000 in
theorem d_X4_sign (l : Launch) : Does l yX4_sign (wY yX4_sign cX4_sign 3 (retT 1)) (rmF 1) C_X4_sign := does_of (rt := 1) (by decide +kernel) tkX4_sign (calls := [(111, false, 1, 4, C_X4_here)]) (List.forall_mem_cons.mpr ⟨cr_V (d_X4_here l) rfl (by decide +kernel) (by decide +kernel) ⟨rfl, rfl⟩ ⟨Nat.le_of_ble_eq_true rfl, Nat.le_of_ble_eq_true rfl⟩, fun _ h => absurd h List.not_mem_nil⟩) (by
  intro As X post hC
  unfold C_X4_sign at hC
  split at hC
  next r c =>
    obtain ⟨n, b, i0, ⟨rfl, hT0, hc⟩, hp1, hp2⟩ := hC
    refine ⟨Nat.le_of_ble_eq_true rfl, fun R hR => ?_⟩
    obtain ⟨⟨p1, p2, p3, p4, p5, p6, p7⟩, q1, q2, q3, q4, q5, q6, q7⟩ := sh_m
    refine go hR [] 60 ?_
    simp only [lv_args, ↓reduceIte, Nat.reduceEqDiff, Nat.reduceAdd, Nat.reduceLeDiff, reduceCtorEq, and_true, true_and, false_and, and_false, true_or, or_true, or_false, false_or, true_implies, false_implies, implies_true, not_true_eq_false, not_false_eq_true, eq_self, fx_s, ↓run_s, run_0, ↓rs_n, ↓rs_c, as_s, ls_n, ls_c, lc_s, lget_c, fX4_sign_0, ↓ex_aload_n, ↓xR_r, ↓xRg_c, fX4_sign_1, ↓ex_invokevirtual, ↓xc_0, ↓xc_s, ↓xc_1, ↓pk_s, ↓k_s, ↓k_n, catS_n, catS_c, rOk_c, ct_i, ct_l, ct_r, ↓pk_f, fX4_sign_4, ↓ex_iload_n, ↓xI_i, ↓xIg_c, fX4_sign_5, ↓ex_if_icmp_ne, ↓s2I_c, fX4_sign_8, ↓ex_iconst, fX4_sign_9, ↓ex_goto, fX4_sign_12, fX4_sign_13, ↓ex_istore_n, ↓s1I_c, ↓lsto_e, ↓lrmK_n, ↓lrmK_f, fX4_sign_14, fX4_sign_15, ↓ex_dup, fX4_sign_16, ↓ex_getfield, ↓s1R_c, ↓fv_4_8, fX4_sign_19, fX4_sign_20, ↓ex_ifCond_eq, fX4_sign_23, fX4_sign_24, fX4_sign_27, fX4_sign_28, ↓ex_iadd, fX4_sign_29, ↓ex_putfield, ↓pf_4_8, fX4_sign_32, fX4_sign_33, ↓ex_ireturn, ↓rt_i, p1, q1, ↓C_X4_here, i10, ↓reduceIte, not_true_eq_false, not_false_eq_true, false_implies, true_implies, implies_true, and_true, true_and, and_false, false_and, or_true, true_or, or_false, false_or, Classical.not_not, ite_true, ite_false]
    refine ⟨n, b, i0, hT0, fun Y hF hT => ?_⟩
    have t4 := hT.2.2.2.1
    rw [t4, add1N, add0N]
    refine ⟨fun z => ⟨bl_0, hp2 z _ (hF.set _) (hT.set hT.2.1)⟩, fun z => ⟨bl_1, hp1 z _ (hF.set _) (hT.set ?_)⟩⟩
    have := byA_lt z hc
    omega
  next => exact hC.elim)
noncomputable def C_X4_number : CT := fun As X K => match As with
  | [.ref r, .int lo, .int hi] => ∃ (n : Nat) (b : Nat → Int32) (i : Nat), (r = 51 ∧ TXm X n b i ∧ 0 ≤ lo.toInt) ∧ ∀ X', fr8 X X' → TXm X' n b (numR n b lo hi (skp n b (n - i) i)).1 → K (some (.int (numR n b lo hi (skp n b (n - i) i)).2)) X'
  | _ => False
theorem dg_ring (v c : Int32) : (10 : Int32) * v + c - 48 = v * 10 + (c - 48) := by
  rw [Int32.mul_comm, Int32.sub_eq_add_neg, Int32.sub_eq_add_neg, Int32.add_assoc]
set_option maxRecDepth 20000 in
set_option maxHeartbeats 4000000 in
theorem d_X4_number (l : Launch) : Does l yX4_number (wY yX4_number cX4_number 6 (retT 0)) (rmF 1) C_X4_number := does_of (rt := 0) (by decide +kernel) tkX4_number (calls := [(111, false, 1, 4, C_X4_here), (42, true, 3, 4, C_X4_in)]) (List.forall_mem_cons.mpr ⟨cr_V (d_X4_here l) rfl (by decide +kernel) (by decide +kernel) ⟨rfl, rfl⟩ ⟨Nat.le_of_ble_eq_true rfl, Nat.le_of_ble_eq_true rfl⟩, List.forall_mem_cons.mpr ⟨cr_S (d_X4_in l) (by decide +kernel) (by decide +kernel) ⟨rfl, rfl⟩ ⟨Nat.le_of_ble_eq_true rfl, Nat.le_of_ble_eq_true rfl⟩, fun _ h => absurd h List.not_mem_nil⟩⟩) (by
  intro As X post hC
  unfold C_X4_number at hC
  split at hC
  next r lo hi =>
    obtain ⟨n, b, i0, ⟨rfl, hT0, hlo⟩, hpost⟩ := hC
    refine ⟨Nat.le_of_ble_eq_true rfl, fun R hR => ?_⟩
    obtain ⟨⟨p1, p2, p3, p4, p5, p6, p7⟩, q1, q2, q3, q4, q5, q6, q7⟩ := sh_m
    have hj0 := skp_at n b i0 hT0.2.1
    obtain ⟨J, hJ⟩ : ∃ J, J = skp n b (n - i0) i0 := ⟨_, rfl⟩
    rw [← hJ] at hj0 hpost
    have main : ∀ Y, fr8 X Y → TXm Y n b J → R 14 [(0, .ref 51), (1, .int lo), (2, .int hi), (3, .int (byA n b J)), (4, .int (nI J)), (5, .int 0)] [] Y := by
      intro Y hF hT
      obtain ⟨t1, t2, t3, t4, t5⟩ := id hT
      have hle := dgW_le n b (n - J) J 0 (by omega)
      have tail : ∀ vm, ((dgW n b (n - J) J 0).1 - J ≤ 3 → vm = (dgW n b (n - J) J 0).2) → R 84 [(0, .ref 51), (1, .int lo), (2, .int hi), (4, .int (nI (dgW n b (n - J) J 0).1)), (5, .int vm)] [] Y := by
        intro vm hvm
        obtain ⟨e, he⟩ : ∃ e, e = (dgW n b (n - J) J 0).1 := ⟨_, rfl⟩
        obtain ⟨v, hv⟩ : ∃ v, v = (dgW n b (n - J) J 0).2 := ⟨_, rfl⟩
        have hp : dgW n b (n - J) J 0 = (e, v) := by rw [he, hv]
        unfold numR at hpost
        rw [hp] at hpost hle hvm ⊢
        have e1 : nI e - nI J = nI (e - J) := pk_sub (a := e) (b := J) (by omega)
        have bad : ¬ ((e = J + 1 ∨ e = J + 2) ∧ lo ≤ v ∧ v ≤ hi) → post (some (.int (-1))) Y := by
          intro c
          rw [cif_f c] at hpost
          exact hpost Y hF hT
        have good : ((e = J + 1 ∨ e = J + 2) ∧ lo ≤ v ∧ v ≤ hi) → post (some (.int v)) (sI Y 51 8 (nI e)) := by
          intro c
          rw [cif_t c] at hpost
          exact hpost _ (hF.set _) (hT.set (by omega))
        refine go hR [] 60 ?_
        simp only [↓reduceIte, Nat.reduceEqDiff, Nat.reduceAdd, Nat.reduceLeDiff, reduceCtorEq, and_true, true_and, false_and, and_false, true_or, or_true, or_false, false_or, true_implies, false_implies, implies_true, not_true_eq_false, not_false_eq_true, eq_self, fx_s, ↓run_s, run_0, ↓rs_n, ↓rs_c, as_s, ls_n, ls_c, lc_s, lget_c, fX4_number_0, ↓ex_aload_n, ↓xR_r, ↓xRg_c, fX4_number_1, ↓ex_invokevirtual, ↓xc_0, ↓xc_s, ↓xc_1, ↓pk_s, ↓k_s, ↓k_n, catS_n, catS_c, rOk_c, ct_i, ct_l, ct_r, ↓pk_f, fX4_number_4, ↓ex_istore_n, ↓s1I_c, ↓lsto_e, ↓lrmK_n, ↓lrmK_f, fX4_number_5, fX4_number_6, ↓ex_getfield, ↓s1R_c, ↓fv_4_8, fX4_number_9, ↓ex_istore, fX4_number_11, ↓ex_iconst, fX4_number_12, fX4_number_14, ↓ex_iload_n, ↓xI_i, ↓xIg_c, fX4_number_15, ↓ex_ifCond_lt, fX4_number_18, ↓ex_iload, fX4_number_20, fX4_number_21, ↓fv_4_7, fX4_number_24, ↓ex_if_icmp_ge, ↓s2I_c, fX4_number_27, fX4_number_28, ↓fv_4_6, fX4_number_31, fX4_number_33, ↓ex_iaload, ↓sRI_c, ↓scrR_n, fX4_number_34, ↓ex_bipush, fX4_number_36, fX4_number_38, ↓ex_invokestatic, ↓pk_t, fX4_number_41, ↓ex_ifCond_eq, fX4_number_44, fX4_number_46, fX4_number_47, fX4_number_50, ↓ex_isub, fX4_number_51, fX4_number_52, fX4_number_55, fX4_number_57, fX4_number_59, ↓ex_imul, fX4_number_60, fX4_number_61, fX4_number_64, fX4_number_66, fX4_number_67, ↓ex_iadd, fX4_number_68, fX4_number_70, fX4_number_71, ↓ex_goto, fX4_number_74, fX4_number_76, fX4_number_78, ↓ex_iinc, fX4_number_81, fX4_number_84, fX4_number_86, fX4_number_87, fX4_number_90, ↓ex_if_icmp_eq, fX4_number_93, fX4_number_95, fX4_number_96, fX4_number_99, fX4_number_100, fX4_number_101, ↓ex_if_icmp_gt, fX4_number_104, fX4_number_106, fX4_number_107, fX4_number_108, fX4_number_111, ↓ex_ifCond_ne, fX4_number_114, fX4_number_115, ↓ex_ireturn, ↓rt_i, fX4_number_116, fX4_number_117, fX4_number_119, ↓ex_putfield, ↓pf_4_8, fX4_number_122, fX4_number_124, p1, q1, t4, e1, ↓C_X4_in, b2i_0, eqN (a := e) (b := J) (by omega) (by omega), leI, ltI, nI_toInt (n := e - J) (by omega), tI_m5, tI_m4, tI_m3, tI_m2, tI_m1, tI_0, tI_1, tI_2, tI_3, tI_4, tI_5, tI_7, tI_8, tI_10, tI_12, tI_30, tI_31, tI_32, tI_47, tI_48, tI_57, tI_59, tI_42, tI_43, tI_45, tI_61, tI_62, tI_100, tI_120, tI_255, tI_1000, ↓reduceIte, not_true_eq_false, not_false_eq_true, false_implies, true_implies, implies_true, and_true, true_and, and_false, false_and, or_true, true_or, or_false, false_or, Classical.not_not, ite_true, ite_false]
        rw [leI, leI] at bad good
        have tovm : e - J ≤ 2 → vm = v := fun z => hvm (by show e - J ≤ 3; omega)
        have hle1 : J ≤ e := hle.1
        refine ⟨fun z => bad (by omega), fun z => ⟨fun y => bad (by omega), fun y => ⟨fun x => ?_, fun x => bad (fun w => x ?_)⟩⟩⟩
        · rw [tovm (by omega)] at x ⊢
          exact good ⟨by omega, x.1, x.2⟩
        · rw [tovm (by omega)]
          exact ⟨w.2.1, w.2.2⟩
      have key : ∀ k i v vm, k = n - i → J ≤ i → i ≤ n → (i - J ≤ 3 → vm = v) → dgW n b k i v = dgW n b (n - J) J 0 → R 14 [(0, .ref 51), (1, .int lo), (2, .int hi), (3, .int (byA n b J)), (4, .int (nI i)), (5, .int vm)] [] Y := by
        intro k
        induction k with
        | zero =>
          intro i v vm hk hJi hin hvm hd
          have htl := tail vm (by rw [← hd]; exact hvm)
          rw [← hd] at htl
          refine go hR [(14, [0, 1, 2, 3, 4, 5]), (84, [0, 1, 2, 4, 5])] 60 ?_
          simp only [↓reduceIte, Nat.reduceEqDiff, Nat.reduceAdd, Nat.reduceLeDiff, reduceCtorEq, and_true, true_and, false_and, and_false, true_or, or_true, or_false, false_or, true_implies, false_implies, implies_true, not_true_eq_false, not_false_eq_true, eq_self, fx_s, ↓run_s, run_0, ↓rs_n, ↓rs_c, as_s, ls_n, ls_c, lc_s, lget_c, fX4_number_0, ↓ex_aload_n, ↓xR_r, ↓xRg_c, fX4_number_1, ↓ex_invokevirtual, ↓xc_0, ↓xc_s, ↓xc_1, ↓pk_s, ↓k_s, ↓k_n, catS_n, catS_c, rOk_c, ct_i, ct_l, ct_r, ↓pk_f, fX4_number_4, ↓ex_istore_n, ↓s1I_c, ↓lsto_e, ↓lrmK_n, ↓lrmK_f, fX4_number_5, fX4_number_6, ↓ex_getfield, ↓s1R_c, ↓fv_4_8, fX4_number_9, ↓ex_istore, fX4_number_11, ↓ex_iconst, fX4_number_12, fX4_number_14, ↓ex_iload_n, ↓xI_i, ↓xIg_c, fX4_number_15, ↓ex_ifCond_lt, fX4_number_18, ↓ex_iload, fX4_number_20, fX4_number_21, ↓fv_4_7, fX4_number_24, ↓ex_if_icmp_ge, ↓s2I_c, fX4_number_27, fX4_number_28, ↓fv_4_6, fX4_number_31, fX4_number_33, ↓ex_iaload, ↓sRI_c, ↓scrR_n, fX4_number_34, ↓ex_bipush, fX4_number_36, fX4_number_38, ↓ex_invokestatic, ↓pk_t, fX4_number_41, ↓ex_ifCond_eq, fX4_number_44, fX4_number_46, fX4_number_47, fX4_number_50, ↓ex_isub, fX4_number_51, fX4_number_52, fX4_number_55, fX4_number_57, fX4_number_59, ↓ex_imul, fX4_number_60, fX4_number_61, fX4_number_64, fX4_number_66, fX4_number_67, ↓ex_iadd, fX4_number_68, fX4_number_70, fX4_number_71, ↓ex_goto, fX4_number_74, fX4_number_76, fX4_number_78, ↓ex_iinc, fX4_number_81, fX4_number_84, fX4_number_86, fX4_number_87, fX4_number_90, ↓ex_if_icmp_eq, fX4_number_93, fX4_number_95, fX4_number_96, fX4_number_99, fX4_number_100, fX4_number_101, ↓ex_if_icmp_gt, fX4_number_104, fX4_number_106, fX4_number_107, fX4_number_108, fX4_number_111, ↓ex_ifCond_ne, fX4_number_114, fX4_number_115, ↓ex_ireturn, ↓rt_i, fX4_number_116, fX4_number_117, fX4_number_119, ↓ex_putfield, ↓pf_4_8, fX4_number_122, fX4_number_124, p1, p6, q1, q6, t3, t4, leN (a := n) (b := i) (by omega) (by omega), ↓reduceIte, not_true_eq_false, not_false_eq_true, false_implies, true_implies, implies_true, and_true, true_and, and_false, false_and, or_true, true_or, or_false, false_or, Classical.not_not, ite_true, ite_false]
          exact ⟨fun _ => htl, fun _ => ⟨fun _ => htl, fun z => absurd (by omega) z⟩⟩
        | succ k ih =>
          intro i v vm hk hJi hin hvm hd
          have hiN : i < n := by omega
          have hfirst : ¬ byA n b J < 0 := by
            unfold byA
            rw [cif_t (by omega), ltI, tI_0]
            have := (t5 J (by omega)).2
            omega
          have e1 : nI i - nI J = nI (i - J) := pk_sub (a := i) (b := J) (by omega)
          have ed : dgW n b (k + 1) i v = cif (i < n ∧ 48 ≤ b i ∧ b i ≤ 57) (dgW n b k (i + 1) (v * 10 + (b i - 48))) (i, v) := rfl
          have stop : ¬ inR (b i) 48 57 → R 84 [(0, .ref 51), (1, .int lo), (2, .int hi), (4, .int (nI i)), (5, .int vm)] [] Y := by
            intro hno
            have e2 : dgW n b (n - J) J 0 = (i, v) := by
              rw [← hd, ed, cif_f (fun z => hno ⟨by have := z.2.1; rw [leI] at this; exact this, by have := z.2.2; rw [leI] at this; exact this⟩)]
            have htl := tail vm (by rw [e2]; exact hvm)
            rw [e2] at htl
            exact htl
          have next : inR (b i) 48 57 → ∀ w, (i - J < 3 → w = 10 * vm + b i - 48) → R 14 [(0, .ref 51), (1, .int lo), (2, .int hi), (3, .int (byA n b J)), (4, .int (nI (i + 1))), (5, .int w)] [] Y := by
            intro hyes w hw
            refine ih (i + 1) (v * 10 + (b i - 48)) w (by omega) (by omega) (by omega) (fun z => ?_) ?_
            · rw [hw (by omega), hvm (by omega), dg_ring]
            · rw [← hd, ed, cif_t ⟨hiN, by rw [leI]; exact hyes.1, by rw [leI]; exact hyes.2⟩]
          refine go hR [(14, [0, 1, 2, 3, 4, 5]), (84, [0, 1, 2, 4, 5])] 60 ?_
          simp only [↓reduceIte, Nat.reduceEqDiff, Nat.reduceAdd, Nat.reduceLeDiff, reduceCtorEq, and_true, true_and, false_and, and_false, true_or, or_true, or_false, false_or, true_implies, false_implies, implies_true, not_true_eq_false, not_false_eq_true, eq_self, fx_s, ↓run_s, run_0, ↓rs_n, ↓rs_c, as_s, ls_n, ls_c, lc_s, lget_c, fX4_number_0, ↓ex_aload_n, ↓xR_r, ↓xRg_c, fX4_number_1, ↓ex_invokevirtual, ↓xc_0, ↓xc_s, ↓xc_1, ↓pk_s, ↓k_s, ↓k_n, catS_n, catS_c, rOk_c, ct_i, ct_l, ct_r, ↓pk_f, fX4_number_4, ↓ex_istore_n, ↓s1I_c, ↓lsto_e, ↓lrmK_n, ↓lrmK_f, fX4_number_5, fX4_number_6, ↓ex_getfield, ↓s1R_c, ↓fv_4_8, fX4_number_9, ↓ex_istore, fX4_number_11, ↓ex_iconst, fX4_number_12, fX4_number_14, ↓ex_iload_n, ↓xI_i, ↓xIg_c, fX4_number_15, ↓ex_ifCond_lt, fX4_number_18, ↓ex_iload, fX4_number_20, fX4_number_21, ↓fv_4_7, fX4_number_24, ↓ex_if_icmp_ge, ↓s2I_c, fX4_number_27, fX4_number_28, ↓fv_4_6, fX4_number_31, fX4_number_33, ↓ex_iaload, ↓sRI_c, ↓scrR_n, fX4_number_34, ↓ex_bipush, fX4_number_36, fX4_number_38, ↓ex_invokestatic, ↓pk_t, fX4_number_41, ↓ex_ifCond_eq, fX4_number_44, fX4_number_46, fX4_number_47, fX4_number_50, ↓ex_isub, fX4_number_51, fX4_number_52, fX4_number_55, fX4_number_57, fX4_number_59, ↓ex_imul, fX4_number_60, fX4_number_61, fX4_number_64, fX4_number_66, fX4_number_67, ↓ex_iadd, fX4_number_68, fX4_number_70, fX4_number_71, ↓ex_goto, fX4_number_74, fX4_number_76, fX4_number_78, ↓ex_iinc, fX4_number_81, fX4_number_84, fX4_number_86, fX4_number_87, fX4_number_90, ↓ex_if_icmp_eq, fX4_number_93, fX4_number_95, fX4_number_96, fX4_number_99, fX4_number_100, fX4_number_101, ↓ex_if_icmp_gt, fX4_number_104, fX4_number_106, fX4_number_107, fX4_number_108, fX4_number_111, ↓ex_ifCond_ne, fX4_number_114, fX4_number_115, ↓ex_ireturn, ↓rt_i, fX4_number_116, fX4_number_117, fX4_number_119, ↓ex_putfield, ↓pf_4_8, fX4_number_122, fX4_number_124, p1, p6, q1, q6, t3, t4, hfirst, leN (a := n) (b := i) (by omega) (by omega), ↓C_X4_in, b2i_0, (t5 i hiN).1, e1, leI, nI_toInt (n := i - J) (by omega), clampN (n := i) (by omega), add1N, tI_m5, tI_m4, tI_m3, tI_m2, tI_m1, tI_0, tI_1, tI_2, tI_3, tI_4, tI_5, tI_7, tI_8, tI_10, tI_12, tI_30, tI_31, tI_32, tI_47, tI_48, tI_57, tI_59, tI_42, tI_43, tI_45, tI_61, tI_62, tI_100, tI_120, tI_255, tI_1000, ↓reduceIte, not_true_eq_false, not_false_eq_true, false_implies, true_implies, implies_true, and_true, true_and, and_false, false_and, or_true, true_or, or_false, false_or, Classical.not_not, ite_true, ite_false]
          have vi : vp_in (nI i) 120 := vp_inN (by omega) (by omega)
          exact ⟨fun z => absurd z (by omega), fun _ => ⟨vi, fun z => stop z, fun z => ⟨fun y => next z _ (fun x => absurd x (by omega)), fun y => ⟨vi, next z _ (fun _ => rfl)⟩⟩⟩⟩
      exact key (n - J) J 0 0 rfl (Nat.le_refl _) hj0.2 (fun _ => rfl) rfl
    refine go hR [(14, [0, 1, 2, 3, 4, 5])] 60 ?_
    simp only [lv_args, ↓reduceIte, Nat.reduceEqDiff, Nat.reduceAdd, Nat.reduceLeDiff, reduceCtorEq, and_true, true_and, false_and, and_false, true_or, or_true, or_false, false_or, true_implies, false_implies, implies_true, not_true_eq_false, not_false_eq_true, eq_self, fx_s, ↓run_s, run_0, ↓rs_n, ↓rs_c, as_s, ls_n, ls_c, lc_s, lget_c, fX4_number_0, ↓ex_aload_n, ↓xR_r, ↓xRg_c, fX4_number_1, ↓ex_invokevirtual, ↓xc_0, ↓xc_s, ↓xc_1, ↓pk_s, ↓k_s, ↓k_n, catS_n, catS_c, rOk_c, ct_i, ct_l, ct_r, ↓pk_f, fX4_number_4, ↓ex_istore_n, ↓s1I_c, ↓lsto_e, ↓lrmK_n, ↓lrmK_f, fX4_number_5, fX4_number_6, ↓ex_getfield, ↓s1R_c, ↓fv_4_8, fX4_number_9, ↓ex_istore, fX4_number_11, ↓ex_iconst, fX4_number_12, fX4_number_14, ↓ex_iload_n, ↓xI_i, ↓xIg_c, fX4_number_15, ↓ex_ifCond_lt, fX4_number_18, ↓ex_iload, fX4_number_20, fX4_number_21, ↓fv_4_7, fX4_number_24, ↓ex_if_icmp_ge, ↓s2I_c, fX4_number_27, fX4_number_28, ↓fv_4_6, fX4_number_31, fX4_number_33, ↓ex_iaload, ↓sRI_c, ↓scrR_n, fX4_number_34, ↓ex_bipush, fX4_number_36, fX4_number_38, ↓ex_invokestatic, ↓pk_t, fX4_number_41, ↓ex_ifCond_eq, fX4_number_44, fX4_number_46, fX4_number_47, fX4_number_50, ↓ex_isub, fX4_number_51, fX4_number_52, fX4_number_55, fX4_number_57, fX4_number_59, ↓ex_imul, fX4_number_60, fX4_number_61, fX4_number_64, fX4_number_66, fX4_number_67, ↓ex_iadd, fX4_number_68, fX4_number_70, fX4_number_71, ↓ex_goto, fX4_number_74, fX4_number_76, fX4_number_78, ↓ex_iinc, fX4_number_81, fX4_number_84, fX4_number_86, fX4_number_87, fX4_number_90, ↓ex_if_icmp_eq, fX4_number_93, fX4_number_95, fX4_number_96, fX4_number_99, fX4_number_100, fX4_number_101, ↓ex_if_icmp_gt, fX4_number_104, fX4_number_106, fX4_number_107, fX4_number_108, fX4_number_111, ↓ex_ifCond_ne, fX4_number_114, fX4_number_115, ↓ex_ireturn, ↓rt_i, fX4_number_116, fX4_number_117, fX4_number_119, ↓ex_putfield, ↓pf_4_8, fX4_number_122, fX4_number_124, p1, q1, ↓C_X4_here, ↓reduceIte, not_true_eq_false, not_false_eq_true, false_implies, true_implies, implies_true, and_true, true_and, and_false, false_and, or_true, true_or, or_false, false_or, Classical.not_not, ite_true, ite_false]
    refine ⟨n, b, i0, hT0, fun Y hF hT => ?_⟩
    rw [← hJ] at hT
    rw [← hJ, hT.2.2.2.1]
    exact main Y hF hT
  next => exact hC.elim)
end MTEXT
