section TEXTS
/-- where the next byte that is no space lies -/
noncomputable def skp (n : Nat) (b : Nat → Int32) : Nat → Nat → Nat
  | 0, i => i
  | k + 1, i => cif (i < n ∧ b i = 32) (skp n b k (i + 1)) i
noncomputable def byA (n : Nat) (b : Nat → Int32) (j : Nat) : Int32 := cif (j < n) (b j) (-1)
/-- the text's cells, read up to i -/
def TXt (X : XT) (n : Nat) (b : Nat → Int32) (i : Nat) : Prop := n ≤ 120 ∧ i ≤ n ∧ X.1 12 1 = nI n ∧ X.1 12 3 = nI i ∧ ∀ j, j < n → X.1 13 j = b j
def fr12 (X X' : XT) : Prop := Fr (fun k => k = 12) X X' ∧ ∀ p, p ≠ 3 → X'.1 12 p = X.1 12 p
noncomputable def C_X2_nextByte : CT := fun As X K => match As with
  | [.ref r] => ∃ (n : Nat) (b : Nat → Int32) (i : Nat), (r = 12 ∧ TXt X n b i) ∧ ∀ X', fr12 X X' → TXt X' n b (skp n b (n - i) i) → K (some (.int (byA n b (skp n b (n - i) i)))) X'
  | _ => False
set_option maxRecDepth 20000 in
set_option maxHeartbeats 4000000 in
theorem d_X2_nextByte (l : Launch) : Does l yX2_nextByte (wY yX2_nextByte cX2_nextByte 1 (retT 0)) (rmF 0) C_X2_nextByte := does_of (rt := 0) (by decide +kernel) tkX2_nextByte (calls := []) (fun _ h => absurd h List.not_mem_nil) (by
  intro As X post hC
  unfold C_X2_nextByte at hC
  split at hC
  next r =>
    obtain ⟨n, b, i0, ⟨rfl, hT0⟩, hpost⟩ := hC
    refine ⟨Nat.le_of_ble_eq_true rfl, fun R hR => ?_⟩
    obtain ⟨⟨p0, p7, p12, p13⟩, q0, q7, q12, q13⟩ := sh_text
    have fin : ∀ Y, fr12 X Y → TXt Y n b (skp n b (n - i0) i0) → R 38 [(0, .ref 12)] [] Y := by
      intro Y hF hT
      have hp := hpost Y hF hT
      obtain ⟨t1, t2, t3, t4, t5⟩ := hT
      refine go hR [(0, [0]), (38, [0])] 40 ?_
      simp only [↓reduceIte, Nat.reduceEqDiff, Nat.reduceAdd, Nat.reduceLeDiff, reduceCtorEq, and_true, true_and, false_and, and_false, true_or, or_true, or_false, false_or, true_implies, false_implies, implies_true, not_true_eq_false, not_false_eq_true, eq_self, fx_s, ↓run_s, run_0, ↓rs_n, ↓rs_c, as_s, ls_n, ls_c, lc_s, lget_c, fX2_nextByte_0, ↓ex_aload_n, ↓xR_r, ↓xRg_c, fX2_nextByte_1, ↓ex_getfield, ↓s1R_c, ↓fv_2_3, fX2_nextByte_4, fX2_nextByte_5, ↓fv_2_1, fX2_nextByte_8, ↓ex_if_icmp_ge, ↓s2I_c, fX2_nextByte_11, fX2_nextByte_12, ↓fv_2_0, fX2_nextByte_15, fX2_nextByte_16, fX2_nextByte_19, ↓ex_iaload, ↓sRI_c, ↓scrR_n, fX2_nextByte_20, ↓ex_bipush, fX2_nextByte_22, ↓ex_if_icmp_ne, fX2_nextByte_25, fX2_nextByte_26, ↓ex_dup, ct_i, ct_l, ct_r, fX2_nextByte_27, fX2_nextByte_30, ↓ex_iconst, fX2_nextByte_31, ↓ex_iadd, fX2_nextByte_32, ↓ex_putfield, ↓pf_2_3, fX2_nextByte_35, ↓ex_goto, fX2_nextByte_38, fX2_nextByte_39, fX2_nextByte_42, fX2_nextByte_43, fX2_nextByte_46, fX2_nextByte_49, fX2_nextByte_50, fX2_nextByte_53, fX2_nextByte_54, fX2_nextByte_57, fX2_nextByte_58, fX2_nextByte_61, fX2_nextByte_62, ↓ex_ireturn, ↓rt_i, p12, p13, q12, q13, t3, t4, leI, nI_toInt (n := n) (by omega), nI_toInt (n := skp n b (n - i0) i0) (by omega), clampN (n := skp n b (n - i0) i0) (by omega), ↓reduceIte, not_true_eq_false, not_false_eq_true, false_implies, true_implies, implies_true, and_true, true_and, and_false, false_and, or_true, true_or, or_false, false_or, Classical.not_not, ite_true, ite_false]
      unfold byA at hp
      refine ⟨fun z => ?_, fun z => ⟨vp_inN (by omega) (by omega), ?_⟩⟩
      · rw [cif_f (by omega)] at hp; exact hp
      · rw [cif_t (by omega)] at hp; rw [t5 _ (by omega)]; exact hp
    have key : ∀ k i Y, k = n - i → fr12 X Y → TXt Y n b i → skp n b k i = skp n b (n - i0) i0 → R 0 [(0, .ref 12)] [] Y := by
      intro k
      induction k with
      | zero =>
        intro i Y hk hF hT hs
        have hf := fin Y hF (by rw [← hs]; exact hT)
        obtain ⟨t1, t2, t3, t4, t5⟩ := id hT
        refine go hR [(0, [0]), (38, [0])] 40 ?_
        simp only [↓reduceIte, Nat.reduceEqDiff, Nat.reduceAdd, Nat.reduceLeDiff, reduceCtorEq, and_true, true_and, false_and, and_false, true_or, or_true, or_false, false_or, true_implies, false_implies, implies_true, not_true_eq_false, not_false_eq_true, eq_self, fx_s, ↓run_s, run_0, ↓rs_n, ↓rs_c, as_s, ls_n, ls_c, lc_s, lget_c, fX2_nextByte_0, ↓ex_aload_n, ↓xR_r, ↓xRg_c, fX2_nextByte_1, ↓ex_getfield, ↓s1R_c, ↓fv_2_3, fX2_nextByte_4, fX2_nextByte_5, ↓fv_2_1, fX2_nextByte_8, ↓ex_if_icmp_ge, ↓s2I_c, fX2_nextByte_11, fX2_nextByte_12, ↓fv_2_0, fX2_nextByte_15, fX2_nextByte_16, fX2_nextByte_19, ↓ex_iaload, ↓sRI_c, ↓scrR_n, fX2_nextByte_20, ↓ex_bipush, fX2_nextByte_22, ↓ex_if_icmp_ne, fX2_nextByte_25, fX2_nextByte_26, ↓ex_dup, ct_i, ct_l, ct_r, fX2_nextByte_27, fX2_nextByte_30, ↓ex_iconst, fX2_nextByte_31, ↓ex_iadd, fX2_nextByte_32, ↓ex_putfield, ↓pf_2_3, fX2_nextByte_35, ↓ex_goto, fX2_nextByte_38, fX2_nextByte_39, fX2_nextByte_42, fX2_nextByte_43, fX2_nextByte_46, fX2_nextByte_49, fX2_nextByte_50, fX2_nextByte_53, fX2_nextByte_54, fX2_nextByte_57, fX2_nextByte_58, fX2_nextByte_61, fX2_nextByte_62, ↓ex_ireturn, ↓rt_i, p12, p13, q12, q13, t3, t4, leI, nI_toInt (n := n) (by omega), nI_toInt (n := i) (by omega), clampN (n := i) (by omega), ↓reduceIte, not_true_eq_false, not_false_eq_true, false_implies, true_implies, implies_true, and_true, true_and, and_false, false_and, or_true, true_or, or_false, false_or, Classical.not_not, ite_true, ite_false]
        exact ⟨fun _ => hf, fun z => absurd (by omega) z⟩
      | succ k ih =>
        intro i Y hk hF hT hs
        obtain ⟨t1, t2, t3, t4, t5⟩ := id hT
        have hin : i < n := by omega
        refine go hR [(0, [0]), (38, [0])] 40 ?_
        simp only [↓reduceIte, Nat.reduceEqDiff, Nat.reduceAdd, Nat.reduceLeDiff, reduceCtorEq, and_true, true_and, false_and, and_false, true_or, or_true, or_false, false_or, true_implies, false_implies, implies_true, not_true_eq_false, not_false_eq_true, eq_self, fx_s, ↓run_s, run_0, ↓rs_n, ↓rs_c, as_s, ls_n, ls_c, lc_s, lget_c, fX2_nextByte_0, ↓ex_aload_n, ↓xR_r, ↓xRg_c, fX2_nextByte_1, ↓ex_getfield, ↓s1R_c, ↓fv_2_3, fX2_nextByte_4, fX2_nextByte_5, ↓fv_2_1, fX2_nextByte_8, ↓ex_if_icmp_ge, ↓s2I_c, fX2_nextByte_11, fX2_nextByte_12, ↓fv_2_0, fX2_nextByte_15, fX2_nextByte_16, fX2_nextByte_19, ↓ex_iaload, ↓sRI_c, ↓scrR_n, fX2_nextByte_20, ↓ex_bipush, fX2_nextByte_22, ↓ex_if_icmp_ne, fX2_nextByte_25, fX2_nextByte_26, ↓ex_dup, ct_i, ct_l, ct_r, fX2_nextByte_27, fX2_nextByte_30, ↓ex_iconst, fX2_nextByte_31, ↓ex_iadd, fX2_nextByte_32, ↓ex_putfield, ↓pf_2_3, fX2_nextByte_35, ↓ex_goto, fX2_nextByte_38, fX2_nextByte_39, fX2_nextByte_42, fX2_nextByte_43, fX2_nextByte_46, fX2_nextByte_49, fX2_nextByte_50, fX2_nextByte_53, fX2_nextByte_54, fX2_nextByte_57, fX2_nextByte_58, fX2_nextByte_61, fX2_nextByte_62, ↓ex_ireturn, ↓rt_i, p12, p13, q12, q13, t3, t4, leI, nI_toInt (n := n) (by omega), nI_toInt (n := i) (by omega), clampN (n := i) (by omega), t5 i hin, add1N, ↓reduceIte, not_true_eq_false, not_false_eq_true, false_implies, true_implies, implies_true, and_true, true_and, and_false, false_and, or_true, true_or, or_false, false_or, Classical.not_not, ite_true, ite_false]
        refine ⟨fun z => absurd z (by omega), fun _ => ⟨vp_inN (by omega) (by omega), fun z => ?_, fun z => ?_⟩⟩
        · refine fin Y hF ?_
          have h : cif (i < n ∧ b i = 32) (skp n b k (i + 1)) i = skp n b (n - i0) i0 := hs
          rw [cif_f (fun x => z x.2)] at h
          rw [← h]; exact hT
        · refine ih (i + 1) _ (by omega) ⟨Fr.pI (P := fun k => k = 12) hF.1 rfl _ _, fun p hp => ?_⟩ ⟨t1, by omega, ?_, ?_, fun j hj => ?_⟩ ?_
          · simp [sI_1, upd_a, hp, hF.2 p hp]
          · simp [sI_1, upd_a, t3]
          · simp [sI_1, upd_a]
          · simp [sI_1, upd_a, t5 j hj]
          · have h : cif (i < n ∧ b i = 32) (skp n b k (i + 1)) i = skp n b (n - i0) i0 := hs
            rw [cif_t ⟨hin, z⟩] at h
            exact h
    exact key (n - i0) i0 X rfl ⟨Fr.rf _ _, fun _ _ => rfl⟩ hT0 rfl
  next => exact hC.elim)
noncomputable def s_nodeAt (c : Int32) : Int32 := cif (inR (c - 48) 0 7) (c - 48) (-1)
noncomputable def C_X2_nextNode : CT := fun As X K => match As with
  | [.ref r] => ∃ (n : Nat) (b : Nat → Int32) (i : Nat), (r = 12 ∧ TXt X n b i) ∧ ∀ X', fr12 X X' → TXt X' n b (skp n b (n - i) i) → K (some (.int (s_nodeAt (byA n b (skp n b (n - i) i))))) X'
  | _ => False
set_option maxRecDepth 20000 in
set_option maxHeartbeats 4000000 in
theorem d_X2_nextNode (l : Launch) : Does l yX2_nextNode (wY yX2_nextNode cX2_nextNode 2 (retT 0)) (rmF 1) C_X2_nextNode := does_of (rt := 0) (by decide +kernel) tkX2_nextNode (calls := [(50, false, 1, 2, C_X2_nextByte), (80, true, 1, 3, C_X3_isNode)]) (List.forall_mem_cons.mpr ⟨cr_V (d_X2_nextByte l) rfl (by decide +kernel) (by decide +kernel) ⟨rfl, rfl⟩ ⟨Nat.le_of_ble_eq_true rfl, Nat.le_of_ble_eq_true rfl⟩, List.forall_mem_cons.mpr ⟨cr_NS (d_X3_isNode l) (by decide +kernel) (by decide +kernel) (by decide +kernel) ⟨rfl, rfl⟩ ⟨Nat.le_of_ble_eq_true rfl, Nat.le_of_ble_eq_true rfl⟩, fun _ h => absurd h List.not_mem_nil⟩⟩) (by
  intro As X post hC
  unfold C_X2_nextNode at hC
  split at hC
  next r =>
    obtain ⟨n, b, i0, ⟨rfl, hT0⟩, hpost⟩ := hC
    refine ⟨Nat.le_of_ble_eq_true rfl, fun R hR => ?_⟩
    obtain ⟨⟨p0, p7, p12, p13⟩, q0, q7, q12, q13⟩ := sh_text
    refine go hR [] 40 ?_
    simp only [lv_args, ↓reduceIte, Nat.reduceEqDiff, Nat.reduceAdd, Nat.reduceLeDiff, reduceCtorEq, and_true, true_and, false_and, and_false, true_or, or_true, or_false, false_or, true_implies, false_implies, implies_true, not_true_eq_false, not_false_eq_true, eq_self, fx_s, ↓run_s, run_0, ↓rs_n, ↓rs_c, as_s, ls_n, ls_c, lc_s, lget_c, fX2_nextNode_0, ↓ex_aload_n, ↓xR_r, ↓xRg_c, fX2_nextNode_1, ↓ex_invokevirtual, ↓xc_0, ↓xc_s, ↓xc_1, ↓pk_s, ↓k_s, ↓k_n, catS_n, catS_c, rOk_c, ct_i, ct_l, ct_r, ↓pk_f, fX2_nextNode_4, ↓ex_bipush, fX2_nextNode_6, ↓ex_isub, ↓s2I_c, fX2_nextNode_7, ↓ex_istore_n, ↓s1I_c, ↓lsto_e, ↓lrmK_n, ↓lrmK_f, fX2_nextNode_8, ↓ex_iload_n, ↓xI_i, ↓xIg_c, fX2_nextNode_9, ↓ex_invokestatic, ↓pk_t, fX2_nextNode_12, ↓ex_ifCond_eq, fX2_nextNode_15, fX2_nextNode_16, ↓ex_goto, fX2_nextNode_19, ↓ex_iconst, fX2_nextNode_20, ↓ex_ireturn, ↓rt_i, p12, q12, ↓C_X2_nextByte, ↓C_X3_isNode, b2i_0, Classical.not_not, ↓reduceIte, not_true_eq_false, not_false_eq_true, false_implies, true_implies, implies_true, and_true, true_and, and_false, false_and, or_true, true_or, or_false, false_or, Classical.not_not, ite_true, ite_false]
    refine ⟨n, b, i0, hT0, fun Y hF hT => ?_⟩
    have hp := hpost Y hF hT
    unfold s_nodeAt at hp
    refine ⟨fun z => ?_, fun z => ?_⟩
    · rw [cif_f z] at hp; exact hp
    · rw [cif_t z] at hp; exact hp
  next => exact hC.elim)
/-- as fr12, and the place of the fault may change -/
def fr34 (X X' : XT) : Prop := Fr (fun k => k = 12) X X' ∧ ∀ p, p ≠ 3 → p ≠ 4 → X'.1 12 p = X.1 12 p
theorem fr12.fr34 {X X' : XT} (h : fr12 X X') : fr34 X X' := ⟨h.1, fun p h1 _ => h.2 p h1⟩
theorem fr12.tr {X Y Z : XT} (h : fr12 X Y) (g : fr12 Y Z) : fr12 X Z := ⟨h.1.tr g.1, fun p hp => (g.2 p hp).trans (h.2 p hp)⟩
theorem fr34.tr {X Y Z : XT} (h : fr34 X Y) (g : fr34 Y Z) : fr34 X Z := ⟨h.1.tr g.1, fun p hp hq => (g.2 p hp hq).trans (h.2 p hp hq)⟩
theorem fr12.set {X Y : XT} (h : fr12 X Y) (v : Int32) : fr12 X (sI Y 12 3 v) := ⟨Fr.pI (P := fun k => k = 12) h.1 rfl _ _, fun p hp => by simp [sI_1, upd_a, hp, h.2 p hp]⟩
theorem fr34.setF {X Y : XT} (h : fr34 X Y) (v : Int32) : fr34 X (sI Y 12 4 v) := ⟨Fr.pI (P := fun k => k = 12) h.1 rfl _ _, fun p hp hq => by simp [sI_1, upd_a, hq, h.2 p hp hq]⟩
theorem TXt.set {X : XT} {n : Nat} {b : Nat → Int32} {i j : Nat} (h : TXt X n b i) (hj : j ≤ n) : TXt (sI X 12 3 (nI j)) n b j := by
  obtain ⟨t1, t2, t3, t4, t5⟩ := h
  refine ⟨t1, hj, ?_, ?_, fun k hk => ?_⟩
  · simp [sI_1, upd_a, t3]
  · simp [sI_1, upd_a]
  · simp [sI_1, upd_a, t5 k hk]
theorem TXt.setF {X : XT} {n : Nat} {b : Nat → Int32} {i : Nat} (h : TXt X n b i) (v : Int32) : TXt (sI X 12 4 v) n b i := by
  obtain ⟨t1, t2, t3, t4, t5⟩ := h
  refine ⟨t1, t2, ?_, ?_, fun k hk => ?_⟩
  · simp [sI_1, upd_a, t3]
  · simp [sI_1, upd_a, t4]
  · simp [sI_1, upd_a, t5 k hk]
def C_X2_refuse : CT := fun As X K => match As with
  | [.ref r] => r = 12 ∧ K (some (.int 0)) (sI X 12 4 (X.1 12 3))
  | _ => False
set_option maxRecDepth 20000 in
set_option maxHeartbeats 4000000 in
theorem d_X2_refuse (l : Launch) : Does l yX2_refuse (wY yX2_refuse cX2_refuse 1 (retT 1)) (rmF 0) C_X2_refuse := does_of (rt := 1) (by decide +kernel) tkX2_refuse (calls := []) (fun _ h => absurd h List.not_mem_nil) (by
  intro As X post hC
  unfold C_X2_refuse at hC
  split at hC
  next r =>
    obtain ⟨rfl, hpost⟩ := hC
    refine ⟨Nat.le_of_ble_eq_true rfl, fun R hR => ?_⟩
    obtain ⟨⟨p0, p7, p12, p13⟩, q0, q7, q12, q13⟩ := sh_text
    refine go hR [] 40 ?_
    simp only [lv_args, ↓reduceIte, Nat.reduceEqDiff, Nat.reduceAdd, Nat.reduceLeDiff, reduceCtorEq, and_true, true_and, false_and, and_false, true_or, or_true, or_false, false_or, true_implies, false_implies, implies_true, not_true_eq_false, not_false_eq_true, eq_self, fx_s, ↓run_s, run_0, ↓rs_n, ↓rs_c, as_s, ls_n, ls_c, lc_s, lget_c, fX2_refuse_0, ↓ex_aload_n, ↓xR_r, ↓xRg_c, fX2_refuse_1, fX2_refuse_2, ↓ex_getfield, ↓s1R_c, ↓fv_2_3, fX2_refuse_5, ↓ex_putfield, ↓pf_2_4, fX2_refuse_8, ↓ex_iconst, fX2_refuse_9, ↓ex_ireturn, ↓rt_i, p12, q12, ↓reduceIte, not_true_eq_false, not_false_eq_true, false_implies, true_implies, implies_true, and_true, true_and, and_false, false_and, or_true, true_or, or_false, false_or, Classical.not_not, ite_true, ite_false]
    exact ⟨bl_0, hpost⟩
  next => exact hC.elim)
noncomputable def C_X2_accept : CT := fun As X K => match As with
  | [.ref r, .int c] => ∃ (n : Nat) (b : Nat → Int32) (i : Nat), (r = 12 ∧ TXt X n b i ∧ c ≠ -1) ∧
    (byA n b (skp n b (n - i) i) = c → ∀ X', fr12 X X' → TXt X' n b (skp n b (n - i) i + 1) → K (some (.int 1)) X') ∧
    (byA n b (skp n b (n - i) i) ≠ c → ∀ X', fr34 X X' → TXt X' n b (skp n b (n - i) i) → X'.1 12 4 = nI (skp n b (n - i) i) → K (some (.int 0)) X')
  | _ => False
set_option maxRecDepth 20000 in
set_option maxHeartbeats 4000000 in
theorem d_X2_accept (l : Launch) : Does l yX2_accept (wY yX2_accept cX2_accept 2 (retT 1)) (rmF 1) C_X2_accept := does_of (rt := 1) (by decide +kernel) tkX2_accept (calls := [(50, false, 1, 2, C_X2_nextByte), (47, false, 1, 2, C_X2_refuse)]) (List.forall_mem_cons.mpr ⟨cr_V (d_X2_nextByte l) rfl (by decide +kernel) (by decide +kernel) ⟨rfl, rfl⟩ ⟨Nat.le_of_ble_eq_true rfl, Nat.le_of_ble_eq_true rfl⟩, List.forall_mem_cons.mpr ⟨cr_V (d_X2_refuse l) rfl (by decide +kernel) (by decide +kernel) ⟨rfl, rfl⟩ ⟨Nat.le_of_ble_eq_true rfl, Nat.le_of_ble_eq_true rfl⟩, fun _ h => absurd h List.not_mem_nil⟩⟩) (by
  intro As X post hC
  unfold C_X2_accept at hC
  split at hC
  next r c =>
    obtain ⟨n, b, i0, ⟨rfl, hT0, hc⟩, hp1, hp2⟩ := hC
    refine ⟨Nat.le_of_ble_eq_true rfl, fun R hR => ?_⟩
    obtain ⟨⟨p0, p7, p12, p13⟩, q0, q7, q12, q13⟩ := sh_text
    refine go hR [] 40 ?_
    simp only [lv_args, ↓reduceIte, Nat.reduceEqDiff, Nat.reduceAdd, Nat.reduceLeDiff, reduceCtorEq, and_true, true_and, false_and, and_false, true_or, or_true, or_false, false_or, true_implies, false_implies, implies_true, not_true_eq_false, not_false_eq_true, eq_self, fx_s, ↓run_s, run_0, ↓rs_n, ↓rs_c, as_s, ls_n, ls_c, lc_s, lget_c, fX2_accept_0, ↓ex_aload_n, ↓xR_r, ↓xRg_c, fX2_accept_1, ↓ex_invokevirtual, ↓xc_0, ↓xc_s, ↓xc_1, ↓pk_s, ↓k_s, ↓k_n, catS_n, catS_c, rOk_c, ct_i, ct_l, ct_r, ↓pk_f, fX2_accept_4, ↓ex_iload_n, ↓xI_i, ↓xIg_c, fX2_accept_5, ↓ex_if_icmp_eq, ↓s2I_c, fX2_accept_8, fX2_accept_9, fX2_accept_12, ↓ex_ireturn, ↓rt_i, fX2_accept_13, fX2_accept_14, ↓ex_dup, fX2_accept_15, ↓ex_getfield, ↓s1R_c, ↓fv_2_3, fX2_accept_18, ↓ex_iconst, fX2_accept_19, ↓ex_iadd, fX2_accept_20, ↓ex_putfield, ↓pf_2_3, fX2_accept_23, fX2_accept_24, p12, q12, ↓C_X2_nextByte, ↓C_X2_refuse, ↓reduceIte, not_true_eq_false, not_false_eq_true, false_implies, true_implies, implies_true, and_true, true_and, and_false, false_and, or_true, true_or, or_false, false_or, Classical.not_not, ite_true, ite_false]
    refine ⟨n, b, i0, hT0, fun Y hF hT => ?_⟩
    obtain ⟨t1, t2, t3, t4, t5⟩ := id hT
    refine ⟨fun z => ?_, fun z => ?_⟩
    · rw [t4, add1N]
      refine ⟨bl_1, hp1 z _ (hF.set _) (hT.set ?_)⟩
      refine Classical.byContradiction fun y => hc ?_
      rw [← z]; unfold byA; exact cif_f (by omega)
    · refine ⟨bl_0, hp2 z _ (hF.fr34.setF _) (hT.setF _) ?_⟩
      simp [sI_1, upd_a, t4]
  next => exact hC.elim)
noncomputable def C_X2_readSemicolon : CT := fun As X K => match As with
  | [.ref r] => ∃ (n : Nat) (b : Nat → Int32) (i : Nat), (r = 12 ∧ TXt X n b i) ∧
    (byA n b (skp n b (n - i) i) = 59 → ∀ X', fr12 X X' → TXt X' n b (skp n b (n - i) i + 1) → K (some (.int 1)) X') ∧
    (byA n b (skp n b (n - i) i) = -1 → ∀ X', fr12 X X' → TXt X' n b (skp n b (n - i) i) → K (some (.int 0)) X') ∧
    (byA n b (skp n b (n - i) i) ≠ 59 → byA n b (skp n b (n - i) i) ≠ -1 → ∀ X', fr34 X X' → TXt X' n b (skp n b (n - i) i) → X'.1 12 4 = nI (skp n b (n - i) i) → K (some (.int 0)) X')
  | _ => False
theorem skp_idem (n : Nat) (b : Nat → Int32) : ∀ k i, k = n - i → skp n b (n - skp n b k i) (skp n b k i) = skp n b k i := by
  intro k
  induction k with
  | zero => intro i h; show skp n b (n - i) i = i; rw [← h]; rfl
  | succ k ih =>
    intro i h
    have e : skp n b (k + 1) i = cif (i < n ∧ b i = 32) (skp n b k (i + 1)) i := rfl
    by_cases c : i < n ∧ b i = 32
    · rw [e, cif_t c]; exact ih (i + 1) (by omega)
    · have e2 : skp n b (k + 1) i = i := by rw [e, cif_f c]
      rw [e2, ← h, e2]
set_option maxRecDepth 20000 in
set_option maxHeartbeats 4000000 in
theorem d_X2_readSemicolon (l : Launch) : Does l yX2_readSemicolon (wY yX2_readSemicolon cX2_readSemicolon 2 (retT 1)) (rmF 2) C_X2_readSemicolon := does_of (rt := 1) (by decide +kernel) tkX2_readSemicolon (calls := [(50, false, 1, 2, C_X2_nextByte), (60, false, 2, 2, C_X2_accept)]) (List.forall_mem_cons.mpr ⟨cr_V (d_X2_nextByte l) rfl (by decide +kernel) (by decide +kernel) ⟨rfl, rfl⟩ ⟨Nat.le_of_ble_eq_true rfl, Nat.le_of_ble_eq_true rfl⟩, List.forall_mem_cons.mpr ⟨cr_V (d_X2_accept l) rfl (by decide +kernel) (by decide +kernel) ⟨rfl, rfl⟩ ⟨Nat.le_of_ble_eq_true rfl, Nat.le_of_ble_eq_true rfl⟩, fun _ h => absurd h List.not_mem_nil⟩⟩) (by
  intro As X post hC
  unfold C_X2_readSemicolon at hC
  split at hC
  next r =>
    obtain ⟨n, b, i0, ⟨rfl, hT0⟩, hp1, hp2, hp3⟩ := hC
    refine ⟨Nat.le_of_ble_eq_true rfl, fun R hR => ?_⟩
    obtain ⟨⟨p0, p7, p12, p13⟩, q0, q7, q12, q13⟩ := sh_text
    refine go hR [] 40 ?_
    simp only [lv_args, ↓reduceIte, Nat.reduceEqDiff, Nat.reduceAdd, Nat.reduceLeDiff, reduceCtorEq, and_true, true_and, false_and, and_false, true_or, or_true, or_false, false_or, true_implies, false_implies, implies_true, not_true_eq_false, not_false_eq_true, eq_self, fx_s, ↓run_s, run_0, ↓rs_n, ↓rs_c, as_s, ls_n, ls_c, lc_s, lget_c, fX2_readSemicolon_0, ↓ex_aload_n, ↓xR_r, ↓xRg_c, fX2_readSemicolon_1, ↓ex_invokevirtual, ↓xc_0, ↓xc_s, ↓xc_1, ↓pk_s, ↓k_s, ↓k_n, catS_n, catS_c, rOk_c, ct_i, ct_l, ct_r, ↓pk_f, fX2_readSemicolon_4, ↓ex_istore_n, ↓s1I_c, ↓lsto_e, ↓lrmK_n, ↓lrmK_f, fX2_readSemicolon_5, ↓ex_iload_n, ↓xI_i, ↓xIg_c, fX2_readSemicolon_6, ↓ex_iconst, fX2_readSemicolon_7, ↓ex_if_icmp_ne, ↓s2I_c, fX2_readSemicolon_10, fX2_readSemicolon_11, ↓ex_ireturn, ↓rt_i, fX2_readSemicolon_12, fX2_readSemicolon_13, ↓ex_bipush, fX2_readSemicolon_15, fX2_readSemicolon_18, p12, q12, ↓C_X2_nextByte, ↓C_X2_accept, ↓reduceIte, not_true_eq_false, not_false_eq_true, false_implies, true_implies, implies_true, and_true, true_and, and_false, false_and, or_true, true_or, or_false, false_or, Classical.not_not, ite_true, ite_false]
    refine ⟨n, b, i0, hT0, fun Y hF hT => ⟨fun z => ?_, fun z => ?_⟩⟩
    · have e := skp_idem n b (n - i0) i0 rfl
      refine ⟨n, b, skp n b (n - i0) i0, ⟨hT, by decide⟩, fun y Z hZ hTZ => ?_, fun y Z hZ hTZ hf => ?_⟩
      · rw [e] at y hTZ
        exact ⟨bl_1, hp1 y Z (hF.tr hZ) hTZ⟩
      · rw [e] at y hTZ hf
        exact ⟨bl_0, hp3 y z Z (hF.fr34.tr hZ) hTZ hf⟩
    · exact ⟨bl_0, hp2 z Y hF hT⟩
  next => exact hC.elim)
end TEXTS
