section BITS
theorem s_l : ∀ n, n < 32 → ((nI n &&& 31).toBitVec.smod 32).toNat = n := by decide +kernel
theorem fa_or (a b : Nat) : nI a ||| nI b = nI (a ||| b) := by
  apply Int32.toBitVec_inj.1
  show BitVec.ofNat 32 a ||| BitVec.ofNat 32 b = BitVec.ofNat 32 (a ||| b)
  apply BitVec.eq_of_getLsbD_eq
  intro i hi
  simp [hi]
theorem shlN {e : Nat} (he : e < 31) : (1 : Int32) <<< (nI e &&& 31) = nI (2 ^ e) := by
  have h := pk_shlN (n := 1) (nI e &&& 31) e (s_l e (by omega)) (by
    rw [Nat.one_mul]
    exact Nat.pow_lt_pow_right (by decide) (by omega))
  rw [Nat.one_mul] at h
  exact h
theorem shrN {m e : Nat} (hm : m < 2147483648) (he : e < 32) : nI m >>> (nI e &&& 31) = nI (m / 2 ^ e) := pk_shrN hm (nI e &&& 31) e (s_l e he)
theorem and1N {m : Nat} (hm : m < 4294967296) : nI m &&& 1 = nI (m % 2) := pk_andN hm 1 rfl
theorem bit1 {m e : Nat} (hm : m < 2147483648) (he : e < 32) : (nI m >>> (nI e &&& 31) &&& 1 = 1) = (m.testBit e = true) := by
  have h1 : m / 2 ^ e ≤ m := Nat.div_le_self _ _
  rw [shrN hm he, and1N (by omega)]
  have h2 : m / 2 ^ e % 2 < 2 := Nat.mod_lt _ (by decide)
  rw [show (1 : Int32) = nI 1 from rfl, eqN (by omega) (by decide), Nat.testBit_eq_decide_div_mod_eq]
  simp
theorem bit0 {m e : Nat} (hm : m < 2147483648) (he : e < 32) : (nI m >>> (nI e &&& 31) &&& 1 = 0) = (m.testBit e = false) := by
  have h1 : m / 2 ^ e ≤ m := Nat.div_le_self _ _
  rw [shrN hm he, and1N (by omega)]
  have h2 : m / 2 ^ e % 2 < 2 := Nat.mod_lt _ (by decide)
  rw [show (0 : Int32) = nI 0 from rfl, eqN (by omega) (by decide), Nat.testBit_eq_decide_div_mod_eq]
  simp
theorem p2_lt {n : Nat} (h : n ≤ 12) : 2 ^ n ≤ 4096 := by
  have : 2 ^ n ≤ 2 ^ 12 := Nat.pow_le_pow_right (by decide) h
  exact this
/-- an outcome -/
def isO (s : SV) (o : Int32) : Prop := 0 ≤ o.toInt ∧ o.toInt < ((2 ^ s.n : Nat) : Int)
theorem isO_cl {s : SV} {o : Int32} (hn : s.n ≤ 12) (h : isO s o) : cl o < 2 ^ s.n ∧ cl o < 4096 ∧ o = nI (cl o) := by
  have h2 := p2_lt hn
  obtain ⟨-, a2, a3⟩ := inR_cl (lo := 0) (hi := 4095) (by omega) (show inR o 0 4095 from ⟨h.1, by have := h.2; omega⟩)
  have h3 : (nI (cl o)).toInt = cl o := nI_toInt (by omega)
  rw [← a3] at h3
  have := h.2
  exact ⟨by omega, by omega, a3⟩
noncomputable def C_X3_isOutcome : CT := fun As X K => match As with
  | [.ref b, .int o] => ∃ s : SV, (b = 0 ∧ RS X 1 s ∧ s.n ≤ 12) ∧ K (some (.int (b2i (isO s o)))) X
  | _ => False
set_option maxRecDepth 20000 in
set_option maxHeartbeats 4000000 in
theorem d_X3_isOutcome (l : Launch) : Does l yX3_isOutcome (wY yX3_isOutcome cX3_isOutcome 2 (retT 1)) (rmF 0) C_X3_isOutcome := does_of (rt := 1) (by decide +kernel) tkX3_isOutcome (calls := []) (fun _ h => absurd h List.not_mem_nil) (by
  intro As X post hC
  unfold C_X3_isOutcome at hC
  split at hC
  next b o =>
    obtain ⟨s, ⟨rfl, ⟨h1, -⟩, hn⟩, hC⟩ := hC
    refine ⟨Nat.le_of_ble_eq_true rfl, fun R hR => ?_⟩
    obtain ⟨⟨p0, p1, p2, p3, p4, p5, p6⟩, q0, q1, q2, q3, q4, q5, q6⟩ := sh_base
    have h2 := p2_lt hn
    have e1 : (nI (2 ^ s.n)).toInt = ((2 ^ s.n : Nat) : Int) := nI_toInt (by omega)
    have p0' : ¬ isO s o → post (some (.int 0)) X := fun h => by rw [b2i_f h] at hC; exact hC
    have p1' : isO s o → post (some (.int 1)) X := fun h => by rw [b2i_t h] at hC; exact hC
    unfold isO at p0' p1'
    refine go hR [] 60 ?_
    simp only [lv_args, ↓reduceIte, Nat.reduceEqDiff, Nat.reduceAdd, Nat.reduceLeDiff, reduceCtorEq, and_true, true_and, false_and, and_false, true_or, or_true, or_false, false_or, true_implies, false_implies, implies_true, not_true_eq_false, not_false_eq_true, eq_self, fx_s, ↓run_s, run_0, ↓rs_n, ↓rs_c, as_s, ls_n, ls_c, lc_s, lget_c, fX3_isOutcome_0, ↓ex_iload_n, ↓xI_i, ↓xIg_c, fX3_isOutcome_1, ↓ex_ifCond_lt, ↓s1I_c, fX3_isOutcome_4, fX3_isOutcome_5, ↓ex_iconst, fX3_isOutcome_6, ↓ex_aload_n, ↓xR_r, ↓xRg_c, fX3_isOutcome_7, ↓ex_getfield, ↓s1R_c, ↓fv_3_0, fX3_isOutcome_10, ↓fv_0_4, fX3_isOutcome_13, ↓ex_ishl, ↓s2I_c, fX3_isOutcome_14, ↓ex_if_icmp_ge, fX3_isOutcome_17, fX3_isOutcome_18, ↓ex_goto, fX3_isOutcome_21, fX3_isOutcome_22, ↓ex_ireturn, ↓rt_i, p0, p1, q0, q1, h1, shlN (e := s.n) (by omega), leI, ltI, tI_m5, tI_m4, tI_m3, tI_m2, tI_m1, tI_0, tI_1, tI_2, tI_3, tI_4, tI_5, tI_7, tI_8, tI_10, tI_12, tI_30, tI_31, tI_32, tI_47, tI_48, tI_57, tI_59, tI_42, tI_43, tI_45, tI_61, tI_62, tI_100, tI_120, tI_255, tI_1000, e1]
    repeat' (first | apply And.intro | intro _)
    all_goals first | exact bl_0 | exact bl_1 | exact p0' (by omega) | exact p1' (by omega)
  next => exact hC.elim)
def C_X3_timeOrNone : CT := fun As X K => match As with
  | [.int t] => K (some (.int (if t = 31 then -1 else t))) X
  | _ => False
set_option maxRecDepth 20000 in
set_option maxHeartbeats 4000000 in
theorem d_X3_timeOrNone (l : Launch) : Does l yX3_timeOrNone (wY yX3_timeOrNone cX3_timeOrNone 1 (retT 0)) (rmF 0) C_X3_timeOrNone := does_of (rt := 0) (by decide +kernel) tkX3_timeOrNone (calls := []) (fun _ h => absurd h List.not_mem_nil) (by
  intro As X post hC
  unfold C_X3_timeOrNone at hC
  split at hC
  next t =>
    refine ⟨Nat.le_of_ble_eq_true rfl, fun R hR => ?_⟩
    refine go hR [] 60 ?_
    simp only [lv_args, ↓reduceIte, Nat.reduceEqDiff, Nat.reduceAdd, Nat.reduceLeDiff, reduceCtorEq, and_true, true_and, false_and, and_false, true_or, or_true, or_false, false_or, true_implies, false_implies, implies_true, not_true_eq_false, not_false_eq_true, eq_self, fx_s, ↓run_s, run_0, ↓rs_n, ↓rs_c, as_s, ls_n, ls_c, lc_s, lget_c, fX3_timeOrNone_0, ↓ex_iload_n, ↓xI_i, ↓xIg_c, fX3_timeOrNone_1, ↓ex_bipush, fX3_timeOrNone_3, ↓ex_if_icmp_ne, ↓s2I_c, fX3_timeOrNone_6, ↓ex_iconst, fX3_timeOrNone_7, ↓ex_goto, fX3_timeOrNone_10, fX3_timeOrNone_11, ↓ex_ireturn, ↓rt_i]
    by_cases h : t = 31
    · rw [if_pos h] at hC
      exact ⟨fun z => absurd h z, fun _ => hC⟩
    · rw [if_neg h] at hC
      exact ⟨fun _ => hC, fun z => absurd z h⟩
  next => exact hC.elim)
/-- the weight of outcome o, edges below k -/
def wtN (W : Nat → Nat) (o : Nat) : Nat → Nat
  | 0 => 1
  | k + 1 => wtN W o k * (if o.testBit k then W k else 10 - W k)
theorem wtN_le {W : Nat → Nat} {o n : Nat} (hW : ∀ e, e < n → W e ≤ 10) : ∀ k, k ≤ n → wtN W o k ≤ 10 ^ k
  | 0, _ => Nat.le_refl _
  | k + 1, h => by
    unfold wtN
    rw [Nat.pow_succ]
    refine Nat.mul_le_mul (wtN_le hW k (by omega)) ?_
    have := hW k (by omega)
    split <;> omega
theorem p10_le {k : Nat} (h : k ≤ 12) : 10 ^ k ≤ 1000000000000 := Nat.pow_le_pow_right (by decide) h
noncomputable def s_weight (o : Int32) (g : SG) : Int64 × SG := (cif (isO g.now o) (lN (wtN g.now.W (cl o) g.now.n)) (-3), g)
theorem i2lN {n : Nat} (h : n < 2147483648) : (nI n).toInt64 = lN n := nI_l h
noncomputable def C_X3_weight : CT := fun As X K => match As with
  | [.ref b, .int o] => b = 0 ∧ PubL (s_weight o) X K
  | _ => False
set_option maxRecDepth 20000 in
set_option maxHeartbeats 4000000 in
theorem d_X3_weight (l : Launch) : Does l yX3_weight (wY yX3_weight cX3_weight 6 (retT 2)) (rmF 1) C_X3_weight := does_of (rt := 2) (by decide +kernel) tkX3_weight (calls := [(125, false, 2, 3, C_X3_isOutcome)]) (List.forall_mem_cons.mpr ⟨cr_V (d_X3_isOutcome l) rfl (by decide +kernel) (by decide +kernel) ⟨rfl, rfl⟩ ⟨Nat.le_of_ble_eq_true rfl, Nat.le_of_ble_eq_true rfl⟩, fun _ h => absurd h List.not_mem_nil⟩) (by
  intro As X post hC
  unfold C_X3_weight at hC
  split at hC
  next b o =>
    obtain ⟨rfl, g, hR0, hpost⟩ := hC
    refine ⟨Nat.le_of_ble_eq_true rfl, fun R hR => ?_⟩
    obtain ⟨⟨p0, p1, p2, p3, p4, p5, p6⟩, q0, q1, q2, q3, q4, q5, q6⟩ := sh_base
    obtain ⟨⟨w1, w2, w3, w4⟩, c1, c2, -⟩ := id hR0
    obtain ⟨d1, d2, d3, d4, d5⟩ := id c1
    have hn := w1.1
    have hfin := hpost X hR0 (FrM.rf X)
    refine go hR [(17, [0, 1, 2, 4])] 60 ?_
    simp only [lv_args, ↓reduceIte, Nat.reduceEqDiff, Nat.reduceAdd, Nat.reduceLeDiff, reduceCtorEq, and_true, true_and, false_and, and_false, true_or, or_true, or_false, false_or, true_implies, false_implies, implies_true, not_true_eq_false, not_false_eq_true, eq_self, fx_s, ↓run_s, run_0, ↓rs_n, ↓rs_c, as_s, ls_n, ls_c, lc_s, lget_c, fX3_weight_0, ↓ex_aload_n, ↓xR_r, ↓xRg_c, fX3_weight_1, ↓ex_iload_n, ↓xI_i, ↓xIg_c, fX3_weight_2, ↓ex_invokevirtual, ↓xc_0, ↓xc_s, ↓xc_1, ↓pk_s, ↓k_s, ↓k_n, catS_n, catS_c, rOk_c, ct_i, ct_l, ct_r, ↓pk_f, fX3_weight_5, ↓ex_ifCond_ne, ↓s1I_c, fX3_weight_8, ↓ex_ldc2_w, fX3_weight_11, ↓ex_lreturn, ↓rt_l, fX3_weight_12, ↓ex_lconst, fX3_weight_13, ↓ex_lstore_n, ↓s1L_c, ↓lsto_e, ↓lrmK_n, ↓lrmK_t, fX3_weight_14, ↓ex_iconst, fX3_weight_15, ↓ex_istore, ↓lrmK_f, fX3_weight_17, ↓ex_iload, fX3_weight_19, fX3_weight_20, ↓ex_getfield, ↓s1R_c, ↓fv_3_0, fX3_weight_23, ↓fv_0_4, fX3_weight_26, ↓ex_if_icmp_ge, ↓s2I_c, fX3_weight_29, fX3_weight_30, fX3_weight_33, ↓fv_0_2, fX3_weight_36, fX3_weight_38, ↓ex_iaload, ↓sRI_c, ↓scrR_n, fX3_weight_39, fX3_weight_41, ↓ex_lload_n, ↓xL_l, ↓xLg_c, fX3_weight_42, fX3_weight_43, fX3_weight_45, ↓ex_ishr, fX3_weight_46, fX3_weight_47, ↓ex_iand, fX3_weight_48, fX3_weight_49, ↓ex_if_icmp_ne, fX3_weight_52, fX3_weight_54, ↓ex_i2l, fX3_weight_55, ↓ex_goto, fX3_weight_58, ↓ex_bipush, fX3_weight_60, fX3_weight_62, ↓ex_isub, fX3_weight_63, fX3_weight_64, ↓ex_lmul, ↓s2L_c, fX3_weight_65, fX3_weight_66, ↓ex_iinc, fX3_weight_69, fX3_weight_72, fX3_weight_73, p0, p1, q0, q1, ↓C_X3_isOutcome, b2i_0, Classical.not_not, ↓reduceIte, not_true_eq_false, not_false_eq_true, false_implies, true_implies, implies_true, and_true, true_and, and_false, false_and, or_true, true_or, or_false, false_or, Classical.not_not, ite_true, ite_false]
    refine ⟨g.now, ⟨c1, hn⟩, ?_⟩
    by_cases ho : isO g.now o
    case neg =>
      unfold s_weight at hfin
      rw [cif_f ho] at hfin
      simp only [ho, ↓reduceIte, not_true_eq_false, not_false_eq_true, false_implies, true_implies, implies_true, and_true, true_and, and_false, false_and, or_true, true_or, or_false, false_or, Classical.not_not, ite_true, ite_false]
      exact hfin
    simp only [ho, ↓reduceIte, not_true_eq_false, not_false_eq_true, false_implies, true_implies, implies_true, and_true, true_and, and_false, false_and, or_true, true_or, or_false, false_or, Classical.not_not, ite_true, ite_false]
    unfold s_weight at hfin
    rw [cif_t ho] at hfin
    obtain ⟨o1, o2, o3⟩ := isO_cl hn ho
    have key : ∀ k i, i + k = g.now.n → R 17 [(0, .ref 0), (1, .int o), (2, .long (lN (wtN g.now.W (cl o) i))), (4, .int (nI i))] [] X := by
      intro k
      induction k with
      | zero =>
        intro i hi
        refine go hR [(17, [0, 1, 2, 4])] 60 ?_
        simp only [↓reduceIte, Nat.reduceEqDiff, Nat.reduceAdd, Nat.reduceLeDiff, reduceCtorEq, and_true, true_and, false_and, and_false, true_or, or_true, or_false, false_or, true_implies, false_implies, implies_true, not_true_eq_false, not_false_eq_true, eq_self, fx_s, ↓run_s, run_0, ↓rs_n, ↓rs_c, as_s, ls_n, ls_c, lc_s, lget_c, fX3_weight_0, ↓ex_aload_n, ↓xR_r, ↓xRg_c, fX3_weight_1, ↓ex_iload_n, ↓xI_i, ↓xIg_c, fX3_weight_2, ↓ex_invokevirtual, ↓xc_0, ↓xc_s, ↓xc_1, ↓pk_s, ↓k_s, ↓k_n, catS_n, catS_c, rOk_c, ct_i, ct_l, ct_r, ↓pk_f, fX3_weight_5, ↓ex_ifCond_ne, ↓s1I_c, fX3_weight_8, ↓ex_ldc2_w, fX3_weight_11, ↓ex_lreturn, ↓rt_l, fX3_weight_12, ↓ex_lconst, fX3_weight_13, ↓ex_lstore_n, ↓s1L_c, ↓lsto_e, ↓lrmK_n, ↓lrmK_t, fX3_weight_14, ↓ex_iconst, fX3_weight_15, ↓ex_istore, ↓lrmK_f, fX3_weight_17, ↓ex_iload, fX3_weight_19, fX3_weight_20, ↓ex_getfield, ↓s1R_c, ↓fv_3_0, fX3_weight_23, ↓fv_0_4, fX3_weight_26, ↓ex_if_icmp_ge, ↓s2I_c, fX3_weight_29, fX3_weight_30, fX3_weight_33, ↓fv_0_2, fX3_weight_36, fX3_weight_38, ↓ex_iaload, ↓sRI_c, ↓scrR_n, fX3_weight_39, fX3_weight_41, ↓ex_lload_n, ↓xL_l, ↓xLg_c, fX3_weight_42, fX3_weight_43, fX3_weight_45, ↓ex_ishr, fX3_weight_46, fX3_weight_47, ↓ex_iand, fX3_weight_48, fX3_weight_49, ↓ex_if_icmp_ne, fX3_weight_52, fX3_weight_54, ↓ex_i2l, fX3_weight_55, ↓ex_goto, fX3_weight_58, ↓ex_bipush, fX3_weight_60, fX3_weight_62, ↓ex_isub, fX3_weight_63, fX3_weight_64, ↓ex_lmul, ↓s2L_c, fX3_weight_65, fX3_weight_66, ↓ex_iinc, fX3_weight_69, fX3_weight_72, fX3_weight_73, p0, p1, p4, q0, q1, q4, d1, leN (a := g.now.n) (b := i) (by omega) (by omega)]
        refine ⟨fun _ => ?_, fun z => absurd (by omega) z⟩
        rw [show i = g.now.n by omega]
        exact hfin
      | succ k ih =>
        intro i hi
        refine go hR [(17, [0, 1, 2, 4])] 60 ?_
        have hW := (w1.2.1 i (by omega)).2.2.2.1
        have eo : (o >>> (nI i &&& 31) &&& 1 = 1) = ((cl o).testBit i = true) := by
          have := bit1 (m := cl o) (e := i) (by omega) (by omega)
          rw [← o3] at this
          exact this
        have e10 : (10 : Int32) - nI (g.now.W i) = nI (10 - g.now.W i) := pk_sub (a := 10) hW
        simp only [↓reduceIte, Nat.reduceEqDiff, Nat.reduceAdd, Nat.reduceLeDiff, reduceCtorEq, and_true, true_and, false_and, and_false, true_or, or_true, or_false, false_or, true_implies, false_implies, implies_true, not_true_eq_false, not_false_eq_true, eq_self, fx_s, ↓run_s, run_0, ↓rs_n, ↓rs_c, as_s, ls_n, ls_c, lc_s, lget_c, fX3_weight_0, ↓ex_aload_n, ↓xR_r, ↓xRg_c, fX3_weight_1, ↓ex_iload_n, ↓xI_i, ↓xIg_c, fX3_weight_2, ↓ex_invokevirtual, ↓xc_0, ↓xc_s, ↓xc_1, ↓pk_s, ↓k_s, ↓k_n, catS_n, catS_c, rOk_c, ct_i, ct_l, ct_r, ↓pk_f, fX3_weight_5, ↓ex_ifCond_ne, ↓s1I_c, fX3_weight_8, ↓ex_ldc2_w, fX3_weight_11, ↓ex_lreturn, ↓rt_l, fX3_weight_12, ↓ex_lconst, fX3_weight_13, ↓ex_lstore_n, ↓s1L_c, ↓lsto_e, ↓lrmK_n, ↓lrmK_t, fX3_weight_14, ↓ex_iconst, fX3_weight_15, ↓ex_istore, ↓lrmK_f, fX3_weight_17, ↓ex_iload, fX3_weight_19, fX3_weight_20, ↓ex_getfield, ↓s1R_c, ↓fv_3_0, fX3_weight_23, ↓fv_0_4, fX3_weight_26, ↓ex_if_icmp_ge, ↓s2I_c, fX3_weight_29, fX3_weight_30, fX3_weight_33, ↓fv_0_2, fX3_weight_36, fX3_weight_38, ↓ex_iaload, ↓sRI_c, ↓scrR_n, fX3_weight_39, fX3_weight_41, ↓ex_lload_n, ↓xL_l, ↓xLg_c, fX3_weight_42, fX3_weight_43, fX3_weight_45, ↓ex_ishr, fX3_weight_46, fX3_weight_47, ↓ex_iand, fX3_weight_48, fX3_weight_49, ↓ex_if_icmp_ne, fX3_weight_52, fX3_weight_54, ↓ex_i2l, fX3_weight_55, ↓ex_goto, fX3_weight_58, ↓ex_bipush, fX3_weight_60, fX3_weight_62, ↓ex_isub, fX3_weight_63, fX3_weight_64, ↓ex_lmul, ↓s2L_c, fX3_weight_65, fX3_weight_66, ↓ex_iinc, fX3_weight_69, fX3_weight_72, fX3_weight_73, p0, p1, p4, q0, q1, q4, d1, leN (a := g.now.n) (b := i) (by omega) (by omega), clampN (n := i) (by omega), add1N, (d2 i (by omega)).2.2.1, eo, e10, i2lN (n := g.now.W i) (by omega), i2lN (n := 10 - g.now.W i) (by omega), lN_mul]
        refine ⟨fun z => absurd z (by omega), fun _ => ⟨vp_inN (by omega) (by omega), fun hb => ?_, fun hb => ?_⟩⟩
        · have := ih (i + 1) (by omega)
          unfold wtN at this
          rw [if_neg hb] at this
          exact this
        · have := ih (i + 1) (by omega)
          unfold wtN at this
          rw [if_pos hb] at this
          exact this
    exact key g.now.n 0 (by omega)
  next => exact hC.elim)
/-- the numbers that a simulation draws -/
def seedN (x : Int32) : Nat → Int32
  | 0 => x
  | k + 1 => seedN x k * 1103515245 + 12345
def u10 (s : Int32) : Int32 := (s.toUInt32 >>> ((8 : Int32).toUInt32 &&& Int32.toUInt32 31)).toInt32
def drawB (W : Nat → Nat) (x : Int32) (k : Nat) : Prop := u10 (seedN x (k + 1)) - u10 (seedN x (k + 1)) / 10 * 10 < nI (W k)
noncomputable def drawN (W : Nat → Nat) (x : Int32) : Nat → Nat
  | 0 => 0
  | k + 1 => cif (drawB W x k) (drawN W x k ||| 2 ^ k) (drawN W x k)
theorem drawN_lt (W : Nat → Nat) (x : Int32) : ∀ k, drawN W x k < 2 ^ k
  | 0 => Nat.one_pos
  | k + 1 => by
    have h := drawN_lt W x k
    have h2 : 2 ^ k < 2 ^ (k + 1) := Nat.pow_lt_pow_right (by decide) (by omega)
    unfold drawN
    by_cases z : drawB W x k
    · rw [cif_t z]
      exact Nat.or_lt_two_pow (by omega) h2
    · rw [cif_f z]
      omega
noncomputable def C_X3_drawOutcome : CT := fun As X K => match As with
  | [.ref b, .int x] => ∃ s : SV, (b = 0 ∧ RS X 1 s ∧ s.n ≤ 12) ∧ K (some (.int (nI (drawN s.W x s.n)))) X
  | _ => False
set_option maxRecDepth 20000 in
set_option maxHeartbeats 4000000 in
theorem d_X3_drawOutcome (l : Launch) : Does l yX3_drawOutcome (wY yX3_drawOutcome cX3_drawOutcome 5 (retT 0)) (rmF 0) C_X3_drawOutcome := does_of (rt := 0) (by decide +kernel) tkX3_drawOutcome (calls := []) (fun _ h => absurd h List.not_mem_nil) (by
  intro As X post hC
  unfold C_X3_drawOutcome at hC
  split at hC
  next b x =>
    obtain ⟨s, ⟨rfl, ⟨h1, h2, -⟩, hn⟩, hC⟩ := hC
    refine ⟨Nat.le_of_ble_eq_true rfl, fun R hR => ?_⟩
    obtain ⟨⟨p0, p1, p2, p3, p4, p5, p6⟩, q0, q1, q2, q3, q4, q5, q6⟩ := sh_base
    have key : ∀ k i, i + k = s.n → R 7 [(0, .ref 0), (2, .int (nI (drawN s.W x i))), (3, .int (seedN x i)), (4, .int (nI i))] [] X := by
      intro k
      induction k with
      | zero =>
        intro i hi
        refine go hR [(7, [0, 2, 3, 4])] 60 ?_
        simp only [↓reduceIte, Nat.reduceEqDiff, Nat.reduceAdd, Nat.reduceLeDiff, reduceCtorEq, and_true, true_and, false_and, and_false, true_or, or_true, or_false, false_or, true_implies, false_implies, implies_true, not_true_eq_false, not_false_eq_true, eq_self, fx_s, ↓run_s, run_0, ↓rs_n, ↓rs_c, as_s, ls_n, ls_c, lc_s, lget_c, fX3_drawOutcome_0, ↓ex_iconst, fX3_drawOutcome_1, ↓ex_istore_n, ↓s1I_c, ↓lsto_e, ↓lrmK_n, ↓lrmK_f, ct_i, ct_l, ct_r, fX3_drawOutcome_2, ↓ex_iload_n, ↓xI_i, ↓xIg_c, fX3_drawOutcome_3, fX3_drawOutcome_4, fX3_drawOutcome_5, ↓ex_istore, fX3_drawOutcome_7, ↓ex_iload, fX3_drawOutcome_9, ↓ex_aload_n, ↓xR_r, ↓xRg_c, fX3_drawOutcome_10, ↓ex_getfield, ↓s1R_c, ↓fv_3_0, fX3_drawOutcome_13, ↓fv_0_4, fX3_drawOutcome_16, ↓ex_if_icmp_ge, ↓s2I_c, fX3_drawOutcome_19, fX3_drawOutcome_20, ↓ex_ldc, fX3_drawOutcome_22, ↓ex_imul, fX3_drawOutcome_23, ↓ex_sipush, fX3_drawOutcome_26, ↓ex_iadd, fX3_drawOutcome_27, fX3_drawOutcome_28, fX3_drawOutcome_29, ↓ex_bipush, fX3_drawOutcome_31, ↓ex_iushr, fX3_drawOutcome_32, fX3_drawOutcome_34, ↓ex_irem, fX3_drawOutcome_35, fX3_drawOutcome_36, fX3_drawOutcome_39, ↓fv_0_2, fX3_drawOutcome_42, fX3_drawOutcome_44, ↓ex_iaload, ↓sRI_c, ↓scrR_n, fX3_drawOutcome_45, fX3_drawOutcome_48, fX3_drawOutcome_49, fX3_drawOutcome_50, fX3_drawOutcome_52, ↓ex_ishl, fX3_drawOutcome_53, ↓ex_ior, fX3_drawOutcome_54, fX3_drawOutcome_55, ↓ex_iinc, fX3_drawOutcome_58, ↓ex_goto, fX3_drawOutcome_61, fX3_drawOutcome_62, ↓ex_ireturn, ↓rt_i, p0, p1, q0, q1, h1, leN (a := s.n) (b := i) (by omega) (by omega)]
        refine ⟨fun _ => ?_, fun z => absurd (by omega) z⟩
        rw [show i = s.n by omega]
        exact hC
      | succ k ih =>
        intro i hi
        refine go hR [(7, [0, 2, 3, 4])] 60 ?_
        simp only [↓reduceIte, Nat.reduceEqDiff, Nat.reduceAdd, Nat.reduceLeDiff, reduceCtorEq, and_true, true_and, false_and, and_false, true_or, or_true, or_false, false_or, true_implies, false_implies, implies_true, not_true_eq_false, not_false_eq_true, eq_self, fx_s, ↓run_s, run_0, ↓rs_n, ↓rs_c, as_s, ls_n, ls_c, lc_s, lget_c, fX3_drawOutcome_0, ↓ex_iconst, fX3_drawOutcome_1, ↓ex_istore_n, ↓s1I_c, ↓lsto_e, ↓lrmK_n, ↓lrmK_f, ct_i, ct_l, ct_r, fX3_drawOutcome_2, ↓ex_iload_n, ↓xI_i, ↓xIg_c, fX3_drawOutcome_3, fX3_drawOutcome_4, fX3_drawOutcome_5, ↓ex_istore, fX3_drawOutcome_7, ↓ex_iload, fX3_drawOutcome_9, ↓ex_aload_n, ↓xR_r, ↓xRg_c, fX3_drawOutcome_10, ↓ex_getfield, ↓s1R_c, ↓fv_3_0, fX3_drawOutcome_13, ↓fv_0_4, fX3_drawOutcome_16, ↓ex_if_icmp_ge, ↓s2I_c, fX3_drawOutcome_19, fX3_drawOutcome_20, ↓ex_ldc, fX3_drawOutcome_22, ↓ex_imul, fX3_drawOutcome_23, ↓ex_sipush, fX3_drawOutcome_26, ↓ex_iadd, fX3_drawOutcome_27, fX3_drawOutcome_28, fX3_drawOutcome_29, ↓ex_bipush, fX3_drawOutcome_31, ↓ex_iushr, fX3_drawOutcome_32, fX3_drawOutcome_34, ↓ex_irem, fX3_drawOutcome_35, fX3_drawOutcome_36, fX3_drawOutcome_39, ↓fv_0_2, fX3_drawOutcome_42, fX3_drawOutcome_44, ↓ex_iaload, ↓sRI_c, ↓scrR_n, fX3_drawOutcome_45, fX3_drawOutcome_48, fX3_drawOutcome_49, fX3_drawOutcome_50, fX3_drawOutcome_52, ↓ex_ishl, fX3_drawOutcome_53, ↓ex_ior, fX3_drawOutcome_54, fX3_drawOutcome_55, ↓ex_iinc, fX3_drawOutcome_58, ↓ex_goto, fX3_drawOutcome_61, fX3_drawOutcome_62, ↓ex_ireturn, ↓rt_i, p0, p1, p4, q0, q1, q4, h1, leN (a := s.n) (b := i) (by omega) (by omega), clampN (n := i) (by omega), add1N, (h2 i (by omega)).2.2.1, shlN (e := i) (by omega), fa_or]
        have hi1 := ih (i + 1) (by omega)
        unfold drawN at hi1
        refine ⟨fun z => absurd z (by omega), fun _ => ⟨(by decide), vp_inN (by omega) (by omega), fun hb => ?_, fun hb => ?_⟩⟩
        · have hb' : ¬ drawB s.W x i := fun z => by
            have z' : (_ : Int32) < nI (s.W i) := z
            rw [ltI] at z'
            rw [leI] at hb
            have : ∀ a b : Int, a < b → b ≤ a → False := fun a b h1 h2 => by omega
            exact this _ _ z' hb
          rw [cif_f hb'] at hi1
          exact hi1
        · have hb' : drawB s.W x i := by
            show (_ : Int32) < nI (s.W i)
            rw [ltI]
            rw [leI] at hb
            exact Int.not_le.mp hb
          rw [cif_t hb'] at hi1
          exact hi1
    refine go hR [(7, [0, 2, 3, 4])] 60 ?_
    simp only [lv_args, ↓reduceIte, Nat.reduceEqDiff, Nat.reduceAdd, Nat.reduceLeDiff, reduceCtorEq, and_true, true_and, false_and, and_false, true_or, or_true, or_false, false_or, true_implies, false_implies, implies_true, not_true_eq_false, not_false_eq_true, eq_self, fx_s, ↓run_s, run_0, ↓rs_n, ↓rs_c, as_s, ls_n, ls_c, lc_s, lget_c, fX3_drawOutcome_0, ↓ex_iconst, fX3_drawOutcome_1, ↓ex_istore_n, ↓s1I_c, ↓lsto_e, ↓lrmK_n, ↓lrmK_f, ct_i, ct_l, ct_r, fX3_drawOutcome_2, ↓ex_iload_n, ↓xI_i, ↓xIg_c, fX3_drawOutcome_3, fX3_drawOutcome_4, fX3_drawOutcome_5, ↓ex_istore, fX3_drawOutcome_7, ↓ex_iload, fX3_drawOutcome_9, ↓ex_aload_n, ↓xR_r, ↓xRg_c, fX3_drawOutcome_10, ↓ex_getfield, ↓s1R_c, ↓fv_3_0, fX3_drawOutcome_13, ↓fv_0_4, fX3_drawOutcome_16, ↓ex_if_icmp_ge, ↓s2I_c, fX3_drawOutcome_19, fX3_drawOutcome_20, ↓ex_ldc, fX3_drawOutcome_22, ↓ex_imul, fX3_drawOutcome_23, ↓ex_sipush, fX3_drawOutcome_26, ↓ex_iadd, fX3_drawOutcome_27, fX3_drawOutcome_28, fX3_drawOutcome_29, ↓ex_bipush, fX3_drawOutcome_31, ↓ex_iushr, fX3_drawOutcome_32, fX3_drawOutcome_34, ↓ex_irem, fX3_drawOutcome_35, fX3_drawOutcome_36, fX3_drawOutcome_39, ↓fv_0_2, fX3_drawOutcome_42, fX3_drawOutcome_44, ↓ex_iaload, ↓sRI_c, ↓scrR_n, fX3_drawOutcome_45, fX3_drawOutcome_48, fX3_drawOutcome_49, fX3_drawOutcome_50, fX3_drawOutcome_52, ↓ex_ishl, fX3_drawOutcome_53, ↓ex_ior, fX3_drawOutcome_54, fX3_drawOutcome_55, ↓ex_iinc, fX3_drawOutcome_58, ↓ex_goto, fX3_drawOutcome_61, fX3_drawOutcome_62, ↓ex_ireturn, ↓rt_i]
    exact key s.n 0 (by omega)
  next => exact hC.elim)
end BITS
