section MVALUES
theorem sumN_bits (P : Nat → Prop) : sumN (fun k => setN P 32 / 2 ^ k % 2) 32 = sumN (fun k => cif (P k) 1 0) 32 := by
  refine sumN_congr 32 (fun k hk => ?_)
  have h := setN_bit P 32 k
  rw [Nat.testBit_eq_decide_div_mod_eq] at h
  have h2 : setN P 32 / 2 ^ k % 2 < 2 := Nat.mod_lt _ (by decide)
  by_cases c : P k
  · have := h.mpr ⟨hk, c⟩
    rw [cif_t c]
    simpa using this
  · rw [cif_f c]
    have h3 : ¬ setN P 32 / 2 ^ k % 2 = 1 := fun z => c (h.mp (by simpa using z)).2
    omega
/-- node v hears by time k (31: never) by some source and some outcome that fits -/
def occ (s : SV) (v k : Nat) : Prop := ∃ u, u < 8 ∧ ∃ o, reg s (2 ^ u) (wS s) 0 0 o ∧ tau s (2 ^ u) o v = k
theorem occ_31 {s : SV} (hW : WE s) {v k : Nat} (hv : v < 8) (h : occ s v k) : k ≤ 31 := by
  obtain ⟨u, -, o, -, rfl⟩ := h
  exact tau_31 hW _ _ hv
theorem values_free (s : SV) (v : Nat) : bcF (lN (metS s v 8)) = nI (sumN (fun k => cif (occ s v k) 1 0) 32) := by
  rw [bcF_pop (metS_lt s v 8)]
  exact congrArg nI (sumN_bits (fun k => occ s v k))
theorem reg_LSt {s : SV} {u : Nat} : 0 < LSt s u ↔ ∃ o, reg s (2 ^ u) (wS s) 0 0 o := by
  unfold LSt LK SF
  rw [sumN_pos]
  constructor
  · rintro ⟨o, ho, h⟩
    refine ⟨o, ho, agr_0 s o, ?_⟩
    by_cases c : agr s 0 0 o ∧ fitW s (2 ^ u) (wS s) o
    · rw [cif_t c] at h; exact ⟨c.2, h⟩
    · rw [cif_f c] at h; omega
  · rintro ⟨o, ho, h1, h2, h3⟩
    exact ⟨o, ho, by rw [cif_t ⟨h1, h2⟩]; exact h3⟩
theorem cntC_pos (s : SV) : ∀ k, 0 < cntC s k ↔ ∃ u, u < k ∧ 0 < LSt s u
  | 0 => ⟨fun h => absurd h (Nat.lt_irrefl 0), fun ⟨u, h, _⟩ => absurd h (Nat.not_lt_zero u)⟩
  | k + 1 => by
    have ih := cntC_pos s k
    unfold cntC
    by_cases c : 0 < LSt s k
    · rw [cif_t c]
      exact ⟨fun _ => ⟨k, by omega, c⟩, fun _ => by omega⟩
    · rw [cif_f c, Nat.add_zero, ih]
      constructor
      · rintro ⟨u, h1, h2⟩; exact ⟨u, by omega, h2⟩
      · rintro ⟨u, h1, h2⟩
        refine ⟨u, ?_, h2⟩
        by_cases e : u = k
        · rw [e] at h2; exact absurd h2 c
        · omega
theorem sumN_one {f : Nat → Nat} {j : Nat} : ∀ k, j < k → (∀ i, i < k → i ≠ j → f i = 0) → sumN f k = f j
  | 0, h, _ => absurd h (Nat.not_lt_zero j)
  | k + 1, h, h0 => by
    unfold sumN
    by_cases e : j = k
    · subst e
      rw [sumN_zero j (fun i hi => h0 i (by omega) (by omega)), Nat.zero_add]
    · rw [sumN_one k (by omega) (fun i hi hne => h0 i (by omega) hne), h0 k (by omega) (fun z => e z.symm), Nat.add_zero]
theorem values_seen {s : SV} (hW : WE s) (hok : ∀ v, v < 8 → okS (s.S v)) {v : Nat} (hv : v < 8) (h100 : s.S v ≠ 100) : nI (sumN (fun k => cif (occ s v k) 1 0) 32) = cif (0 < cntC s 8) 1 0 := by
  have hw : wS s v ≠ 100 := by
    unfold wS wI
    rcases hok v hv with z | z | ⟨n, hn, z⟩
    · rw [z, if_pos rfl]; decide
    · exact absurd z h100
    · rw [z, if_neg (fun y => by rw [eqI, nI_toInt (by omega), tI_m1] at y; omega), show cl (nI n) = n from clampN (by omega)]; omega
  have honly : ∀ k, occ s v k → k = wS s v := by
    rintro k ⟨u, hu, o, ⟨-, -, hf, -⟩, rfl⟩
    exact (hf v hv).resolve_left hw
  by_cases c : 0 < cntC s 8
  · rw [cif_t c]
    obtain ⟨u, hu, h2⟩ := (cntC_pos s 8).mp c
    obtain ⟨o, ho⟩ := reg_LSt.mp h2
    have hocc : occ s v (tau s (2 ^ u) o v) := ⟨u, hu, o, ho, rfl⟩
    have h31 := occ_31 hW hv hocc
    have he := honly _ hocc
    rw [sumN_one (j := tau s (2 ^ u) o v) 32 (by omega) (fun i hi hne => cif_f (fun z => hne (by rw [honly i z, he]))), cif_t hocc]
    rfl
  · rw [cif_f c, sumN_zero 32 (fun i hi => cif_f (fun z => c ?_))]
    · rfl
    · obtain ⟨u, hu, o, ho, -⟩ := z
      exact (cntC_pos s 8).mpr ⟨u, hu, reg_LSt.mpr ⟨o, ho⟩⟩
def fr5 (X X' : XT) : Prop := Fr (fun k => k = 53 ∨ k = 55) X X'
noncomputable def C_X4_values : CT := fun As X K => match As with
  | [.ref b, .int v] => b = 51 ∧ PubMI (s_values v) X K
  | _ => False
set_option maxRecDepth 20000 in
set_option maxHeartbeats 4000000 in
theorem d_X4_values (l : Launch) : Does l yX4_values (wY yX4_values cX4_values 4 (retT 0)) (rmF 2) C_X4_values := does_of (rt := 0) (by decide +kernel) tkX4_values (calls := [(50, true, 1, 4, C_X4_isNode), (84, false, 2, 4, C_X4_weightOf), (78, false, 3, 4, C_X4_hears), (90, false, 1, 4, C_X4_isFit)]) (List.forall_mem_cons.mpr ⟨cr_S (d_X4_isNode l) (by decide +kernel) (by decide +kernel) ⟨rfl, rfl⟩ ⟨Nat.le_of_ble_eq_true rfl, Nat.le_of_ble_eq_true rfl⟩, List.forall_mem_cons.mpr ⟨cr_V (d_X4_weightOf l) rfl (by decide +kernel) (by decide +kernel) ⟨rfl, rfl⟩ ⟨Nat.le_of_ble_eq_true rfl, Nat.le_of_ble_eq_true rfl⟩, List.forall_mem_cons.mpr ⟨cr_V (d_X4_hears l) rfl (by decide +kernel) (by decide +kernel) ⟨rfl, rfl⟩ ⟨Nat.le_of_ble_eq_true rfl, Nat.le_of_ble_eq_true rfl⟩, List.forall_mem_cons.mpr ⟨cr_V (d_X4_isFit l) rfl (by decide +kernel) (by decide +kernel) ⟨rfl, rfl⟩ ⟨Nat.le_of_ble_eq_true rfl, Nat.le_of_ble_eq_true rfl⟩, fun _ h => absurd h List.not_mem_nil⟩⟩⟩⟩) (by
  intro As X post hC
  unfold C_X4_values at hC
  split at hC
  next b v =>
    obtain ⟨rfl, g, hR0, hpost⟩ := hC
    refine ⟨Nat.le_of_ble_eq_true rfl, fun R hR => ?_⟩
    obtain ⟨⟨p1, p2, p3, p4, p5, p6, p7⟩, q1, q2, q3, q4, q5, q6, q7⟩ := sh_m
    have hw := hR0.1.1
    have hn := hw.1
    have m1 := hR0.2.1
    have h0 : (0 : Int64) = lN 0 := rfl
    have p24 := p2_lt hn
    refine go hR [(12, [0, 1, 2])] 60 ?_
    simp only [lv_args, ↓reduceIte, Nat.reduceEqDiff, Nat.reduceAdd, Nat.reduceLeDiff, reduceCtorEq, and_true, true_and, false_and, and_false, true_or, or_true, or_false, false_or, true_implies, false_implies, implies_true, not_true_eq_false, not_false_eq_true, eq_self, fx_s, ↓run_s, run_0, ↓rs_n, ↓rs_c, as_s, ls_n, ls_c, lc_s, lget_c, fX4_values_0, ↓ex_iload_n, ↓xI_i, ↓xIg_c, fX4_values_1, ↓ex_invokestatic, ↓xc_0, ↓xc_s, ↓xc_1, ↓pk_s, ↓k_s, ↓k_n, catS_n, catS_c, rOk_c, ct_i, ct_l, ct_r, ↓pk_t, fX4_values_4, ↓ex_ifCond_ne, ↓s1I_c, fX4_values_7, ↓ex_bipush, fX4_values_9, ↓ex_ireturn, ↓rt_i, fX4_values_10, ↓ex_iconst, fX4_values_11, ↓ex_istore_n, ↓lsto_e, ↓lrmK_n, ↓lrmK_f, fX4_values_12, fX4_values_13, fX4_values_15, ↓ex_if_icmp_ge, ↓s2I_c, fX4_values_18, ↓ex_aload_n, ↓xR_r, ↓xRg_c, fX4_values_19, ↓ex_getfield, ↓s1R_c, ↓fv_4_5, fX4_values_22, fX4_values_23, fX4_values_24, ↓ex_bastore, ↓sRII_c, fX4_values_25, ↓ex_iinc, fX4_values_28, ↓ex_goto, fX4_values_31, fX4_values_32, fX4_values_33, fX4_values_34, fX4_values_35, fX4_values_36, ↓fv_4_0, fX4_values_39, fX4_values_40, ↓ex_iaload, ↓sRI_c, ↓scrR_n, fX4_values_41, ↓ex_ishl, fX4_values_42, fX4_values_45, fX4_values_46, fX4_values_47, fX4_values_48, fX4_values_50, fX4_values_53, fX4_values_54, fX4_values_55, ↓ex_invokevirtual, ↓pk_f, fX4_values_58, ↓ex_lconst, fX4_values_59, ↓ex_lcmp, ↓s2L_c, fX4_values_60, ↓ex_ifCond_le, fX4_values_63, fX4_values_64, fX4_values_65, fX4_values_66, fX4_values_67, fX4_values_68, fX4_values_71, fX4_values_72, fX4_values_75, ↓ex_ifCond_eq, fX4_values_78, fX4_values_79, fX4_values_82, fX4_values_83, ↓fv_4_3, fX4_values_86, fX4_values_87, fX4_values_88, ↓ex_sipush, fX4_values_91, ↓ex_if_icmp_ne, fX4_values_94, fX4_values_96, fX4_values_99, fX4_values_100, fX4_values_103, fX4_values_104, fX4_values_105, fX4_values_106, fX4_values_107, fX4_values_110, fX4_values_113, fX4_values_116, fX4_values_119, fX4_values_120, fX4_values_121, fX4_values_122, fX4_values_123, fX4_values_124, fX4_values_126, fX4_values_129, fX4_values_130, fX4_values_131, fX4_values_134, fX4_values_135, ↓ex_baload, fX4_values_136, fX4_values_139, fX4_values_140, fX4_values_143, fX4_values_144, ↓ex_iadd, fX4_values_145, fX4_values_146, fX4_values_149, fX4_values_152, fX4_values_153, ↓C_X4_isNode, b2i_0, ↓reduceIte, not_true_eq_false, not_false_eq_true, false_implies, true_implies, implies_true, and_true, true_and, and_false, false_and, or_true, true_or, or_false, false_or, Classical.not_not, ite_true, ite_false]
    unfold s_values at hpost
    by_cases h : inR v 0 7
    case neg => (rw [cif_f h] at hpost; simp only [h, ↓reduceIte, not_true_eq_false, not_false_eq_true, false_implies, true_implies, implies_true, and_true, true_and, and_false, false_and, or_true, true_or, or_false, false_or, Classical.not_not, ite_true, ite_false]; exact hpost X hR0 (FrC.rf X))
    simp only [h, ↓reduceIte, not_true_eq_false, not_false_eq_true, false_implies, true_implies, implies_true, and_true, true_and, and_false, false_and, or_true, true_or, or_false, false_or, Classical.not_not, ite_true, ite_false]
    rw [cif_t h] at hpost
    obtain ⟨-, h2, h3⟩ := inR_cl (lo := 0) (hi := 7) (by omega) h
    generalize cl v = d at h2 h3 hpost
    subst h3
    obtain ⟨s, hs⟩ : ∃ s, s = g.now := ⟨_, rfl⟩
    rw [← hs] at hw hn m1 hpost p24
    have hval : cif (s.S d = 100) (bcF (lN (metS s d 8))) (cif (0 < cntC s 8) 1 0) = nI (sumN (fun k => cif (occ s d k) 1 0) 32) := by
      by_cases c : s.S d = 100
      · rw [cif_t c]; exact values_free s d
      · rw [cif_f c]; exact (values_seen hw.we hw.oks.2 (by omega) c).symm
    rw [hval] at hpost
    have row : ∀ {Y}, fr5 X Y → RSf (Y.1 52) s := fun hF => by rw [hF.1 52 (by decide)]; exact m1
    -- the count
    have key3 : ∀ Y, fr5 X Y → (∀ k, k < 32 → Y.1 55 k = b2i (occ s d k)) → ∀ q k, k + q = 32 → R 123 [(0, .ref 51), (2, .int (nI (sumN (fun k => cif (occ s d k) 1 0) k))), (3, .int (nI k))] [] Y := by
      intro Y hF hY q
      induction q with
      | zero =>
        intro k hk
        have c32 : ((32 : Int32) ≤ nI k) = (32 ≤ k) := propext (leN (a := 32) (by decide) (by omega))
        refine go hR [(123, [0, 2, 3])] 60 ?_
        simp only [↓reduceIte, Nat.reduceEqDiff, Nat.reduceAdd, Nat.reduceLeDiff, reduceCtorEq, and_true, true_and, false_and, and_false, true_or, or_true, or_false, false_or, true_implies, false_implies, implies_true, not_true_eq_false, not_false_eq_true, eq_self, fx_s, ↓run_s, run_0, ↓rs_n, ↓rs_c, as_s, ls_n, ls_c, lc_s, lget_c, fX4_values_0, ↓ex_iload_n, ↓xI_i, ↓xIg_c, fX4_values_1, ↓ex_invokestatic, ↓xc_0, ↓xc_s, ↓xc_1, ↓pk_s, ↓k_s, ↓k_n, catS_n, catS_c, rOk_c, ct_i, ct_l, ct_r, ↓pk_t, fX4_values_4, ↓ex_ifCond_ne, ↓s1I_c, fX4_values_7, ↓ex_bipush, fX4_values_9, ↓ex_ireturn, ↓rt_i, fX4_values_10, ↓ex_iconst, fX4_values_11, ↓ex_istore_n, ↓lsto_e, ↓lrmK_n, ↓lrmK_f, fX4_values_12, fX4_values_13, fX4_values_15, ↓ex_if_icmp_ge, ↓s2I_c, fX4_values_18, ↓ex_aload_n, ↓xR_r, ↓xRg_c, fX4_values_19, ↓ex_getfield, ↓s1R_c, ↓fv_4_5, fX4_values_22, fX4_values_23, fX4_values_24, ↓ex_bastore, ↓sRII_c, fX4_values_25, ↓ex_iinc, fX4_values_28, ↓ex_goto, fX4_values_31, fX4_values_32, fX4_values_33, fX4_values_34, fX4_values_35, fX4_values_36, ↓fv_4_0, fX4_values_39, fX4_values_40, ↓ex_iaload, ↓sRI_c, ↓scrR_n, fX4_values_41, ↓ex_ishl, fX4_values_42, fX4_values_45, fX4_values_46, fX4_values_47, fX4_values_48, fX4_values_50, fX4_values_53, fX4_values_54, fX4_values_55, ↓ex_invokevirtual, ↓pk_f, fX4_values_58, ↓ex_lconst, fX4_values_59, ↓ex_lcmp, ↓s2L_c, fX4_values_60, ↓ex_ifCond_le, fX4_values_63, fX4_values_64, fX4_values_65, fX4_values_66, fX4_values_67, fX4_values_68, fX4_values_71, fX4_values_72, fX4_values_75, ↓ex_ifCond_eq, fX4_values_78, fX4_values_79, fX4_values_82, fX4_values_83, ↓fv_4_3, fX4_values_86, fX4_values_87, fX4_values_88, ↓ex_sipush, fX4_values_91, ↓ex_if_icmp_ne, fX4_values_94, fX4_values_96, fX4_values_99, fX4_values_100, fX4_values_103, fX4_values_104, fX4_values_105, fX4_values_106, fX4_values_107, fX4_values_110, fX4_values_113, fX4_values_116, fX4_values_119, fX4_values_120, fX4_values_121, fX4_values_122, fX4_values_123, fX4_values_124, fX4_values_126, fX4_values_129, fX4_values_130, fX4_values_131, fX4_values_134, fX4_values_135, ↓ex_baload, fX4_values_136, fX4_values_139, fX4_values_140, fX4_values_143, fX4_values_144, ↓ex_iadd, fX4_values_145, fX4_values_146, fX4_values_149, fX4_values_152, fX4_values_153, c32, ↓reduceIte, not_true_eq_false, not_false_eq_true, false_implies, true_implies, implies_true, and_true, true_and, and_false, false_and, or_true, true_or, or_false, false_or, Classical.not_not, ite_true, ite_false]
        refine ⟨fun _ => ?_, fun z => absurd (by omega) z⟩
        rw [show k = 32 by omega]
        exact hpost Y (hR0.scrap (hF.mono (fun q z => by unfold mscr; omega))) (FrC.of hF (fun q z => by omega))
      | succ q ih =>
        intro k hk
        have c32 : ((32 : Int32) ≤ nI k) = (32 ≤ k) := propext (leN (a := 32) (by decide) (by omega))
        have hi1 := ih (k + 1) (by omega)
        have e : sumN (fun k => cif (occ s d k) 1 0) (k + 1) = sumN (fun k => cif (occ s d k) 1 0) k + cif (occ s d k) 1 0 := rfl
        rw [e] at hi1
        refine go hR [(123, [0, 2, 3])] 60 ?_
        simp only [↓reduceIte, Nat.reduceEqDiff, Nat.reduceAdd, Nat.reduceLeDiff, reduceCtorEq, and_true, true_and, false_and, and_false, true_or, or_true, or_false, false_or, true_implies, false_implies, implies_true, not_true_eq_false, not_false_eq_true, eq_self, fx_s, ↓run_s, run_0, ↓rs_n, ↓rs_c, as_s, ls_n, ls_c, lc_s, lget_c, fX4_values_0, ↓ex_iload_n, ↓xI_i, ↓xIg_c, fX4_values_1, ↓ex_invokestatic, ↓xc_0, ↓xc_s, ↓xc_1, ↓pk_s, ↓k_s, ↓k_n, catS_n, catS_c, rOk_c, ct_i, ct_l, ct_r, ↓pk_t, fX4_values_4, ↓ex_ifCond_ne, ↓s1I_c, fX4_values_7, ↓ex_bipush, fX4_values_9, ↓ex_ireturn, ↓rt_i, fX4_values_10, ↓ex_iconst, fX4_values_11, ↓ex_istore_n, ↓lsto_e, ↓lrmK_n, ↓lrmK_f, fX4_values_12, fX4_values_13, fX4_values_15, ↓ex_if_icmp_ge, ↓s2I_c, fX4_values_18, ↓ex_aload_n, ↓xR_r, ↓xRg_c, fX4_values_19, ↓ex_getfield, ↓s1R_c, ↓fv_4_5, fX4_values_22, fX4_values_23, fX4_values_24, ↓ex_bastore, ↓sRII_c, fX4_values_25, ↓ex_iinc, fX4_values_28, ↓ex_goto, fX4_values_31, fX4_values_32, fX4_values_33, fX4_values_34, fX4_values_35, fX4_values_36, ↓fv_4_0, fX4_values_39, fX4_values_40, ↓ex_iaload, ↓sRI_c, ↓scrR_n, fX4_values_41, ↓ex_ishl, fX4_values_42, fX4_values_45, fX4_values_46, fX4_values_47, fX4_values_48, fX4_values_50, fX4_values_53, fX4_values_54, fX4_values_55, ↓ex_invokevirtual, ↓pk_f, fX4_values_58, ↓ex_lconst, fX4_values_59, ↓ex_lcmp, ↓s2L_c, fX4_values_60, ↓ex_ifCond_le, fX4_values_63, fX4_values_64, fX4_values_65, fX4_values_66, fX4_values_67, fX4_values_68, fX4_values_71, fX4_values_72, fX4_values_75, ↓ex_ifCond_eq, fX4_values_78, fX4_values_79, fX4_values_82, fX4_values_83, ↓fv_4_3, fX4_values_86, fX4_values_87, fX4_values_88, ↓ex_sipush, fX4_values_91, ↓ex_if_icmp_ne, fX4_values_94, fX4_values_96, fX4_values_99, fX4_values_100, fX4_values_103, fX4_values_104, fX4_values_105, fX4_values_106, fX4_values_107, fX4_values_110, fX4_values_113, fX4_values_116, fX4_values_119, fX4_values_120, fX4_values_121, fX4_values_122, fX4_values_123, fX4_values_124, fX4_values_126, fX4_values_129, fX4_values_130, fX4_values_131, fX4_values_134, fX4_values_135, ↓ex_baload, fX4_values_136, fX4_values_139, fX4_values_140, fX4_values_143, fX4_values_144, ↓ex_iadd, fX4_values_145, fX4_values_146, fX4_values_149, fX4_values_152, fX4_values_153, p1, p5, q1, q5, c32, clampN (n := k) (by omega), hY k (by omega), b2i_0, add1N, add0N, ↓reduceIte, not_true_eq_false, not_false_eq_true, false_implies, true_implies, implies_true, and_true, true_and, and_false, false_and, or_true, true_or, or_false, false_or, Classical.not_not, ite_true, ite_false]
        refine ⟨fun z => absurd z (by omega), fun _ => ⟨vp_inN (by omega) (by omega), fun z => ?_, fun z => ?_⟩⟩
        · rw [cif_f z] at hi1; exact hi1
        · rw [cif_t z] at hi1; exact hi1
    -- what has been met by the outcomes below i, and by the sources below j at i
    have key2 : ∀ k i Y, i + k = 2 ^ s.n → fr5 X Y → (∀ q, q < 32 → Y.1 55 q = b2i (∃ u, u < 8 ∧ ∃ o, o < i ∧ reg s (2 ^ u) (wS s) 0 0 o ∧ tau s (2 ^ u) o d = q)) → R 33 [(0, .ref 51), (1, .int (nI d)), (2, .int (nI i))] [] Y := by
      intro k
      induction k with
      | zero =>
        intro i Y hi hF hY
        refine go hR [(33, [0, 1, 2]), (47, [0, 1, 2, 3]), (123, [0, 2, 3])] 60 ?_
        simp only [↓reduceIte, Nat.reduceEqDiff, Nat.reduceAdd, Nat.reduceLeDiff, reduceCtorEq, and_true, true_and, false_and, and_false, true_or, or_true, or_false, false_or, true_implies, false_implies, implies_true, not_true_eq_false, not_false_eq_true, eq_self, fx_s, ↓run_s, run_0, ↓rs_n, ↓rs_c, as_s, ls_n, ls_c, lc_s, lget_c, fX4_values_0, ↓ex_iload_n, ↓xI_i, ↓xIg_c, fX4_values_1, ↓ex_invokestatic, ↓xc_0, ↓xc_s, ↓xc_1, ↓pk_s, ↓k_s, ↓k_n, catS_n, catS_c, rOk_c, ct_i, ct_l, ct_r, ↓pk_t, fX4_values_4, ↓ex_ifCond_ne, ↓s1I_c, fX4_values_7, ↓ex_bipush, fX4_values_9, ↓ex_ireturn, ↓rt_i, fX4_values_10, ↓ex_iconst, fX4_values_11, ↓ex_istore_n, ↓lsto_e, ↓lrmK_n, ↓lrmK_f, fX4_values_12, fX4_values_13, fX4_values_15, ↓ex_if_icmp_ge, ↓s2I_c, fX4_values_18, ↓ex_aload_n, ↓xR_r, ↓xRg_c, fX4_values_19, ↓ex_getfield, ↓s1R_c, ↓fv_4_5, fX4_values_22, fX4_values_23, fX4_values_24, ↓ex_bastore, ↓sRII_c, fX4_values_25, ↓ex_iinc, fX4_values_28, ↓ex_goto, fX4_values_31, fX4_values_32, fX4_values_33, fX4_values_34, fX4_values_35, fX4_values_36, ↓fv_4_0, fX4_values_39, fX4_values_40, ↓ex_iaload, ↓sRI_c, ↓scrR_n, fX4_values_41, ↓ex_ishl, fX4_values_42, fX4_values_45, fX4_values_46, fX4_values_47, fX4_values_48, fX4_values_50, fX4_values_53, fX4_values_54, fX4_values_55, ↓ex_invokevirtual, ↓pk_f, fX4_values_58, ↓ex_lconst, fX4_values_59, ↓ex_lcmp, ↓s2L_c, fX4_values_60, ↓ex_ifCond_le, fX4_values_63, fX4_values_64, fX4_values_65, fX4_values_66, fX4_values_67, fX4_values_68, fX4_values_71, fX4_values_72, fX4_values_75, ↓ex_ifCond_eq, fX4_values_78, fX4_values_79, fX4_values_82, fX4_values_83, ↓fv_4_3, fX4_values_86, fX4_values_87, fX4_values_88, ↓ex_sipush, fX4_values_91, ↓ex_if_icmp_ne, fX4_values_94, fX4_values_96, fX4_values_99, fX4_values_100, fX4_values_103, fX4_values_104, fX4_values_105, fX4_values_106, fX4_values_107, fX4_values_110, fX4_values_113, fX4_values_116, fX4_values_119, fX4_values_120, fX4_values_121, fX4_values_122, fX4_values_123, fX4_values_124, fX4_values_126, fX4_values_129, fX4_values_130, fX4_values_131, fX4_values_134, fX4_values_135, ↓ex_baload, fX4_values_136, fX4_values_139, fX4_values_140, fX4_values_143, fX4_values_144, ↓ex_iadd, fX4_values_145, fX4_values_146, fX4_values_149, fX4_values_152, fX4_values_153, p1, p2, q1, q2, vr_0, clamp0, (row hF).1, shlN (e := s.n) (by omega), leN (a := 2 ^ s.n) (b := i) (by omega) (by omega), ↓reduceIte, not_true_eq_false, not_false_eq_true, false_implies, true_implies, implies_true, and_true, true_and, and_false, false_and, or_true, true_or, or_false, false_or, Classical.not_not, ite_true, ite_false]
        refine ⟨fun _ => key3 Y hF (fun q hq => ?_) 32 0 (by omega), fun z => absurd (by omega) z⟩
        rw [hY q hq]
        refine b2i_c ⟨?_, ?_⟩
        · rintro ⟨u, hu, o, ho, x, y⟩; exact ⟨u, hu, o, x, y⟩
        · rintro ⟨u, hu, o, x, y⟩; exact ⟨u, hu, o, by have := x.1; omega, x, y⟩
      | succ k ih =>
        intro i Y hi hF hY
        have hwt := wt_12 hw.we i
        have inner : ∀ q j Z, j + q = 8 → fr5 X Z → (∀ t, t < 32 → Z.1 55 t = b2i ((∃ u, u < 8 ∧ ∃ o, o < i ∧ reg s (2 ^ u) (wS s) 0 0 o ∧ tau s (2 ^ u) o d = t) ∨ ∃ u, u < j ∧ reg s (2 ^ u) (wS s) 0 0 i ∧ tau s (2 ^ u) i d = t)) → R 47 [(0, .ref 51), (1, .int (nI d)), (2, .int (nI i)), (3, .int (nI j))] [] Z := by
          intro q
          induction q with
          | zero =>
            intro j Z hj hZ hZ5
            refine go hR [(33, [0, 1, 2]), (47, [0, 1, 2, 3])] 60 ?_
            simp only [↓reduceIte, Nat.reduceEqDiff, Nat.reduceAdd, Nat.reduceLeDiff, reduceCtorEq, and_true, true_and, false_and, and_false, true_or, or_true, or_false, false_or, true_implies, false_implies, implies_true, not_true_eq_false, not_false_eq_true, eq_self, fx_s, ↓run_s, run_0, ↓rs_n, ↓rs_c, as_s, ls_n, ls_c, lc_s, lget_c, fX4_values_0, ↓ex_iload_n, ↓xI_i, ↓xIg_c, fX4_values_1, ↓ex_invokestatic, ↓xc_0, ↓xc_s, ↓xc_1, ↓pk_s, ↓k_s, ↓k_n, catS_n, catS_c, rOk_c, ct_i, ct_l, ct_r, ↓pk_t, fX4_values_4, ↓ex_ifCond_ne, ↓s1I_c, fX4_values_7, ↓ex_bipush, fX4_values_9, ↓ex_ireturn, ↓rt_i, fX4_values_10, ↓ex_iconst, fX4_values_11, ↓ex_istore_n, ↓lsto_e, ↓lrmK_n, ↓lrmK_f, fX4_values_12, fX4_values_13, fX4_values_15, ↓ex_if_icmp_ge, ↓s2I_c, fX4_values_18, ↓ex_aload_n, ↓xR_r, ↓xRg_c, fX4_values_19, ↓ex_getfield, ↓s1R_c, ↓fv_4_5, fX4_values_22, fX4_values_23, fX4_values_24, ↓ex_bastore, ↓sRII_c, fX4_values_25, ↓ex_iinc, fX4_values_28, ↓ex_goto, fX4_values_31, fX4_values_32, fX4_values_33, fX4_values_34, fX4_values_35, fX4_values_36, ↓fv_4_0, fX4_values_39, fX4_values_40, ↓ex_iaload, ↓sRI_c, ↓scrR_n, fX4_values_41, ↓ex_ishl, fX4_values_42, fX4_values_45, fX4_values_46, fX4_values_47, fX4_values_48, fX4_values_50, fX4_values_53, fX4_values_54, fX4_values_55, ↓ex_invokevirtual, ↓pk_f, fX4_values_58, ↓ex_lconst, fX4_values_59, ↓ex_lcmp, ↓s2L_c, fX4_values_60, ↓ex_ifCond_le, fX4_values_63, fX4_values_64, fX4_values_65, fX4_values_66, fX4_values_67, fX4_values_68, fX4_values_71, fX4_values_72, fX4_values_75, ↓ex_ifCond_eq, fX4_values_78, fX4_values_79, fX4_values_82, fX4_values_83, ↓fv_4_3, fX4_values_86, fX4_values_87, fX4_values_88, ↓ex_sipush, fX4_values_91, ↓ex_if_icmp_ne, fX4_values_94, fX4_values_96, fX4_values_99, fX4_values_100, fX4_values_103, fX4_values_104, fX4_values_105, fX4_values_106, fX4_values_107, fX4_values_110, fX4_values_113, fX4_values_116, fX4_values_119, fX4_values_120, fX4_values_121, fX4_values_122, fX4_values_123, fX4_values_124, fX4_values_126, fX4_values_129, fX4_values_130, fX4_values_131, fX4_values_134, fX4_values_135, ↓ex_baload, fX4_values_136, fX4_values_139, fX4_values_140, fX4_values_143, fX4_values_144, ↓ex_iadd, fX4_values_145, fX4_values_146, fX4_values_149, fX4_values_152, fX4_values_153, le8 (i := j) (by omega), add1N, ↓reduceIte, not_true_eq_false, not_false_eq_true, false_implies, true_implies, implies_true, and_true, true_and, and_false, false_and, or_true, true_or, or_false, false_or, Classical.not_not, ite_true, ite_false]
            refine ⟨fun _ => ih (i + 1) Z (by omega) hZ (fun t ht => ?_), fun z => absurd (by omega) z⟩
            rw [hZ5 t ht]
            refine b2i_c ⟨?_, ?_⟩
            · rintro (⟨u, hu, o, ho, x⟩ | ⟨u, hu, x⟩)
              · exact ⟨u, hu, o, by omega, x⟩
              · exact ⟨u, by omega, i, by omega, x⟩
            · rintro ⟨u, hu, o, ho, x⟩
              by_cases e : o = i
              · subst e; exact Or.inr ⟨u, by omega, x⟩
              · exact Or.inl ⟨u, hu, o, by omega, x⟩
          | succ q ihq =>
            intro j Z hj hZ hZ5
            refine go hR [(33, [0, 1, 2]), (47, [0, 1, 2, 3])] 120 ?_
            simp only [↓reduceIte, Nat.reduceEqDiff, Nat.reduceAdd, Nat.reduceLeDiff, reduceCtorEq, and_true, true_and, false_and, and_false, true_or, or_true, or_false, false_or, true_implies, false_implies, implies_true, not_true_eq_false, not_false_eq_true, eq_self, fx_s, ↓run_s, run_0, ↓rs_n, ↓rs_c, as_s, ls_n, ls_c, lc_s, lget_c, fX4_values_0, ↓ex_iload_n, ↓xI_i, ↓xIg_c, fX4_values_1, ↓ex_invokestatic, ↓xc_0, ↓xc_s, ↓xc_1, ↓pk_s, ↓k_s, ↓k_n, catS_n, catS_c, rOk_c, ct_i, ct_l, ct_r, ↓pk_t, fX4_values_4, ↓ex_ifCond_ne, ↓s1I_c, fX4_values_7, ↓ex_bipush, fX4_values_9, ↓ex_ireturn, ↓rt_i, fX4_values_10, ↓ex_iconst, fX4_values_11, ↓ex_istore_n, ↓lsto_e, ↓lrmK_n, ↓lrmK_f, fX4_values_12, fX4_values_13, fX4_values_15, ↓ex_if_icmp_ge, ↓s2I_c, fX4_values_18, ↓ex_aload_n, ↓xR_r, ↓xRg_c, fX4_values_19, ↓ex_getfield, ↓s1R_c, ↓fv_4_5, fX4_values_22, fX4_values_23, fX4_values_24, ↓ex_bastore, ↓sRII_c, fX4_values_25, ↓ex_iinc, fX4_values_28, ↓ex_goto, fX4_values_31, fX4_values_32, fX4_values_33, fX4_values_34, fX4_values_35, fX4_values_36, ↓fv_4_0, fX4_values_39, fX4_values_40, ↓ex_iaload, ↓sRI_c, ↓scrR_n, fX4_values_41, ↓ex_ishl, fX4_values_42, fX4_values_45, fX4_values_46, fX4_values_47, fX4_values_48, fX4_values_50, fX4_values_53, fX4_values_54, fX4_values_55, ↓ex_invokevirtual, ↓pk_f, fX4_values_58, ↓ex_lconst, fX4_values_59, ↓ex_lcmp, ↓s2L_c, fX4_values_60, ↓ex_ifCond_le, fX4_values_63, fX4_values_64, fX4_values_65, fX4_values_66, fX4_values_67, fX4_values_68, fX4_values_71, fX4_values_72, fX4_values_75, ↓ex_ifCond_eq, fX4_values_78, fX4_values_79, fX4_values_82, fX4_values_83, ↓fv_4_3, fX4_values_86, fX4_values_87, fX4_values_88, ↓ex_sipush, fX4_values_91, ↓ex_if_icmp_ne, fX4_values_94, fX4_values_96, fX4_values_99, fX4_values_100, fX4_values_103, fX4_values_104, fX4_values_105, fX4_values_106, fX4_values_107, fX4_values_110, fX4_values_113, fX4_values_116, fX4_values_119, fX4_values_120, fX4_values_121, fX4_values_122, fX4_values_123, fX4_values_124, fX4_values_126, fX4_values_129, fX4_values_130, fX4_values_131, fX4_values_134, fX4_values_135, ↓ex_baload, fX4_values_136, fX4_values_139, fX4_values_140, fX4_values_143, fX4_values_144, ↓ex_iadd, fX4_values_145, fX4_values_146, fX4_values_149, fX4_values_152, fX4_values_153, p1, p3, p5, q1, q3, q5, le8 (i := j) (by omega), ↓C_X4_weightOf, ↓C_X4_hears, ↓C_X4_isFit, shlN (e := j) (by omega), lg_cmp_le, h0, b2i_0, clampN (n := d) (by omega), add1N, ↓reduceIte, not_true_eq_false, not_false_eq_true, false_implies, true_implies, implies_true, and_true, true_and, and_false, false_and, or_true, true_or, or_false, false_or, Classical.not_not, ite_true, ite_false]
            refine ⟨fun z => absurd z (by omega), fun _ => ⟨s, i, ⟨row hZ, hn, fun e he => (hw.2.1 e he).2.2.2.1, rfl, by omega⟩, ?_⟩⟩
            rw [pk_lLE (a := wtN s.W i s.n) (b := 0) (by omega) (by omega)]
            refine ⟨fun hz => ?_, fun hz => ⟨s, 2 ^ j, i, ⟨row hZ, hw.we, rfl, p2_255 (by omega), rfl, by omega⟩, fun V hV hT => ?_⟩⟩
            · refine ih (i + 1) Z (by omega) hZ (fun t ht => ?_)
              rw [hZ5 t ht]
              refine b2i_c ⟨?_, ?_⟩
              · rintro (⟨u, hu, o, ho, x⟩ | ⟨u, hu, x⟩)
                · exact ⟨u, hu, o, by omega, x⟩
                · exact ⟨u, by omega, i, by omega, x⟩
              · rintro ⟨u, hu, o, ho, x⟩
                by_cases e : o = i
                · subst e
                  have := x.1.2.2.2
                  omega
                · exact Or.inl ⟨u, hu, o, by omega, x⟩
            · have hZV : fr5 X V := hZ.tr (hV.mono (fun k z => Or.inl z))
              have e55 : V.1 55 = Z.1 55 := hV.1 55 (by decide)
              have t31 := tau_31 hw.we (2 ^ j) i (v := d) (by omega)
              have vd : vp_in (nI d) 8 := vp_inN (by omega) (by omega)
              refine ⟨s, 2 ^ j, i, ⟨row hZV, hw.oks, hT⟩, fun z => ?_, fun z => ?_⟩
              · refine ihq (j + 1) V (by omega) hZV (fun t ht => ?_)
                rw [e55, hZ5 t ht]
                refine b2i_c ⟨?_, ?_⟩
                · rintro (x | ⟨u, hu, x⟩)
                  · exact Or.inl x
                  · exact Or.inr ⟨u, by omega, x⟩
                · rintro (x | ⟨u, hu, x⟩)
                  · exact Or.inl x
                  · by_cases e : u = j
                    · subst e
                      exact absurd x.1.2.2.1 z
                    · exact Or.inr ⟨u, by omega, x⟩
              · have nx : ∀ t1, t1 = tau s (2 ^ j) i d → R 47 [(0, .ref 51), (1, .int (nI d)), (2, .int (nI i)), (3, .int (nI (j + 1)))] [] (sI V 55 t1 1) := by
                  intro t1 ht1
                  refine ihq (j + 1) _ (by omega) (Fr.pI (P := fun k => k = 53 ∨ k = 55) hZV (Or.inr rfl) _ _) (fun t ht => ?_)
                  rw [sI_1, if_pos rfl, upd_a]
                  by_cases e : t = t1
                  · rw [if_pos e, b2i_t (Or.inr ⟨j, by omega, ⟨by omega, agr_0 s i, z, by omega⟩, by rw [e, ht1]⟩)]
                  · rw [if_neg e, e55, hZ5 t ht]
                    refine b2i_c ⟨?_, ?_⟩
                    · rintro (x | ⟨u, hu, x⟩)
                      · exact Or.inl x
                      · exact Or.inr ⟨u, by omega, x⟩
                    · rintro (x | ⟨u, hu, x⟩)
                      · exact Or.inl x
                      · by_cases e2 : u = j
                        · subst e2
                          exact absurd (by rw [ht1, x.2]) e
                        · exact Or.inr ⟨u, by omega, x⟩
                rw [hT d (by omega), tM_1000 t31]
                refine ⟨vd, fun y => ?_, fun y => ⟨⟨by unfold vp_in; decide, bl_1⟩, nx 31 y.symm⟩⟩
                rw [show tM (tau s (2 ^ j) i d) = tau s (2 ^ j) i d from if_neg y, clampN (by omega)]
                exact ⟨vd, ⟨vp_inN (by omega) (by omega), bl_1⟩, nx _ rfl⟩
        refine go hR [(33, [0, 1, 2]), (47, [0, 1, 2, 3])] 60 ?_
        simp only [↓reduceIte, Nat.reduceEqDiff, Nat.reduceAdd, Nat.reduceLeDiff, reduceCtorEq, and_true, true_and, false_and, and_false, true_or, or_true, or_false, false_or, true_implies, false_implies, implies_true, not_true_eq_false, not_false_eq_true, eq_self, fx_s, ↓run_s, run_0, ↓rs_n, ↓rs_c, as_s, ls_n, ls_c, lc_s, lget_c, fX4_values_0, ↓ex_iload_n, ↓xI_i, ↓xIg_c, fX4_values_1, ↓ex_invokestatic, ↓xc_0, ↓xc_s, ↓xc_1, ↓pk_s, ↓k_s, ↓k_n, catS_n, catS_c, rOk_c, ct_i, ct_l, ct_r, ↓pk_t, fX4_values_4, ↓ex_ifCond_ne, ↓s1I_c, fX4_values_7, ↓ex_bipush, fX4_values_9, ↓ex_ireturn, ↓rt_i, fX4_values_10, ↓ex_iconst, fX4_values_11, ↓ex_istore_n, ↓lsto_e, ↓lrmK_n, ↓lrmK_f, fX4_values_12, fX4_values_13, fX4_values_15, ↓ex_if_icmp_ge, ↓s2I_c, fX4_values_18, ↓ex_aload_n, ↓xR_r, ↓xRg_c, fX4_values_19, ↓ex_getfield, ↓s1R_c, ↓fv_4_5, fX4_values_22, fX4_values_23, fX4_values_24, ↓ex_bastore, ↓sRII_c, fX4_values_25, ↓ex_iinc, fX4_values_28, ↓ex_goto, fX4_values_31, fX4_values_32, fX4_values_33, fX4_values_34, fX4_values_35, fX4_values_36, ↓fv_4_0, fX4_values_39, fX4_values_40, ↓ex_iaload, ↓sRI_c, ↓scrR_n, fX4_values_41, ↓ex_ishl, fX4_values_42, fX4_values_45, fX4_values_46, fX4_values_47, fX4_values_48, fX4_values_50, fX4_values_53, fX4_values_54, fX4_values_55, ↓ex_invokevirtual, ↓pk_f, fX4_values_58, ↓ex_lconst, fX4_values_59, ↓ex_lcmp, ↓s2L_c, fX4_values_60, ↓ex_ifCond_le, fX4_values_63, fX4_values_64, fX4_values_65, fX4_values_66, fX4_values_67, fX4_values_68, fX4_values_71, fX4_values_72, fX4_values_75, ↓ex_ifCond_eq, fX4_values_78, fX4_values_79, fX4_values_82, fX4_values_83, ↓fv_4_3, fX4_values_86, fX4_values_87, fX4_values_88, ↓ex_sipush, fX4_values_91, ↓ex_if_icmp_ne, fX4_values_94, fX4_values_96, fX4_values_99, fX4_values_100, fX4_values_103, fX4_values_104, fX4_values_105, fX4_values_106, fX4_values_107, fX4_values_110, fX4_values_113, fX4_values_116, fX4_values_119, fX4_values_120, fX4_values_121, fX4_values_122, fX4_values_123, fX4_values_124, fX4_values_126, fX4_values_129, fX4_values_130, fX4_values_131, fX4_values_134, fX4_values_135, ↓ex_baload, fX4_values_136, fX4_values_139, fX4_values_140, fX4_values_143, fX4_values_144, ↓ex_iadd, fX4_values_145, fX4_values_146, fX4_values_149, fX4_values_152, fX4_values_153, p1, p2, q1, q2, vr_0, clamp0, (row hF).1, shlN (e := s.n) (by omega), leN (a := 2 ^ s.n) (b := i) (by omega) (by omega), ↓reduceIte, not_true_eq_false, not_false_eq_true, false_implies, true_implies, implies_true, and_true, true_and, and_false, false_and, or_true, true_or, or_false, false_or, Classical.not_not, ite_true, ite_false]
        refine ⟨fun z => absurd z (by omega), fun _ => inner 8 0 Y (by omega) hF (fun t ht => ?_)⟩
        rw [hY t ht]
        refine b2i_c ⟨fun z => Or.inl z, fun z => z.elim id (fun ⟨u, hu, _⟩ => absurd hu (Nat.not_lt_zero u))⟩
    have key1 : ∀ k i Y, i + k = 32 → fr5 X Y → (∀ q, q < i → Y.1 55 q = 0) → R 12 [(0, .ref 51), (1, .int (nI d)), (2, .int (nI i))] [] Y := by
      intro k
      induction k with
      | zero =>
        intro i Y hi hF hY
        have c32 : ((32 : Int32) ≤ nI i) = (32 ≤ i) := propext (leN (a := 32) (by decide) (by omega))
        refine go hR [(12, [0, 1, 2]), (33, [0, 1, 2])] 60 ?_
        simp only [↓reduceIte, Nat.reduceEqDiff, Nat.reduceAdd, Nat.reduceLeDiff, reduceCtorEq, and_true, true_and, false_and, and_false, true_or, or_true, or_false, false_or, true_implies, false_implies, implies_true, not_true_eq_false, not_false_eq_true, eq_self, fx_s, ↓run_s, run_0, ↓rs_n, ↓rs_c, as_s, ls_n, ls_c, lc_s, lget_c, fX4_values_0, ↓ex_iload_n, ↓xI_i, ↓xIg_c, fX4_values_1, ↓ex_invokestatic, ↓xc_0, ↓xc_s, ↓xc_1, ↓pk_s, ↓k_s, ↓k_n, catS_n, catS_c, rOk_c, ct_i, ct_l, ct_r, ↓pk_t, fX4_values_4, ↓ex_ifCond_ne, ↓s1I_c, fX4_values_7, ↓ex_bipush, fX4_values_9, ↓ex_ireturn, ↓rt_i, fX4_values_10, ↓ex_iconst, fX4_values_11, ↓ex_istore_n, ↓lsto_e, ↓lrmK_n, ↓lrmK_f, fX4_values_12, fX4_values_13, fX4_values_15, ↓ex_if_icmp_ge, ↓s2I_c, fX4_values_18, ↓ex_aload_n, ↓xR_r, ↓xRg_c, fX4_values_19, ↓ex_getfield, ↓s1R_c, ↓fv_4_5, fX4_values_22, fX4_values_23, fX4_values_24, ↓ex_bastore, ↓sRII_c, fX4_values_25, ↓ex_iinc, fX4_values_28, ↓ex_goto, fX4_values_31, fX4_values_32, fX4_values_33, fX4_values_34, fX4_values_35, fX4_values_36, ↓fv_4_0, fX4_values_39, fX4_values_40, ↓ex_iaload, ↓sRI_c, ↓scrR_n, fX4_values_41, ↓ex_ishl, fX4_values_42, fX4_values_45, fX4_values_46, fX4_values_47, fX4_values_48, fX4_values_50, fX4_values_53, fX4_values_54, fX4_values_55, ↓ex_invokevirtual, ↓pk_f, fX4_values_58, ↓ex_lconst, fX4_values_59, ↓ex_lcmp, ↓s2L_c, fX4_values_60, ↓ex_ifCond_le, fX4_values_63, fX4_values_64, fX4_values_65, fX4_values_66, fX4_values_67, fX4_values_68, fX4_values_71, fX4_values_72, fX4_values_75, ↓ex_ifCond_eq, fX4_values_78, fX4_values_79, fX4_values_82, fX4_values_83, ↓fv_4_3, fX4_values_86, fX4_values_87, fX4_values_88, ↓ex_sipush, fX4_values_91, ↓ex_if_icmp_ne, fX4_values_94, fX4_values_96, fX4_values_99, fX4_values_100, fX4_values_103, fX4_values_104, fX4_values_105, fX4_values_106, fX4_values_107, fX4_values_110, fX4_values_113, fX4_values_116, fX4_values_119, fX4_values_120, fX4_values_121, fX4_values_122, fX4_values_123, fX4_values_124, fX4_values_126, fX4_values_129, fX4_values_130, fX4_values_131, fX4_values_134, fX4_values_135, ↓ex_baload, fX4_values_136, fX4_values_139, fX4_values_140, fX4_values_143, fX4_values_144, ↓ex_iadd, fX4_values_145, fX4_values_146, fX4_values_149, fX4_values_152, fX4_values_153, c32, ↓reduceIte, not_true_eq_false, not_false_eq_true, false_implies, true_implies, implies_true, and_true, true_and, and_false, false_and, or_true, true_or, or_false, false_or, Classical.not_not, ite_true, ite_false]
        refine ⟨fun _ => key2 (2 ^ s.n) 0 Y (by omega) hF (fun q hq => ?_), fun z => absurd (by omega) z⟩
        rw [hY q (by omega), b2i_f (fun ⟨u, _, o, ho, _⟩ => absurd ho (Nat.not_lt_zero o))]
      | succ k ih =>
        intro i Y hi hF hY
        have c32 : ((32 : Int32) ≤ nI i) = (32 ≤ i) := propext (leN (a := 32) (by decide) (by omega))
        refine go hR [(12, [0, 1, 2]), (33, [0, 1, 2])] 60 ?_
        simp only [↓reduceIte, Nat.reduceEqDiff, Nat.reduceAdd, Nat.reduceLeDiff, reduceCtorEq, and_true, true_and, false_and, and_false, true_or, or_true, or_false, false_or, true_implies, false_implies, implies_true, not_true_eq_false, not_false_eq_true, eq_self, fx_s, ↓run_s, run_0, ↓rs_n, ↓rs_c, as_s, ls_n, ls_c, lc_s, lget_c, fX4_values_0, ↓ex_iload_n, ↓xI_i, ↓xIg_c, fX4_values_1, ↓ex_invokestatic, ↓xc_0, ↓xc_s, ↓xc_1, ↓pk_s, ↓k_s, ↓k_n, catS_n, catS_c, rOk_c, ct_i, ct_l, ct_r, ↓pk_t, fX4_values_4, ↓ex_ifCond_ne, ↓s1I_c, fX4_values_7, ↓ex_bipush, fX4_values_9, ↓ex_ireturn, ↓rt_i, fX4_values_10, ↓ex_iconst, fX4_values_11, ↓ex_istore_n, ↓lsto_e, ↓lrmK_n, ↓lrmK_f, fX4_values_12, fX4_values_13, fX4_values_15, ↓ex_if_icmp_ge, ↓s2I_c, fX4_values_18, ↓ex_aload_n, ↓xR_r, ↓xRg_c, fX4_values_19, ↓ex_getfield, ↓s1R_c, ↓fv_4_5, fX4_values_22, fX4_values_23, fX4_values_24, ↓ex_bastore, ↓sRII_c, fX4_values_25, ↓ex_iinc, fX4_values_28, ↓ex_goto, fX4_values_31, fX4_values_32, fX4_values_33, fX4_values_34, fX4_values_35, fX4_values_36, ↓fv_4_0, fX4_values_39, fX4_values_40, ↓ex_iaload, ↓sRI_c, ↓scrR_n, fX4_values_41, ↓ex_ishl, fX4_values_42, fX4_values_45, fX4_values_46, fX4_values_47, fX4_values_48, fX4_values_50, fX4_values_53, fX4_values_54, fX4_values_55, ↓ex_invokevirtual, ↓pk_f, fX4_values_58, ↓ex_lconst, fX4_values_59, ↓ex_lcmp, ↓s2L_c, fX4_values_60, ↓ex_ifCond_le, fX4_values_63, fX4_values_64, fX4_values_65, fX4_values_66, fX4_values_67, fX4_values_68, fX4_values_71, fX4_values_72, fX4_values_75, ↓ex_ifCond_eq, fX4_values_78, fX4_values_79, fX4_values_82, fX4_values_83, ↓fv_4_3, fX4_values_86, fX4_values_87, fX4_values_88, ↓ex_sipush, fX4_values_91, ↓ex_if_icmp_ne, fX4_values_94, fX4_values_96, fX4_values_99, fX4_values_100, fX4_values_103, fX4_values_104, fX4_values_105, fX4_values_106, fX4_values_107, fX4_values_110, fX4_values_113, fX4_values_116, fX4_values_119, fX4_values_120, fX4_values_121, fX4_values_122, fX4_values_123, fX4_values_124, fX4_values_126, fX4_values_129, fX4_values_130, fX4_values_131, fX4_values_134, fX4_values_135, ↓ex_baload, fX4_values_136, fX4_values_139, fX4_values_140, fX4_values_143, fX4_values_144, ↓ex_iadd, fX4_values_145, fX4_values_146, fX4_values_149, fX4_values_152, fX4_values_153, p1, p5, q1, q5, c32, clampN (n := i) (by omega), add1N, ↓reduceIte, not_true_eq_false, not_false_eq_true, false_implies, true_implies, implies_true, and_true, true_and, and_false, false_and, or_true, true_or, or_false, false_or, Classical.not_not, ite_true, ite_false]
        refine ⟨fun z => absurd z (by omega), fun _ => ⟨⟨vp_inN (by omega) (by omega), bl_0⟩, ih (i + 1) _ (by omega) (Fr.pI (P := fun k => k = 53 ∨ k = 55) hF (Or.inr rfl) _ _) (fun q hq => ?_)⟩⟩
        rw [sI_1, if_pos rfl, upd_a]
        by_cases e : q = i
        · rw [if_pos e]
        · rw [if_neg e]; exact hY q (by omega)
    exact key1 32 0 X (by omega) (Fr.rf _ _) (fun q hq => absurd hq (by omega))
  next => exact hC.elim)
end MVALUES
