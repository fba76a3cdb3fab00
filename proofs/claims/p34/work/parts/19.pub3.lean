section PUB3
theorem sh_text : (shp 0 = (3, 0) ∧ shp 7 = (8, 5) ∧ shp 12 = (2, 0) ∧ shp 13 = (5, 120)) ∧ 0 < NC ∧ 7 < NC ∧ 12 < NC ∧ 13 < NC := by decide
noncomputable def s_undo (g : SG) : Int32 × SG := cif (g.kept = 0) (-4, g) (nI (g.kept - 1), (g.hist (g.kept - 1), g.kept - 1, g.hist, g.size, g.bytes))
noncomputable def s_type (c : Int32) (g : SG) : Int32 × SG := cif (inR c 0 255) (cif (g.size = 120) (-5, g) (nI (g.size + 1), (g.now, g.kept, g.hist, g.size + 1, fun i => if i = g.size then c else g.bytes i))) (-3, g)
def s_clearText (g : SG) : Int32 × SG := (nI g.size, (g.now, g.kept, g.hist, 0, g.bytes))
/-- changes of the text's own cells -/
theorem RelC.setText {X X' : XT} {g g' : SG} (h : RelC X g) (hF : Fr (fun k => k = 12 ∨ k = 13) X X') (hg : g'.now = g.now ∧ g'.kept = g.kept ∧ g'.hist = g.hist) (hb : bytesOK g') (h1 : X'.1 12 1 = nI g'.size) (h2 : ∀ i, i < g'.size → X'.1 13 i = g'.bytes i) : RelC X' g' := by
  obtain ⟨⟨w1, w2, w3, w4⟩, c1, c2, ⟨r, c3, c4⟩, c5, c6⟩ := h
  obtain ⟨e1, e2, e3⟩ := hg
  refine ⟨⟨by rw [e1]; exact w1, by rw [e2]; exact w2, fun j hj => by rw [e3]; exact w3 j (by rw [← e2]; exact hj), hb⟩, ?_, ?_, ⟨r, fun j hj => by rw [hF.2.2]; exact c3 j hj, fun j hj => ?_⟩, h1, h2⟩
  · rw [e1]
    exact c1.fr hF (fun k hk z => by unfold scn at hk; omega)
  · rw [e2, hF.1 0 (by omega)]; exact c2
  · rw [e3]
    exact (c4 j (by rw [← e2]; exact hj)).fr hF (fun k hk z => by have := pastR_hi r j; unfold scn at hk; omega)
noncomputable def C_X3_undo : CT := fun As X K => match As with
  | [.ref b] => b = 0 ∧ PubI s_undo X K
  | _ => False
set_option maxRecDepth 20000 in
set_option maxHeartbeats 4000000 in
theorem d_X3_undo (l : Launch) : Does l yX3_undo (wY yX3_undo cX3_undo 1 (retT 0)) (rmF 1) C_X3_undo := does_of (rt := 0) (by decide +kernel) tkX3_undo (calls := [(188, false, 2, 0, C_X0_copyFrom)]) (List.forall_mem_cons.mpr ⟨cr_NV (d_X0_copyFrom l) rfl (by decide +kernel) (by decide +kernel) (by decide +kernel) ⟨rfl, rfl⟩ ⟨Nat.le_of_ble_eq_true rfl, Nat.le_of_ble_eq_true rfl⟩, fun _ h => absurd h List.not_mem_nil⟩) (by
  intro As X post hC
  unfold C_X3_undo at hC
  split at hC
  next b =>
    obtain ⟨rfl, g, hR0, hpost⟩ := hC
    refine ⟨Nat.le_of_ble_eq_true rfl, fun R hR => ?_⟩
    obtain ⟨⟨p0, p7, p12, p13⟩, q0, q7, q12, q13⟩ := sh_text
    obtain ⟨⟨w1, w2, w3, w4⟩, c1, c2, ⟨r, c3, c4⟩, c5, c6⟩ := id hR0
    have hk : (nI g.kept).toInt = g.kept := nI_toInt (by omega)
    have h5 : (nI 5).toInt = 5 := rfl
    by_cases hz : g.kept = 0
    · have hfin : post (some (.int (-4))) X := pub_same hR0 hpost (by unfold s_undo; rw [cif_t hz])
      refine go hR [] 60 ?_
      simp only [lv_args, ↓reduceIte, Nat.reduceEqDiff, Nat.reduceAdd, Nat.reduceLeDiff, reduceCtorEq, and_true, true_and, false_and, and_false, true_or, or_true, or_false, false_or, true_implies, false_implies, implies_true, not_true_eq_false, not_false_eq_true, eq_self, fx_s, ↓run_s, run_0, ↓rs_n, ↓rs_c, as_s, ls_n, ls_c, lc_s, lget_c, fX3_undo_0, ↓ex_aload_n, ↓xR_r, ↓xRg_c, fX3_undo_1, ↓ex_getfield, ↓s1R_c, ↓fv_3_5, fX3_undo_4, ↓ex_iconst, fX3_undo_5, ↓ex_if_icmp_lt, ↓s2I_c, fX3_undo_8, fX3_undo_9, fX3_undo_12, fX3_undo_13, ↓fv_3_1, fX3_undo_16, ↓ex_arraylength, ↓scrN_n, fX3_undo_17, ↓ex_if_icmp_le, fX3_undo_20, ↓ex_bipush, fX3_undo_22, ↓ex_ireturn, ↓rt_i, fX3_undo_23, fX3_undo_24, ↓ex_dup, ct_i, ct_l, ct_r, fX3_undo_25, fX3_undo_28, fX3_undo_29, ↓ex_isub, fX3_undo_30, ↓ex_putfield, ↓pf_3_5, fX3_undo_33, fX3_undo_34, ↓fv_3_0, fX3_undo_37, fX3_undo_38, fX3_undo_41, fX3_undo_42, fX3_undo_45, ↓ex_aaload, ↓sRI_c, fX3_undo_46, ↓ex_invokevirtual, ↓xc_0, ↓xc_s, ↓xc_1, ↓pk_s, ↓k_s, ↓k_n, catS_n, catS_c, rOk_c, ↓pk_f, fX3_undo_49, fX3_undo_50, fX3_undo_53, p0, p7, q0, q7, c2, hz, ↓reduceIte, not_true_eq_false, not_false_eq_true, false_implies, true_implies, implies_true, and_true, true_and, and_false, false_and, or_true, true_or, or_false, false_or, Classical.not_not, ite_true, ite_false]
      exact ⟨fun _ => hfin, fun h => absurd (show nI 0 < 1 by decide) h⟩
    · have e1 : nI g.kept - 1 = nI (g.kept - 1) := pk_sub (a := g.kept) (b := 1) (by omega)
      have hsp : s_undo g = (nI (g.kept - 1), (g.hist (g.kept - 1), g.kept - 1, g.hist, g.size, g.bytes)) := by unfold s_undo; rw [cif_f hz]
      rw [hsp] at hpost
      refine go hR [] 60 ?_
      simp only [lv_args, ↓reduceIte, Nat.reduceEqDiff, Nat.reduceAdd, Nat.reduceLeDiff, reduceCtorEq, and_true, true_and, false_and, and_false, true_or, or_true, or_false, false_or, true_implies, false_implies, implies_true, not_true_eq_false, not_false_eq_true, eq_self, fx_s, ↓run_s, run_0, ↓rs_n, ↓rs_c, as_s, ls_n, ls_c, lc_s, lget_c, fX3_undo_0, ↓ex_aload_n, ↓xR_r, ↓xRg_c, fX3_undo_1, ↓ex_getfield, ↓s1R_c, ↓fv_3_5, fX3_undo_4, ↓ex_iconst, fX3_undo_5, ↓ex_if_icmp_lt, ↓s2I_c, fX3_undo_8, fX3_undo_9, fX3_undo_12, fX3_undo_13, ↓fv_3_1, fX3_undo_16, ↓ex_arraylength, ↓scrN_n, fX3_undo_17, ↓ex_if_icmp_le, fX3_undo_20, ↓ex_bipush, fX3_undo_22, ↓ex_ireturn, ↓rt_i, fX3_undo_23, fX3_undo_24, ↓ex_dup, ct_i, ct_l, ct_r, fX3_undo_25, fX3_undo_28, fX3_undo_29, ↓ex_isub, fX3_undo_30, ↓ex_putfield, ↓pf_3_5, fX3_undo_33, fX3_undo_34, ↓fv_3_0, fX3_undo_37, fX3_undo_38, fX3_undo_41, fX3_undo_42, fX3_undo_45, ↓ex_aaload, ↓sRI_c, fX3_undo_46, ↓ex_invokevirtual, ↓xc_0, ↓xc_s, ↓xc_1, ↓pk_s, ↓k_s, ↓k_n, catS_n, catS_c, rOk_c, ↓pk_f, fX3_undo_49, fX3_undo_50, fX3_undo_53, p0, p7, q0, q7, c2, e1, ↓C_X0_copyFrom, clampN (n := g.kept - 1) (by omega), sI_1, sI_2, upd_a, leI, ltI, hk, h5, tI_m5, tI_m4, tI_m3, tI_m2, tI_m1, tI_0, tI_1, tI_2, tI_3, tI_4, tI_5, tI_7, tI_8, tI_10, tI_12, tI_30, tI_31, tI_32, tI_47, tI_48, tI_57, tI_59, tI_42, tI_43, tI_45, tI_61, tI_62, tI_100, tI_120, tI_255, tI_1000, c3 (g.kept - 1) (by omega), ↓reduceIte, not_true_eq_false, not_false_eq_true, false_implies, true_implies, implies_true, and_true, true_and, and_false, false_and, or_true, true_or, or_false, false_or, Classical.not_not, ite_true, ite_false]
      refine ⟨fun z => absurd z (by omega), fun _ => ⟨fun _ => ⟨vp_inN (by omega) (by omega), by decide, g.hist (g.kept - 1), ⟨sc1, pastR_sc r _, (fun z => by have := pastR_hi r (g.kept - 1); have z2 : 1 = pastR r (g.kept - 1) := z; omega), ?_, (w3 (g.kept - 1) (by omega)).1⟩, fun Y hY hs => ?_⟩, fun z => absurd (by omega) z⟩⟩
      · exact (c4 (g.kept - 1) (by omega)).fr1 (fun k hk => by
          have := pastR_hi r (g.kept - 1)
          rw [sI_1, if_neg (by unfold scn at hk; omega)])
      · have hY0 : Y.1 0 5 = nI (g.kept - 1) := by
          rw [hY.1 0 (fun z => by unfold scn at z; omega), sI_1, if_pos rfl, upd_a, if_pos rfl]
        rw [hY0]
        refine hpost Y ⟨⟨w3 (g.kept - 1) (by omega), (by show g.kept - 1 ≤ 5; omega), fun j hj => w3 j (by have : j < g.kept - 1 := hj; omega), w4⟩, hs, hY0, ⟨r, fun j hj => ?_, fun j hj => ?_⟩, ?_, fun i hi => ?_⟩ (fun k hk => ⟨?_, ?_⟩)
        · rw [hY.2.2]; exact c3 j hj
        · have hj' : j < g.kept - 1 := hj
          refine (c4 j (by omega)).fr1 (fun k hk => ?_)
          have := pastR_hi r j
          unfold scn at hk
          rw [hY.1 k (fun z => by unfold scn at z; omega), sI_1, if_neg (by omega)]
        · rw [hY.1 12 (fun z => by unfold scn at z; omega), sI_1, if_neg (by decide)]; exact c5
        · rw [hY.1 13 (fun z => by unfold scn at z; omega), sI_1, if_neg (by decide)]; exact c6 i hi
        · rw [hY.1 k (fun z => by unfold scn at z; omega), sI_1, if_neg (by omega)]
        · rw [hY.2.1 k (fun z => by unfold scn at z; omega)]; rfl
  next => exact hC.elim)
def dgE (F T W D : Nat → Nat) : Nat → Int64 → Int64
  | 0, h => h
  | k + 1, h => 31 * (31 * (31 * (31 * dgE F T W D k h + (nI (F k)).toInt64) + (nI (T k)).toInt64) + (nI (W k)).toInt64) + (nI (D k)).toInt64
def dgS (S : Nat → Int32) : Nat → Int64 → Int64
  | 0, h => h
  | k + 1, h => 31 * dgS S k h + (S k).toInt64
def s_digest (g : SG) : Int64 × SG := (31 * dgS g.now.S 8 (31 * dgE g.now.F g.now.T g.now.W g.now.D g.now.n (527 + (nI g.now.n).toInt64) + (nI g.now.H).toInt64) + (nI g.now.Q).toInt64, g)
def C_X3_digest : CT := fun As X K => match As with
  | [.ref b] => b = 0 ∧ PubL s_digest X K
  | _ => False
set_option maxRecDepth 20000 in
set_option maxHeartbeats 4000000 in
theorem d_X3_digest (l : Launch) : Does l yX3_digest (wY yX3_digest cX3_digest 4 (retT 2)) (rmF 0) C_X3_digest := does_of (rt := 2) (by decide +kernel) tkX3_digest (calls := []) (fun _ h => absurd h List.not_mem_nil) (by
  intro As X post hC
  unfold C_X3_digest at hC
  split at hC
  next b =>
    obtain ⟨rfl, g, hR0, hpost⟩ := hC
    refine ⟨Nat.le_of_ble_eq_true rfl, fun R hR => ?_⟩
    obtain ⟨⟨p0, p1, p2, p3, p4, p5, p6⟩, q0, q1, q2, q3, q4, q5, q6⟩ := sh_base
    obtain ⟨⟨w1, w2, w3, w4⟩, c1, c2, -⟩ := id hR0
    obtain ⟨d1, d2, d3, d4, d5⟩ := id c1
    have hn := w1.1
    have hfin := hpost X hR0 (FrM.rf X)
    unfold s_digest at hfin
    generalize hh : (31 * dgE g.now.F g.now.T g.now.W g.now.D g.now.n (527 + (nI g.now.n).toInt64) + (nI g.now.H).toInt64 : Int64) = h1 at hfin
    have key2 : ∀ k i, i + k = 8 → R 117 [(0, .ref 0), (1, .long (dgS g.now.S i h1)), (3, .int (nI i))] [] X := by
      intro k
      induction k with
      | zero =>
        intro i hi
        refine go hR [(117, [0, 1, 3])] 60 ?_
        simp only [↓reduceIte, Nat.reduceEqDiff, Nat.reduceAdd, Nat.reduceLeDiff, reduceCtorEq, and_true, true_and, false_and, and_false, true_or, or_true, or_false, false_or, true_implies, false_implies, implies_true, not_true_eq_false, not_false_eq_true, eq_self, fx_s, ↓run_s, run_0, ↓rs_n, ↓rs_c, as_s, ls_n, ls_c, lc_s, lget_c, fX3_digest_0, ↓ex_ldc2_w, fX3_digest_3, ↓ex_aload_n, ↓xR_r, ↓xRg_c, fX3_digest_4, ↓ex_getfield, ↓s1R_c, ↓fv_3_0, fX3_digest_7, ↓fv_0_4, fX3_digest_10, ↓ex_i2l, ↓s1I_c, fX3_digest_11, ↓ex_ladd, ↓s2L_c, fX3_digest_12, ↓ex_lstore_n, ↓s1L_c, ↓lsto_e, ↓lrmK_n, ↓lrmK_t, ct_i, ct_l, ct_r, fX3_digest_13, ↓ex_iconst, fX3_digest_14, ↓ex_istore_n, ↓lrmK_f, fX3_digest_15, ↓ex_iload_n, ↓xI_i, ↓xIg_c, fX3_digest_16, fX3_digest_17, fX3_digest_20, fX3_digest_23, ↓ex_if_icmp_ge, ↓s2I_c, fX3_digest_26, fX3_digest_29, ↓ex_lload_n, ↓xL_l, ↓xLg_c, fX3_digest_30, ↓ex_lmul, fX3_digest_31, fX3_digest_32, fX3_digest_35, ↓fv_0_0, fX3_digest_38, fX3_digest_39, ↓ex_iaload, ↓sRI_c, ↓scrR_n, fX3_digest_40, fX3_digest_41, fX3_digest_42, fX3_digest_43, fX3_digest_46, fX3_digest_47, fX3_digest_48, fX3_digest_49, fX3_digest_52, ↓fv_0_1, fX3_digest_55, fX3_digest_56, fX3_digest_57, fX3_digest_58, fX3_digest_59, fX3_digest_60, fX3_digest_63, fX3_digest_64, fX3_digest_65, fX3_digest_66, fX3_digest_69, ↓fv_0_2, fX3_digest_72, fX3_digest_73, fX3_digest_74, fX3_digest_75, fX3_digest_76, fX3_digest_77, fX3_digest_80, fX3_digest_81, fX3_digest_82, fX3_digest_83, fX3_digest_86, ↓fv_0_3, fX3_digest_89, fX3_digest_90, fX3_digest_91, fX3_digest_92, fX3_digest_93, fX3_digest_94, ↓ex_iinc, fX3_digest_97, ↓ex_goto, fX3_digest_100, fX3_digest_103, fX3_digest_104, fX3_digest_105, fX3_digest_106, fX3_digest_109, ↓fv_0_5, fX3_digest_112, fX3_digest_113, fX3_digest_114, fX3_digest_115, fX3_digest_116, fX3_digest_117, fX3_digest_118, ↓ex_bipush, fX3_digest_120, fX3_digest_123, fX3_digest_126, fX3_digest_127, fX3_digest_128, fX3_digest_129, fX3_digest_132, ↓fv_0_6, fX3_digest_135, fX3_digest_136, fX3_digest_137, fX3_digest_138, fX3_digest_139, fX3_digest_140, fX3_digest_143, fX3_digest_146, fX3_digest_149, fX3_digest_150, fX3_digest_151, fX3_digest_152, fX3_digest_155, ↓fv_0_7, fX3_digest_158, fX3_digest_159, fX3_digest_160, ↓ex_lreturn, ↓rt_l, p0, p1, p6, q0, q1, q6, d5, leI, nI_toInt (n := i) (by omega), tI_m5, tI_m4, tI_m3, tI_m2, tI_m1, tI_0, tI_1, tI_2, tI_3, tI_4, tI_5, tI_7, tI_8, tI_10, tI_12, tI_30, tI_31, tI_32, tI_47, tI_48, tI_57, tI_59, tI_42, tI_43, tI_45, tI_61, tI_62, tI_100, tI_120, tI_255, tI_1000]
        refine ⟨fun _ => ?_, fun z => absurd (by omega) z⟩
        rw [show i = 8 by omega]
        exact hfin
      | succ k ih =>
        intro i hi
        refine go hR [(117, [0, 1, 3])] 60 ?_
        simp only [↓reduceIte, Nat.reduceEqDiff, Nat.reduceAdd, Nat.reduceLeDiff, reduceCtorEq, and_true, true_and, false_and, and_false, true_or, or_true, or_false, false_or, true_implies, false_implies, implies_true, not_true_eq_false, not_false_eq_true, eq_self, fx_s, ↓run_s, run_0, ↓rs_n, ↓rs_c, as_s, ls_n, ls_c, lc_s, lget_c, fX3_digest_0, ↓ex_ldc2_w, fX3_digest_3, ↓ex_aload_n, ↓xR_r, ↓xRg_c, fX3_digest_4, ↓ex_getfield, ↓s1R_c, ↓fv_3_0, fX3_digest_7, ↓fv_0_4, fX3_digest_10, ↓ex_i2l, ↓s1I_c, fX3_digest_11, ↓ex_ladd, ↓s2L_c, fX3_digest_12, ↓ex_lstore_n, ↓s1L_c, ↓lsto_e, ↓lrmK_n, ↓lrmK_t, ct_i, ct_l, ct_r, fX3_digest_13, ↓ex_iconst, fX3_digest_14, ↓ex_istore_n, ↓lrmK_f, fX3_digest_15, ↓ex_iload_n, ↓xI_i, ↓xIg_c, fX3_digest_16, fX3_digest_17, fX3_digest_20, fX3_digest_23, ↓ex_if_icmp_ge, ↓s2I_c, fX3_digest_26, fX3_digest_29, ↓ex_lload_n, ↓xL_l, ↓xLg_c, fX3_digest_30, ↓ex_lmul, fX3_digest_31, fX3_digest_32, fX3_digest_35, ↓fv_0_0, fX3_digest_38, fX3_digest_39, ↓ex_iaload, ↓sRI_c, ↓scrR_n, fX3_digest_40, fX3_digest_41, fX3_digest_42, fX3_digest_43, fX3_digest_46, fX3_digest_47, fX3_digest_48, fX3_digest_49, fX3_digest_52, ↓fv_0_1, fX3_digest_55, fX3_digest_56, fX3_digest_57, fX3_digest_58, fX3_digest_59, fX3_digest_60, fX3_digest_63, fX3_digest_64, fX3_digest_65, fX3_digest_66, fX3_digest_69, ↓fv_0_2, fX3_digest_72, fX3_digest_73, fX3_digest_74, fX3_digest_75, fX3_digest_76, fX3_digest_77, fX3_digest_80, fX3_digest_81, fX3_digest_82, fX3_digest_83, fX3_digest_86, ↓fv_0_3, fX3_digest_89, fX3_digest_90, fX3_digest_91, fX3_digest_92, fX3_digest_93, fX3_digest_94, ↓ex_iinc, fX3_digest_97, ↓ex_goto, fX3_digest_100, fX3_digest_103, fX3_digest_104, fX3_digest_105, fX3_digest_106, fX3_digest_109, ↓fv_0_5, fX3_digest_112, fX3_digest_113, fX3_digest_114, fX3_digest_115, fX3_digest_116, fX3_digest_117, fX3_digest_118, ↓ex_bipush, fX3_digest_120, fX3_digest_123, fX3_digest_126, fX3_digest_127, fX3_digest_128, fX3_digest_129, fX3_digest_132, ↓fv_0_6, fX3_digest_135, fX3_digest_136, fX3_digest_137, fX3_digest_138, fX3_digest_139, fX3_digest_140, fX3_digest_143, fX3_digest_146, fX3_digest_149, fX3_digest_150, fX3_digest_151, fX3_digest_152, fX3_digest_155, ↓fv_0_7, fX3_digest_158, fX3_digest_159, fX3_digest_160, ↓ex_lreturn, ↓rt_l, p0, p1, p6, q0, q1, q6, d4 i (by omega), leI, nI_toInt (n := i) (by omega), tI_m5, tI_m4, tI_m3, tI_m2, tI_m1, tI_0, tI_1, tI_2, tI_3, tI_4, tI_5, tI_7, tI_8, tI_10, tI_12, tI_30, tI_31, tI_32, tI_47, tI_48, tI_57, tI_59, tI_42, tI_43, tI_45, tI_61, tI_62, tI_100, tI_120, tI_255, tI_1000, clampN (n := i) (by omega), add1N]
        exact ⟨fun z => absurd z (by omega), fun _ => ⟨vp_inN (by omega) (by omega), ih (i + 1) (by omega)⟩⟩
    have key1 : ∀ k i, i + k = g.now.n → R 15 [(0, .ref 0), (1, .long (dgE g.now.F g.now.T g.now.W g.now.D i (527 + (nI g.now.n).toInt64))), (3, .int (nI i))] [] X := by
      intro k
      induction k with
      | zero =>
        intro i hi
        refine go hR [(15, [0, 1, 3]), (117, [0, 1, 3])] 100 ?_
        simp only [↓reduceIte, Nat.reduceEqDiff, Nat.reduceAdd, Nat.reduceLeDiff, reduceCtorEq, and_true, true_and, false_and, and_false, true_or, or_true, or_false, false_or, true_implies, false_implies, implies_true, not_true_eq_false, not_false_eq_true, eq_self, fx_s, ↓run_s, run_0, ↓rs_n, ↓rs_c, as_s, ls_n, ls_c, lc_s, lget_c, fX3_digest_0, ↓ex_ldc2_w, fX3_digest_3, ↓ex_aload_n, ↓xR_r, ↓xRg_c, fX3_digest_4, ↓ex_getfield, ↓s1R_c, ↓fv_3_0, fX3_digest_7, ↓fv_0_4, fX3_digest_10, ↓ex_i2l, ↓s1I_c, fX3_digest_11, ↓ex_ladd, ↓s2L_c, fX3_digest_12, ↓ex_lstore_n, ↓s1L_c, ↓lsto_e, ↓lrmK_n, ↓lrmK_t, ct_i, ct_l, ct_r, fX3_digest_13, ↓ex_iconst, fX3_digest_14, ↓ex_istore_n, ↓lrmK_f, fX3_digest_15, ↓ex_iload_n, ↓xI_i, ↓xIg_c, fX3_digest_16, fX3_digest_17, fX3_digest_20, fX3_digest_23, ↓ex_if_icmp_ge, ↓s2I_c, fX3_digest_26, fX3_digest_29, ↓ex_lload_n, ↓xL_l, ↓xLg_c, fX3_digest_30, ↓ex_lmul, fX3_digest_31, fX3_digest_32, fX3_digest_35, ↓fv_0_0, fX3_digest_38, fX3_digest_39, ↓ex_iaload, ↓sRI_c, ↓scrR_n, fX3_digest_40, fX3_digest_41, fX3_digest_42, fX3_digest_43, fX3_digest_46, fX3_digest_47, fX3_digest_48, fX3_digest_49, fX3_digest_52, ↓fv_0_1, fX3_digest_55, fX3_digest_56, fX3_digest_57, fX3_digest_58, fX3_digest_59, fX3_digest_60, fX3_digest_63, fX3_digest_64, fX3_digest_65, fX3_digest_66, fX3_digest_69, ↓fv_0_2, fX3_digest_72, fX3_digest_73, fX3_digest_74, fX3_digest_75, fX3_digest_76, fX3_digest_77, fX3_digest_80, fX3_digest_81, fX3_digest_82, fX3_digest_83, fX3_digest_86, ↓fv_0_3, fX3_digest_89, fX3_digest_90, fX3_digest_91, fX3_digest_92, fX3_digest_93, fX3_digest_94, ↓ex_iinc, fX3_digest_97, ↓ex_goto, fX3_digest_100, fX3_digest_103, fX3_digest_104, fX3_digest_105, fX3_digest_106, fX3_digest_109, ↓fv_0_5, fX3_digest_112, fX3_digest_113, fX3_digest_114, fX3_digest_115, fX3_digest_116, fX3_digest_117, fX3_digest_118, ↓ex_bipush, fX3_digest_120, fX3_digest_123, fX3_digest_126, fX3_digest_127, fX3_digest_128, fX3_digest_129, fX3_digest_132, ↓fv_0_6, fX3_digest_135, fX3_digest_136, fX3_digest_137, fX3_digest_138, fX3_digest_139, fX3_digest_140, fX3_digest_143, fX3_digest_146, fX3_digest_149, fX3_digest_150, fX3_digest_151, fX3_digest_152, fX3_digest_155, ↓fv_0_7, fX3_digest_158, fX3_digest_159, fX3_digest_160, ↓ex_lreturn, ↓rt_l, p0, p1, q0, q1, d1, d3, leN (a := g.now.n) (b := i) (by omega) (by omega)]
        refine ⟨fun _ => ?_, fun z => absurd (by omega) z⟩
        rw [show i = g.now.n by omega, hh]
        exact key2 8 0 (by omega)
      | succ k ih =>
        intro i hi
        refine go hR [(15, [0, 1, 3]), (117, [0, 1, 3])] 100 ?_
        obtain ⟨e1, e2, e3, e4⟩ := d2 i (by omega)
        simp only [↓reduceIte, Nat.reduceEqDiff, Nat.reduceAdd, Nat.reduceLeDiff, reduceCtorEq, and_true, true_and, false_and, and_false, true_or, or_true, or_false, false_or, true_implies, false_implies, implies_true, not_true_eq_false, not_false_eq_true, eq_self, fx_s, ↓run_s, run_0, ↓rs_n, ↓rs_c, as_s, ls_n, ls_c, lc_s, lget_c, fX3_digest_0, ↓ex_ldc2_w, fX3_digest_3, ↓ex_aload_n, ↓xR_r, ↓xRg_c, fX3_digest_4, ↓ex_getfield, ↓s1R_c, ↓fv_3_0, fX3_digest_7, ↓fv_0_4, fX3_digest_10, ↓ex_i2l, ↓s1I_c, fX3_digest_11, ↓ex_ladd, ↓s2L_c, fX3_digest_12, ↓ex_lstore_n, ↓s1L_c, ↓lsto_e, ↓lrmK_n, ↓lrmK_t, ct_i, ct_l, ct_r, fX3_digest_13, ↓ex_iconst, fX3_digest_14, ↓ex_istore_n, ↓lrmK_f, fX3_digest_15, ↓ex_iload_n, ↓xI_i, ↓xIg_c, fX3_digest_16, fX3_digest_17, fX3_digest_20, fX3_digest_23, ↓ex_if_icmp_ge, ↓s2I_c, fX3_digest_26, fX3_digest_29, ↓ex_lload_n, ↓xL_l, ↓xLg_c, fX3_digest_30, ↓ex_lmul, fX3_digest_31, fX3_digest_32, fX3_digest_35, ↓fv_0_0, fX3_digest_38, fX3_digest_39, ↓ex_iaload, ↓sRI_c, ↓scrR_n, fX3_digest_40, fX3_digest_41, fX3_digest_42, fX3_digest_43, fX3_digest_46, fX3_digest_47, fX3_digest_48, fX3_digest_49, fX3_digest_52, ↓fv_0_1, fX3_digest_55, fX3_digest_56, fX3_digest_57, fX3_digest_58, fX3_digest_59, fX3_digest_60, fX3_digest_63, fX3_digest_64, fX3_digest_65, fX3_digest_66, fX3_digest_69, ↓fv_0_2, fX3_digest_72, fX3_digest_73, fX3_digest_74, fX3_digest_75, fX3_digest_76, fX3_digest_77, fX3_digest_80, fX3_digest_81, fX3_digest_82, fX3_digest_83, fX3_digest_86, ↓fv_0_3, fX3_digest_89, fX3_digest_90, fX3_digest_91, fX3_digest_92, fX3_digest_93, fX3_digest_94, ↓ex_iinc, fX3_digest_97, ↓ex_goto, fX3_digest_100, fX3_digest_103, fX3_digest_104, fX3_digest_105, fX3_digest_106, fX3_digest_109, ↓fv_0_5, fX3_digest_112, fX3_digest_113, fX3_digest_114, fX3_digest_115, fX3_digest_116, fX3_digest_117, fX3_digest_118, ↓ex_bipush, fX3_digest_120, fX3_digest_123, fX3_digest_126, fX3_digest_127, fX3_digest_128, fX3_digest_129, fX3_digest_132, ↓fv_0_6, fX3_digest_135, fX3_digest_136, fX3_digest_137, fX3_digest_138, fX3_digest_139, fX3_digest_140, fX3_digest_143, fX3_digest_146, fX3_digest_149, fX3_digest_150, fX3_digest_151, fX3_digest_152, fX3_digest_155, ↓fv_0_7, fX3_digest_158, fX3_digest_159, fX3_digest_160, ↓ex_lreturn, ↓rt_l, p0, p1, p2, p3, p4, p5, q0, q1, q2, q3, q4, q5, d1, leN (a := g.now.n) (b := i) (by omega) (by omega), clampN (n := i) (by omega), add1N, e1, e2, e3, e4]
        have hv : vp_in (nI i) 12 := vp_inN (by omega) (by omega)
        exact ⟨fun z => absurd z (by omega), fun _ => ⟨hv, hv, hv, hv, ih (i + 1) (by omega)⟩⟩
    refine go hR [(15, [0, 1, 3])] 60 ?_
    simp only [lv_args, ↓reduceIte, Nat.reduceEqDiff, Nat.reduceAdd, Nat.reduceLeDiff, reduceCtorEq, and_true, true_and, false_and, and_false, true_or, or_true, or_false, false_or, true_implies, false_implies, implies_true, not_true_eq_false, not_false_eq_true, eq_self, fx_s, ↓run_s, run_0, ↓rs_n, ↓rs_c, as_s, ls_n, ls_c, lc_s, lget_c, fX3_digest_0, ↓ex_ldc2_w, fX3_digest_3, ↓ex_aload_n, ↓xR_r, ↓xRg_c, fX3_digest_4, ↓ex_getfield, ↓s1R_c, ↓fv_3_0, fX3_digest_7, ↓fv_0_4, fX3_digest_10, ↓ex_i2l, ↓s1I_c, fX3_digest_11, ↓ex_ladd, ↓s2L_c, fX3_digest_12, ↓ex_lstore_n, ↓s1L_c, ↓lsto_e, ↓lrmK_n, ↓lrmK_t, ct_i, ct_l, ct_r, fX3_digest_13, ↓ex_iconst, fX3_digest_14, ↓ex_istore_n, ↓lrmK_f, fX3_digest_15, ↓ex_iload_n, ↓xI_i, ↓xIg_c, fX3_digest_16, fX3_digest_17, fX3_digest_20, fX3_digest_23, ↓ex_if_icmp_ge, ↓s2I_c, fX3_digest_26, fX3_digest_29, ↓ex_lload_n, ↓xL_l, ↓xLg_c, fX3_digest_30, ↓ex_lmul, fX3_digest_31, fX3_digest_32, fX3_digest_35, ↓fv_0_0, fX3_digest_38, fX3_digest_39, ↓ex_iaload, ↓sRI_c, ↓scrR_n, fX3_digest_40, fX3_digest_41, fX3_digest_42, fX3_digest_43, fX3_digest_46, fX3_digest_47, fX3_digest_48, fX3_digest_49, fX3_digest_52, ↓fv_0_1, fX3_digest_55, fX3_digest_56, fX3_digest_57, fX3_digest_58, fX3_digest_59, fX3_digest_60, fX3_digest_63, fX3_digest_64, fX3_digest_65, fX3_digest_66, fX3_digest_69, ↓fv_0_2, fX3_digest_72, fX3_digest_73, fX3_digest_74, fX3_digest_75, fX3_digest_76, fX3_digest_77, fX3_digest_80, fX3_digest_81, fX3_digest_82, fX3_digest_83, fX3_digest_86, ↓fv_0_3, fX3_digest_89, fX3_digest_90, fX3_digest_91, fX3_digest_92, fX3_digest_93, fX3_digest_94, ↓ex_iinc, fX3_digest_97, ↓ex_goto, fX3_digest_100, fX3_digest_103, fX3_digest_104, fX3_digest_105, fX3_digest_106, fX3_digest_109, ↓fv_0_5, fX3_digest_112, fX3_digest_113, fX3_digest_114, fX3_digest_115, fX3_digest_116, fX3_digest_117, fX3_digest_118, ↓ex_bipush, fX3_digest_120, fX3_digest_123, fX3_digest_126, fX3_digest_127, fX3_digest_128, fX3_digest_129, fX3_digest_132, ↓fv_0_6, fX3_digest_135, fX3_digest_136, fX3_digest_137, fX3_digest_138, fX3_digest_139, fX3_digest_140, fX3_digest_143, fX3_digest_146, fX3_digest_149, fX3_digest_150, fX3_digest_151, fX3_digest_152, fX3_digest_155, ↓fv_0_7, fX3_digest_158, fX3_digest_159, fX3_digest_160, ↓ex_lreturn, ↓rt_l, p0, p1, q0, q1, d1]
    exact key1 g.now.n 0 (by omega)
  next => exact hC.elim)
end PUB3
