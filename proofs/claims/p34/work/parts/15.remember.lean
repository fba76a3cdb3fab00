section REMEMBER
def s_rem0 (g : SG) : SG := (g.now, g.kept + 1, fun j => if j = g.kept then g.now else g.hist j, g.size, g.bytes)
def s_shift (g : SG) : SG := (g.now, 4, fun j => g.hist (j + 1), g.size, g.bytes)
def s_rem (g : SG) : SG := if g.kept = 5 then s_rem0 (s_shift g) else s_rem0 g
def FrR (X X' : XT) : Prop := ∀ k, ¬ (k = 0 ∨ (21 ≤ k ∧ k ≤ 50)) → X'.1 k = X.1 k ∧ X'.2.1 k = X.2.1 k
theorem FrR.M {X X' : XT} (h : FrR X X') : FrM X X' := fun k hk => h k (by omega)
def C_X3_remember : CT := fun As X K => match As with
  | [.ref b] => ∃ g : SG, (b = 0 ∧ RelC X g) ∧ ∀ X', RelC X' (s_rem g) → FrR X X' → K none X'
  | _ => False
set_option maxRecDepth 20000 in
set_option maxHeartbeats 4000000 in
theorem d_X3_remember (l : Launch) : Does l yX3_remember (wY yX3_remember cX3_remember 3 (retT 3)) (rmF 1) C_X3_remember := does_of (rt := 3) (by decide +kernel) tkX3_remember (calls := [(188, false, 2, 0, C_X0_copyFrom)]) (List.forall_mem_cons.mpr ⟨cr_NV (d_X0_copyFrom l) rfl (by decide +kernel) (by decide +kernel) (by decide +kernel) ⟨rfl, rfl⟩ ⟨Nat.le_of_ble_eq_true rfl, Nat.le_of_ble_eq_true rfl⟩, fun _ h => absurd h List.not_mem_nil⟩) (by
  intro As X post hC
  unfold C_X3_remember at hC
  split at hC
  next b =>
    obtain ⟨g, ⟨rfl, hR0⟩, hpost⟩ := hC
    refine ⟨Nat.le_of_ble_eq_true rfl, fun R hR => ?_⟩
    have sh0 : shp 0 = (3, 0) := rfl
    have sh7 : shp 7 = (8, 5) := rfl
    have h0 : (0 : Nat) < NC := by decide
    have h7 : (7 : Nat) < NC := by decide
    have fin : ∀ (Y : XT) (g' : SG), RelC Y g' → g'.kept < 5 → FrR X Y → s_rem0 g' = s_rem g → R 74 [(0, .ref 0)] [] Y := by
      intro Y g' hY hk hF he
      obtain ⟨⟨w1, w2, w3, w4⟩, c1, c2, ⟨r, c3, c4⟩, c5, c6⟩ := id hY
      refine go hR [] 40 ?_
      simp only [↓reduceIte, Nat.reduceEqDiff, Nat.reduceAdd, Nat.reduceLeDiff, reduceCtorEq, and_true, true_and, false_and, and_false, true_or, or_true, or_false, false_or, true_implies, false_implies, implies_true, not_true_eq_false, not_false_eq_true, eq_self, fx_s, ↓run_s, run_0, ↓rs_n, ↓rs_c, as_s, ls_n, ls_c, lc_s, lget_c, fX3_remember_0, ↓ex_aload_n, ↓xR_r, ↓xRg_c, fX3_remember_1, ↓ex_getfield, ↓s1R_c, ↓fv_3_5, fX3_remember_4, fX3_remember_5, ↓fv_3_1, fX3_remember_8, ↓ex_arraylength, ↓scrN_n, fX3_remember_9, ↓ex_if_icmp_lt, ↓s2I_c, fX3_remember_12, fX3_remember_13, fX3_remember_16, ↓ex_iconst, fX3_remember_17, ↓ex_aaload, ↓sRI_c, fX3_remember_18, ↓ex_astore_n, ↓lsto_e, ↓lrmK_n, ↓lrmK_f, ct_i, ct_l, ct_r, fX3_remember_19, fX3_remember_20, ↓ex_istore_n, ↓s1I_c, fX3_remember_21, ↓ex_iload_n, ↓xI_i, ↓xIg_c, fX3_remember_22, fX3_remember_23, fX3_remember_26, fX3_remember_27, ↓ex_if_icmp_ge, fX3_remember_30, fX3_remember_31, fX3_remember_34, fX3_remember_35, fX3_remember_36, ↓ex_isub, fX3_remember_37, fX3_remember_38, fX3_remember_41, fX3_remember_42, fX3_remember_43, ↓ex_aastore, ↓sRIR_c, fX3_remember_44, ↓ex_iinc, fX3_remember_47, ↓ex_goto, fX3_remember_50, fX3_remember_51, fX3_remember_54, fX3_remember_55, fX3_remember_58, fX3_remember_59, fX3_remember_60, fX3_remember_61, fX3_remember_62, fX3_remember_63, fX3_remember_64, fX3_remember_65, fX3_remember_68, fX3_remember_69, fX3_remember_70, fX3_remember_71, ↓ex_putfield, ↓pf_3_5, fX3_remember_74, fX3_remember_75, fX3_remember_78, fX3_remember_79, fX3_remember_82, fX3_remember_83, fX3_remember_84, ↓fv_3_0, fX3_remember_87, ↓ex_invokevirtual, ↓xc_0, ↓xc_s, ↓xc_1, ↓pk_s, ↓k_s, ↓k_n, catS_n, catS_c, rOk_c, ↓pk_f, fX3_remember_90, fX3_remember_91, ↓ex_dup, fX3_remember_92, fX3_remember_95, fX3_remember_96, ↓ex_iadd, fX3_remember_97, fX3_remember_100, ↓ex_return_, ↓rt_v, sh0, sh7, h0, h7, ↓C_X0_copyFrom, c2, clampN (n := g'.kept) (by omega), c3 _ hk]
      refine ⟨vp_inN (by omega) hk, ⟨(isSc_lt (pastR_sc r _)).1, by rw [(isSc_shp (pastR_sc r _)).1]⟩, g'.now, ⟨pastR_sc r _, by unfold isSc; simp, (fun z => by have := pastR_hi r g'.kept; have z2 : pastR r g'.kept = 1 := z; omega), c1, w1.1⟩, fun Z hZ hs => ?_⟩
      have z0 : Z.1 0 = Y.1 0 := hZ.1 0 (fun z => by have := pastR_hi r g'.kept; unfold scn at z; omega)
      refine hpost _ ?_ ?_
      · rw [← he]
        refine ⟨⟨w1, (by show g'.kept + 1 ≤ 5; omega), fun j hj => ?_, w4⟩, ?_, ?_, ⟨r, fun j hj => ?_, fun j hj => ?_⟩, ?_, fun i hi => ?_⟩
        · show WF (if j = g'.kept then g'.now else g'.hist j)
          have hj' : j < g'.kept + 1 := hj
          split
          · exact w1
          · exact w3 j (by omega)
        · refine RS.fr (P := fun k => scn (pastR r g'.kept) k ∨ k = 0) c1 ⟨fun k hk => ?_, fun k hk => ?_, ?_⟩ (fun k hk z => ?_)
          · rw [sI_1, if_neg (fun z => hk (Or.inr z))]; exact hZ.1 k (fun z => hk (Or.inl z))
          · exact hZ.2.1 k (fun z => hk (Or.inl z))
          · exact hZ.2.2
          · have := pastR_hi r g'.kept
            unfold scn at hk z
            omega
        · simp [sI_1, upd_a, z0, c2, add1N, s_rem0]
        · show Z.2.2 j = _
          rw [hZ.2.2]; exact c3 j hj
        · have hj' : j < g'.kept + 1 := hj
          have hne : ∀ k, scn (pastR r j) k → k ≠ 0 := fun k hk => by have := pastR_hi r j; unfold scn at hk; omega
          show RS _ _ (if j = g'.kept then g'.now else g'.hist j)
          split
          next e =>
            subst e
            exact RS.fr (P := fun k => k = 0) hs (Fr.pI (P := fun k => k = 0) (Fr.rf _ Z) rfl _ _) hne
          next e =>
            have hdis : pastR r j ≠ pastR r g'.kept := fun z => e (pastR_inj (by omega) (by omega) z)
            refine RS.fr (P := fun k => k = 0) (RS.fr (c4 j (by omega)) hZ (fun k hk z => ?_)) (Fr.pI (P := fun k => k = 0) (Fr.rf _ Z) rfl _ _) hne
            have := isSc_ne (pastR_sc r j) (pastR_sc r g'.kept) hdis
            unfold scn at hk z
            omega
        · rw [sI_1, if_neg (by decide), hZ.1 12 (fun z => by have := pastR_hi r g'.kept; unfold scn at z; omega)]; exact c5
        · rw [sI_1, if_neg (by decide), hZ.1 13 (fun z => by have := pastR_hi r g'.kept; unfold scn at z; omega)]; exact c6 i hi
      · intro k hk
        have hn : ¬ scn (pastR r g'.kept) k := fun z => by have := pastR_hi r g'.kept; unfold scn at z; omega
        refine ⟨?_, ?_⟩
        · rw [sI_1, if_neg (fun z => hk (Or.inl z)), hZ.1 k hn]; exact (hF k hk).1
        · show Z.2.1 k = _
          rw [hZ.2.1 k hn]; exact (hF k hk).2
    obtain ⟨⟨w1, w2, w3, w4⟩, c1, c2, ⟨r, c3, c4⟩, c5, c6⟩ := id hR0
    by_cases hk5 : g.kept = 5
    · have key : ∀ k i f, i + k = 5 → 1 ≤ i → (∀ j, j + 1 < i → f j = pastR r (j + 1)) → (∀ j, i ≤ j + 1 → j < 5 → f j = pastR r j) → R 21 [(0, .ref 0), (1, .ref (pastR r 0)), (2, .int (nI i))] [] (X.1, X.2.1, f) := by
        intro k
        induction k with
        | zero =>
          intro i f hi h1 hlo hhi
          have hi5 : i = 5 := by omega
          subst hi5
          refine go hR [(21, [0, 1, 2]), (74, [0])] 60 ?_
          have e1 : nI 5 - 1 = nI 4 := rfl
          simp only [↓reduceIte, Nat.reduceEqDiff, Nat.reduceAdd, Nat.reduceLeDiff, reduceCtorEq, and_true, true_and, false_and, and_false, true_or, or_true, or_false, false_or, true_implies, false_implies, implies_true, not_true_eq_false, not_false_eq_true, eq_self, fx_s, ↓run_s, run_0, ↓rs_n, ↓rs_c, as_s, ls_n, ls_c, lc_s, lget_c, fX3_remember_0, ↓ex_aload_n, ↓xR_r, ↓xRg_c, fX3_remember_1, ↓ex_getfield, ↓s1R_c, ↓fv_3_5, fX3_remember_4, fX3_remember_5, ↓fv_3_1, fX3_remember_8, ↓ex_arraylength, ↓scrN_n, fX3_remember_9, ↓ex_if_icmp_lt, ↓s2I_c, fX3_remember_12, fX3_remember_13, fX3_remember_16, ↓ex_iconst, fX3_remember_17, ↓ex_aaload, ↓sRI_c, fX3_remember_18, ↓ex_astore_n, ↓lsto_e, ↓lrmK_n, ↓lrmK_f, ct_i, ct_l, ct_r, fX3_remember_19, fX3_remember_20, ↓ex_istore_n, ↓s1I_c, fX3_remember_21, ↓ex_iload_n, ↓xI_i, ↓xIg_c, fX3_remember_22, fX3_remember_23, fX3_remember_26, fX3_remember_27, ↓ex_if_icmp_ge, fX3_remember_30, fX3_remember_31, fX3_remember_34, fX3_remember_35, fX3_remember_36, ↓ex_isub, fX3_remember_37, fX3_remember_38, fX3_remember_41, fX3_remember_42, fX3_remember_43, ↓ex_aastore, ↓sRIR_c, fX3_remember_44, ↓ex_iinc, fX3_remember_47, ↓ex_goto, fX3_remember_50, fX3_remember_51, fX3_remember_54, fX3_remember_55, fX3_remember_58, fX3_remember_59, fX3_remember_60, fX3_remember_61, fX3_remember_62, fX3_remember_63, fX3_remember_64, fX3_remember_65, fX3_remember_68, fX3_remember_69, fX3_remember_70, fX3_remember_71, ↓ex_putfield, ↓pf_3_5, fX3_remember_74, fX3_remember_75, fX3_remember_78, fX3_remember_79, fX3_remember_82, fX3_remember_83, fX3_remember_84, ↓fv_3_0, fX3_remember_87, ↓ex_invokevirtual, ↓xc_0, ↓xc_s, ↓xc_1, ↓pk_s, ↓k_s, ↓k_n, catS_n, catS_c, rOk_c, ↓pk_f, fX3_remember_90, fX3_remember_91, ↓ex_dup, fX3_remember_92, fX3_remember_95, fX3_remember_96, ↓ex_iadd, fX3_remember_97, fX3_remember_100, ↓ex_return_, ↓rt_v, sh0, sh7, h0, h7, e1, clampN (n := 4) (by omega)]
          refine ⟨fun _ => ⟨⟨vp_inN (by omega) (by omega), (isSc_lt (pastR_sc r _)).1, by rw [(isSc_shp (pastR_sc r _)).1]⟩, ?_⟩, fun z => absurd (by rw [leN (by omega) (by omega)]; omega) z⟩
          refine fin _ (s_shift g) ⟨⟨w1, (by show 4 ≤ 5; omega), fun j hj => w3 (j + 1) (by have : j < 4 := hj; omega), w4⟩, ?_, ?_, ⟨(r + 1) % 5, fun j hj => ?_, fun j hj => ?_⟩, ?_, fun i hi => ?_⟩ (by show 4 < 5; omega) (fun q hq => ⟨?_, rfl⟩) (by unfold s_rem; rw [if_pos hk5])
          · exact RS.fr1 c1 (fun k hk => by rw [sI_1, if_neg (by unfold scn at hk; omega)]; rfl)
          · simp [sI_1, upd_a, s_shift]
          · have : ∀ f' : Nat → Nat, (sI (sR (X.1, X.2.1, f) 4 (pastR r 0)) 0 5 (nI 4)).2.2 j = va_up f 4 (pastR r 0) j := fun _ => rfl
            rw [this f]
            unfold va_up
            by_cases e : j = 4
            · rw [if_pos e, e]
              unfold pastR
              omega
            · rw [if_neg e, hlo j (by omega)]
              unfold pastR
              omega
          · have hj4 : j < 4 := hj
            have e : pastR ((r + 1) % 5) j = pastR r (j + 1) := by unfold pastR; omega
            rw [e]
            exact RS.fr1 (c4 (j + 1) (by omega)) (fun k hk => by rw [sI_1, if_neg (by have := pastR_hi r (j + 1); unfold scn at hk; omega)]; rfl)
          · rw [sI_1, if_neg (by decide)]; exact c5
          · rw [sI_1, if_neg (by decide)]; exact c6 i hi
          · rw [sI_1, if_neg (fun z => hq (Or.inl z))]; rfl
        | succ k ih =>
          intro i f hi h1 hlo hhi
          refine go hR [(21, [0, 1, 2]), (74, [0])] 60 ?_
          have e1 : nI i - 1 = nI (i - 1) := pk_sub (a := i) (b := 1) (by omega)
          simp only [↓reduceIte, Nat.reduceEqDiff, Nat.reduceAdd, Nat.reduceLeDiff, reduceCtorEq, and_true, true_and, false_and, and_false, true_or, or_true, or_false, false_or, true_implies, false_implies, implies_true, not_true_eq_false, not_false_eq_true, eq_self, fx_s, ↓run_s, run_0, ↓rs_n, ↓rs_c, as_s, ls_n, ls_c, lc_s, lget_c, fX3_remember_0, ↓ex_aload_n, ↓xR_r, ↓xRg_c, fX3_remember_1, ↓ex_getfield, ↓s1R_c, ↓fv_3_5, fX3_remember_4, fX3_remember_5, ↓fv_3_1, fX3_remember_8, ↓ex_arraylength, ↓scrN_n, fX3_remember_9, ↓ex_if_icmp_lt, ↓s2I_c, fX3_remember_12, fX3_remember_13, fX3_remember_16, ↓ex_iconst, fX3_remember_17, ↓ex_aaload, ↓sRI_c, fX3_remember_18, ↓ex_astore_n, ↓lsto_e, ↓lrmK_n, ↓lrmK_f, ct_i, ct_l, ct_r, fX3_remember_19, fX3_remember_20, ↓ex_istore_n, ↓s1I_c, fX3_remember_21, ↓ex_iload_n, ↓xI_i, ↓xIg_c, fX3_remember_22, fX3_remember_23, fX3_remember_26, fX3_remember_27, ↓ex_if_icmp_ge, fX3_remember_30, fX3_remember_31, fX3_remember_34, fX3_remember_35, fX3_remember_36, ↓ex_isub, fX3_remember_37, fX3_remember_38, fX3_remember_41, fX3_remember_42, fX3_remember_43, ↓ex_aastore, ↓sRIR_c, fX3_remember_44, ↓ex_iinc, fX3_remember_47, ↓ex_goto, fX3_remember_50, fX3_remember_51, fX3_remember_54, fX3_remember_55, fX3_remember_58, fX3_remember_59, fX3_remember_60, fX3_remember_61, fX3_remember_62, fX3_remember_63, fX3_remember_64, fX3_remember_65, fX3_remember_68, fX3_remember_69, fX3_remember_70, fX3_remember_71, ↓ex_putfield, ↓pf_3_5, fX3_remember_74, fX3_remember_75, fX3_remember_78, fX3_remember_79, fX3_remember_82, fX3_remember_83, fX3_remember_84, ↓fv_3_0, fX3_remember_87, ↓ex_invokevirtual, ↓xc_0, ↓xc_s, ↓xc_1, ↓pk_s, ↓k_s, ↓k_n, catS_n, catS_c, rOk_c, ↓pk_f, fX3_remember_90, fX3_remember_91, ↓ex_dup, fX3_remember_92, fX3_remember_95, fX3_remember_96, ↓ex_iadd, fX3_remember_97, fX3_remember_100, ↓ex_return_, ↓rt_v, sh0, sh7, h0, h7, e1, clampN (n := i) (by omega), clampN (n := i - 1) (by omega), add1N]
          refine ⟨fun z => absurd z (by rw [leN (by omega) (by omega)]; omega), fun _ => ⟨vp_inN (by omega) (by omega), ⟨vp_inN (by omega) (by omega), ?_, ?_⟩, ih (i + 1) (va_up f (i - 1) (f i)) (by omega) (by omega) (fun j hj => ?_) (fun j hj hj5 => ?_)⟩⟩
          · rw [hhi i (by omega) (by omega)]; exact (isSc_lt (pastR_sc r _)).1
          · rw [hhi i (by omega) (by omega), (isSc_shp (pastR_sc r _)).1]
          · unfold va_up
            by_cases e : j = i - 1
            · rw [if_pos e, hhi i (by omega) (by omega), e]
              congr 1
              omega
            · rw [if_neg e]; exact hlo j (by omega)
          · unfold va_up
            rw [if_neg (by omega)]; exact hhi j (by omega) hj5
      refine go hR [(21, [0, 1, 2]), (74, [0])] 60 ?_
      simp only [lv_args, ↓reduceIte, Nat.reduceEqDiff, Nat.reduceAdd, Nat.reduceLeDiff, reduceCtorEq, and_true, true_and, false_and, and_false, true_or, or_true, or_false, false_or, true_implies, false_implies, implies_true, not_true_eq_false, not_false_eq_true, eq_self, fx_s, ↓run_s, run_0, ↓rs_n, ↓rs_c, as_s, ls_n, ls_c, lc_s, lget_c, fX3_remember_0, ↓ex_aload_n, ↓xR_r, ↓xRg_c, fX3_remember_1, ↓ex_getfield, ↓s1R_c, ↓fv_3_5, fX3_remember_4, fX3_remember_5, ↓fv_3_1, fX3_remember_8, ↓ex_arraylength, ↓scrN_n, fX3_remember_9, ↓ex_if_icmp_lt, ↓s2I_c, fX3_remember_12, fX3_remember_13, fX3_remember_16, ↓ex_iconst, fX3_remember_17, ↓ex_aaload, ↓sRI_c, fX3_remember_18, ↓ex_astore_n, ↓lsto_e, ↓lrmK_n, ↓lrmK_f, ct_i, ct_l, ct_r, fX3_remember_19, fX3_remember_20, ↓ex_istore_n, ↓s1I_c, fX3_remember_21, ↓ex_iload_n, ↓xI_i, ↓xIg_c, fX3_remember_22, fX3_remember_23, fX3_remember_26, fX3_remember_27, ↓ex_if_icmp_ge, fX3_remember_30, fX3_remember_31, fX3_remember_34, fX3_remember_35, fX3_remember_36, ↓ex_isub, fX3_remember_37, fX3_remember_38, fX3_remember_41, fX3_remember_42, fX3_remember_43, ↓ex_aastore, ↓sRIR_c, fX3_remember_44, ↓ex_iinc, fX3_remember_47, ↓ex_goto, fX3_remember_50, fX3_remember_51, fX3_remember_54, fX3_remember_55, fX3_remember_58, fX3_remember_59, fX3_remember_60, fX3_remember_61, fX3_remember_62, fX3_remember_63, fX3_remember_64, fX3_remember_65, fX3_remember_68, fX3_remember_69, fX3_remember_70, fX3_remember_71, ↓ex_putfield, ↓pf_3_5, fX3_remember_74, fX3_remember_75, fX3_remember_78, fX3_remember_79, fX3_remember_82, fX3_remember_83, fX3_remember_84, ↓fv_3_0, fX3_remember_87, ↓ex_invokevirtual, ↓xc_0, ↓xc_s, ↓xc_1, ↓pk_s, ↓k_s, ↓k_n, catS_n, catS_c, rOk_c, ↓pk_f, fX3_remember_90, fX3_remember_91, ↓ex_dup, fX3_remember_92, fX3_remember_95, fX3_remember_96, ↓ex_iadd, fX3_remember_97, fX3_remember_100, ↓ex_return_, ↓rt_v, sh0, sh7, h0, h7, c2, hk5, clamp0, c3 0 (by omega)]
      refine ⟨fun z => absurd z (by rw [ltN (by omega) (by omega)]; omega), fun _ => ⟨vp_inN (n := 0) (by omega) (by omega), ?_⟩⟩
      exact key 4 1 X.2.2 (by omega) (by omega) (fun j hj => by omega) (fun j _ hj => c3 j hj)
    · refine go hR [(21, [0, 1, 2]), (74, [0])] 60 ?_
      simp only [lv_args, ↓reduceIte, Nat.reduceEqDiff, Nat.reduceAdd, Nat.reduceLeDiff, reduceCtorEq, and_true, true_and, false_and, and_false, true_or, or_true, or_false, false_or, true_implies, false_implies, implies_true, not_true_eq_false, not_false_eq_true, eq_self, fx_s, ↓run_s, run_0, ↓rs_n, ↓rs_c, as_s, ls_n, ls_c, lc_s, lget_c, fX3_remember_0, ↓ex_aload_n, ↓xR_r, ↓xRg_c, fX3_remember_1, ↓ex_getfield, ↓s1R_c, ↓fv_3_5, fX3_remember_4, fX3_remember_5, ↓fv_3_1, fX3_remember_8, ↓ex_arraylength, ↓scrN_n, fX3_remember_9, ↓ex_if_icmp_lt, ↓s2I_c, fX3_remember_12, fX3_remember_13, fX3_remember_16, ↓ex_iconst, fX3_remember_17, ↓ex_aaload, ↓sRI_c, fX3_remember_18, ↓ex_astore_n, ↓lsto_e, ↓lrmK_n, ↓lrmK_f, ct_i, ct_l, ct_r, fX3_remember_19, fX3_remember_20, ↓ex_istore_n, ↓s1I_c, fX3_remember_21, ↓ex_iload_n, ↓xI_i, ↓xIg_c, fX3_remember_22, fX3_remember_23, fX3_remember_26, fX3_remember_27, ↓ex_if_icmp_ge, fX3_remember_30, fX3_remember_31, fX3_remember_34, fX3_remember_35, fX3_remember_36, ↓ex_isub, fX3_remember_37, fX3_remember_38, fX3_remember_41, fX3_remember_42, fX3_remember_43, ↓ex_aastore, ↓sRIR_c, fX3_remember_44, ↓ex_iinc, fX3_remember_47, ↓ex_goto, fX3_remember_50, fX3_remember_51, fX3_remember_54, fX3_remember_55, fX3_remember_58, fX3_remember_59, fX3_remember_60, fX3_remember_61, fX3_remember_62, fX3_remember_63, fX3_remember_64, fX3_remember_65, fX3_remember_68, fX3_remember_69, fX3_remember_70, fX3_remember_71, ↓ex_putfield, ↓pf_3_5, fX3_remember_74, fX3_remember_75, fX3_remember_78, fX3_remember_79, fX3_remember_82, fX3_remember_83, fX3_remember_84, ↓fv_3_0, fX3_remember_87, ↓ex_invokevirtual, ↓xc_0, ↓xc_s, ↓xc_1, ↓pk_s, ↓k_s, ↓k_n, catS_n, catS_c, rOk_c, ↓pk_f, fX3_remember_90, fX3_remember_91, ↓ex_dup, fX3_remember_92, fX3_remember_95, fX3_remember_96, ↓ex_iadd, fX3_remember_97, fX3_remember_100, ↓ex_return_, ↓rt_v, sh0, sh7, h0, h7, c2]
      refine ⟨fun _ => fin X g hR0 (by omega) (fun k hk => ⟨rfl, rfl⟩) (by unfold s_rem; rw [if_neg hk5]), fun z => absurd (by rw [ltN (by omega) (by omega)]; omega) z⟩
  next => exact hC.elim)
end REMEMBER
