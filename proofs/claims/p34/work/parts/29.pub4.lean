section PUB4
def spW (k : Nat) : Prop := 8 ≤ k ∧ k ≤ 11
def wS (s : SV) (v : Nat) : Nat := wI (s.S v)
noncomputable def LK (s : SV) (m : Nat) : Nat := SF s m (wS s) 0 0
theorem SF_12 {s : SV} (hW : WE s) (m : Nat) (wn : Nat → Nat) : SF s m wn 0 0 ≤ 1000000000000 := by
  have h1 : SF s m wn 0 0 ≤ AG s 0 0 := SF_le
  have hAG : AG s 0 0 = 10 ^ s.n := by
    rw [← sum_all (fun e he => (hW.2.1 e he).2.2.1)]
    exact sumN_congr _ (fun o _ => cif_t (fun e _ hd => by simp at hd))
  have := p10_le hW.1
  omega
theorem SR_tot {s : SV} {m : Nat} {wn : Nat → Nat} {a : ACC} (h : SR s m wn false a) : a.tot = SF s m wn 0 0 ∧ a.hrd = SH s m wn 0 0 := by
  obtain ⟨-, -, -, h4⟩ := h
  obtain ⟨h5, h6, -⟩ := h4 rfl
  exact ⟨by rw [h5]; exact Nat.zero_add _, by rw [h6]; exact Nat.zero_add _⟩
theorem SR_any {s : SV} {m : Nat} {wn : Nat → Nat} {a : ACC} (h : SR s m wn true a) : 0 < a.tot ↔ 0 < SF s m wn 0 0 := by
  obtain ⟨h1, h2, h3, -⟩ := h
  have h2' : a.tot ≤ 0 + SF s m wn 0 0 := h2
  exact ⟨fun z => by omega, h3⟩
theorem spT_W {X X' : XT} (h : Fr spT X X') : Fr spW X X' := h.mono (fun k hk => by unfold spT at hk; unfold spW; omega)
theorem sp10_W {X X' : XT} (h : Fr (fun k => k = 10) X X') : Fr spW X X' := h.mono (fun k hk => by unfold spW; omega)
theorem sp9_W {X X' : XT} (h : Fr (fun k => k = 9) X X') : Fr spW X X' := h.mono (fun k hk => by unfold spW; omega)
theorem RS_W {X X' : XT} {s : SV} (h : RS X 1 s) (hF : Fr spW X X') : RS X' 1 s := h.fr hF (fun k hk z => by unfold scn at hk; unfold spW at z; omega)
theorem scrW {X X' : XT} {g : SG} (h : RelC X g) (hF : Fr spW X X') : RelC X' g := h.scrap (hF.mono (fun k hk => Or.inl hk))
theorem FrM_W {X X' : XT} (h : Fr spW X X') : FrM X X' := FrM.of h (fun k hk => by unfold spW at hk; omega)
def okSs (s : SV) : Prop := WE s ∧ ∀ v, v < 8 → okS (s.S v)
theorem WF.oks {s : SV} (h : WF s) : okSs s := ⟨h.we, h.2.2.2.2.1⟩
noncomputable def C_X3_likelihoodOf : CT := fun As X K => match As with
  | [.ref b, .int st] => ∃ (s : SV) (m : Nat), (b = 0 ∧ RS X 1 s ∧ okSs s ∧ st = nI m ∧ m ≤ 255) ∧ ∀ X', Fr spW X X' → K (some (.long (lN (LK s m)))) X'
  | _ => False
set_option maxRecDepth 20000 in
set_option maxHeartbeats 4000000 in
theorem d_X3_likelihoodOf (l : Launch) : Does l yX3_likelihoodOf (wY yX3_likelihoodOf cX3_likelihoodOf 2 (retT 2)) (rmF 17) C_X3_likelihoodOf := does_of (rt := 2) (by decide +kernel) tkX3_likelihoodOf (calls := [(130, false, 2, 1, C_X1_wantAsSeen), (143, false, 4, 1, C_X1_search)]) (List.forall_mem_cons.mpr ⟨cr_NV (d_X1_wantAsSeen l) rfl (by decide +kernel) (by decide +kernel) (by decide +kernel) ⟨rfl, rfl⟩ ⟨Nat.le_of_ble_eq_true rfl, Nat.le_of_ble_eq_true rfl⟩, List.forall_mem_cons.mpr ⟨cr_NV (d_X1_search l) rfl (by decide +kernel) (by decide +kernel) (by decide +kernel) ⟨rfl, rfl⟩ ⟨Nat.le_of_ble_eq_true rfl, Nat.le_of_ble_eq_true rfl⟩, fun _ h => absurd h List.not_mem_nil⟩⟩) (by
  intro As X post hC
  unfold C_X3_likelihoodOf at hC
  split at hC
  next b st =>
    obtain ⟨s, m, ⟨rfl, hRS, ⟨hW, hok⟩, rfl, hm⟩, hpost⟩ := hC
    refine ⟨Nat.le_of_ble_eq_true rfl, fun R hR => ?_⟩
    obtain ⟨⟨p8, p9, p10, p11⟩, q8, q9, q10, q11⟩ := sh_sp
    obtain ⟨⟨p0, -⟩, q0, -⟩ := sh_base
    refine go hR [] 60 ?_
    simp only [lv_args, ↓reduceIte, Nat.reduceEqDiff, Nat.reduceAdd, Nat.reduceLeDiff, reduceCtorEq, and_true, true_and, false_and, and_false, true_or, or_true, or_false, false_or, true_implies, false_implies, implies_true, not_true_eq_false, not_false_eq_true, eq_self, fx_s, ↓run_s, run_0, ↓rs_n, ↓rs_c, as_s, ls_n, ls_c, lc_s, lget_c, fX3_likelihoodOf_0, ↓ex_aload_n, ↓xR_r, ↓xRg_c, fX3_likelihoodOf_1, ↓ex_getfield, ↓s1R_c, ↓fv_3_2, fX3_likelihoodOf_4, fX3_likelihoodOf_5, ↓fv_3_0, fX3_likelihoodOf_8, ↓ex_invokevirtual, ↓xc_0, ↓xc_s, ↓xc_1, ↓pk_s, ↓k_s, ↓k_n, catS_n, catS_c, rOk_c, ct_i, ct_l, ct_r, ↓pk_f, fX3_likelihoodOf_11, fX3_likelihoodOf_12, fX3_likelihoodOf_15, fX3_likelihoodOf_16, fX3_likelihoodOf_19, ↓ex_iload_n, ↓xI_i, ↓xIg_c, fX3_likelihoodOf_20, ↓ex_iconst, fX3_likelihoodOf_21, fX3_likelihoodOf_24, fX3_likelihoodOf_25, fX3_likelihoodOf_28, ↓fv_1_2, fX3_likelihoodOf_31, ↓ex_lreturn, ↓rt_l, p0, p8, q0, q8, ↓C_X1_wantAsSeen, ↓C_X1_search, ↓reduceIte, not_true_eq_false, not_false_eq_true, false_implies, true_implies, implies_true, and_true, true_and, and_false, false_and, or_true, true_or, or_false, false_or, Classical.not_not, ite_true, ite_false]
    refine ⟨s, ⟨hRS, hok⟩, fun Y hY hwn => ⟨s, m, wS s, false, ⟨RS_W hRS (sp10_W hY), hW, rfl, hm, hwn, rfl⟩, fun Z a hZ hA hk hSR ht => ?_⟩⟩
    rw [hA.1, (SR_tot hSR).1]
    exact hpost Z ((sp10_W hY).tr (spT_W hZ))
  next => exact hC.elim)
noncomputable def C_X3_countIfPossible : CT := fun As X K => match As with
  | [.ref b, .int st] => ∃ (s : SV) (m : Nat), (b = 0 ∧ RS X 1 s ∧ okSs s ∧ st = nI m ∧ m ≤ 255) ∧ ∀ X', Fr spW X X' → K (some (.int (b2i (0 < LK s m)))) X'
  | _ => False
set_option maxRecDepth 20000 in
set_option maxHeartbeats 4000000 in
theorem d_X3_countIfPossible (l : Launch) : Does l yX3_countIfPossible (wY yX3_countIfPossible cX3_countIfPossible 2 (retT 0)) (rmF 17) C_X3_countIfPossible := does_of (rt := 0) (by decide +kernel) tkX3_countIfPossible (calls := [(130, false, 2, 1, C_X1_wantAsSeen), (143, false, 4, 1, C_X1_search)]) (List.forall_mem_cons.mpr ⟨cr_NV (d_X1_wantAsSeen l) rfl (by decide +kernel) (by decide +kernel) (by decide +kernel) ⟨rfl, rfl⟩ ⟨Nat.le_of_ble_eq_true rfl, Nat.le_of_ble_eq_true rfl⟩, List.forall_mem_cons.mpr ⟨cr_NV (d_X1_search l) rfl (by decide +kernel) (by decide +kernel) (by decide +kernel) ⟨rfl, rfl⟩ ⟨Nat.le_of_ble_eq_true rfl, Nat.le_of_ble_eq_true rfl⟩, fun _ h => absurd h List.not_mem_nil⟩⟩) (by
  intro As X post hC
  unfold C_X3_countIfPossible at hC
  split at hC
  next b st =>
    obtain ⟨s, m, ⟨rfl, hRS, ⟨hW, hok⟩, rfl, hm⟩, hpost⟩ := hC
    refine ⟨Nat.le_of_ble_eq_true rfl, fun R hR => ?_⟩
    obtain ⟨⟨p8, p9, p10, p11⟩, q8, q9, q10, q11⟩ := sh_sp
    obtain ⟨⟨p0, -⟩, q0, -⟩ := sh_base
    refine go hR [] 60 ?_
    have h0 : (0 : Int64) = lN 0 := rfl
    simp only [lv_args, ↓reduceIte, Nat.reduceEqDiff, Nat.reduceAdd, Nat.reduceLeDiff, reduceCtorEq, and_true, true_and, false_and, and_false, true_or, or_true, or_false, false_or, true_implies, false_implies, implies_true, not_true_eq_false, not_false_eq_true, eq_self, fx_s, ↓run_s, run_0, ↓rs_n, ↓rs_c, as_s, ls_n, ls_c, lc_s, lget_c, fX3_countIfPossible_0, ↓ex_aload_n, ↓xR_r, ↓xRg_c, fX3_countIfPossible_1, ↓ex_getfield, ↓s1R_c, ↓fv_3_2, fX3_countIfPossible_4, fX3_countIfPossible_5, ↓fv_3_0, fX3_countIfPossible_8, ↓ex_invokevirtual, ↓xc_0, ↓xc_s, ↓xc_1, ↓pk_s, ↓k_s, ↓k_n, catS_n, catS_c, rOk_c, ct_i, ct_l, ct_r, ↓pk_f, fX3_countIfPossible_11, fX3_countIfPossible_12, fX3_countIfPossible_15, fX3_countIfPossible_16, fX3_countIfPossible_19, ↓ex_iload_n, ↓xI_i, ↓xIg_c, fX3_countIfPossible_20, ↓ex_iconst, fX3_countIfPossible_21, fX3_countIfPossible_24, fX3_countIfPossible_25, fX3_countIfPossible_28, ↓fv_1_2, fX3_countIfPossible_31, ↓ex_lconst, fX3_countIfPossible_32, ↓ex_lcmp, ↓s2L_c, fX3_countIfPossible_33, ↓ex_ifCond_le, ↓s1I_c, fX3_countIfPossible_36, fX3_countIfPossible_37, ↓ex_goto, fX3_countIfPossible_40, fX3_countIfPossible_41, ↓ex_ireturn, ↓rt_i, p0, p8, q0, q8, ↓C_X1_wantAsSeen, ↓C_X1_search, lg_cmp_le, h0, ↓reduceIte, not_true_eq_false, not_false_eq_true, false_implies, true_implies, implies_true, and_true, true_and, and_false, false_and, or_true, true_or, or_false, false_or, Classical.not_not, ite_true, ite_false]
    refine ⟨s, ⟨hRS, hok⟩, fun Y hY hwn => ⟨s, m, wS s, true, ⟨RS_W hRS (sp10_W hY), hW, rfl, hm, hwn, rfl⟩, fun Z a hZ hA hk hSR ht => ?_⟩⟩
    have hp := hpost Z ((sp10_W hY).tr (spT_W hZ))
    rw [hA.1, pk_lLE (a := a.tot) (b := 0) (by omega) (by omega)]
    have hs := SR_any hSR
    refine ⟨fun z => ?_, fun z => ?_⟩
    · rw [b2i_f (fun y => by have := hs.mpr y; omega)] at hp; exact hp
    · rw [b2i_t (show 0 < LK s m from hs.mp (by omega))] at hp; exact hp
  next => exact hC.elim)
theorem p2_255 {v : Nat} (h : v < 8) : 2 ^ v ≤ 255 := by
  have : 2 ^ v ≤ 2 ^ 7 := Nat.pow_le_pow_right (by decide) (by omega)
  omega
theorem LK_12 {s : SV} (hW : WE s) (m : Nat) : LK s m ≤ 1000000000000 := SF_12 hW m _
theorem sh_lk : (shp 0 = (3, 0) ∧ shp 20 = (6, 8)) ∧ 0 < NC ∧ 20 < NC := by decide
def spL (k : Nat) : Prop := (8 ≤ k ∧ k ≤ 11) ∨ k = 20
/-- the row of the likelihoods holds L -/
def LR (X : XT) (L : Nat → Nat) : Prop := ∀ v, v < 8 → X.2.1 20 v = lN (L v)
noncomputable def LSt (s : SV) (v : Nat) : Nat := LK s (2 ^ v)
noncomputable def C_X3_findLikelihoods : CT := fun As X K => match As with
  | [.ref b] => ∃ (s : SV), (b = 0 ∧ RS X 1 s ∧ okSs s) ∧ ∀ X', Fr spL X X' → LR X' (LSt s) → K none X'
  | _ => False
set_option maxRecDepth 20000 in
set_option maxHeartbeats 4000000 in
theorem d_X3_findLikelihoods (l : Launch) : Does l yX3_findLikelihoods (wY yX3_findLikelihoods cX3_findLikelihoods 2 (retT 3)) (rmF 18) C_X3_findLikelihoods := does_of (rt := 3) (by decide +kernel) tkX3_findLikelihoods (calls := [(157, false, 2, 3, C_X3_likelihoodOf)]) (List.forall_mem_cons.mpr ⟨cr_V (d_X3_likelihoodOf l) rfl (by decide +kernel) (by decide +kernel) ⟨rfl, rfl⟩ ⟨Nat.le_of_ble_eq_true rfl, Nat.le_of_ble_eq_true rfl⟩, fun _ h => absurd h List.not_mem_nil⟩) (by
  intro As X post hC
  unfold C_X3_findLikelihoods at hC
  split at hC
  next b =>
    obtain ⟨s, ⟨rfl, hRS, hok⟩, hpost⟩ := hC
    refine ⟨Nat.le_of_ble_eq_true rfl, fun R hR => ?_⟩
    obtain ⟨⟨p0, p20⟩, q0, q20⟩ := sh_lk
    have fS : ∀ Y, Fr spL X Y → RS Y 1 s := fun Y hF => hRS.fr hF (fun k hk z => by unfold scn at hk; unfold spL at z; omega)
    have key : ∀ k i Y, i + k = 8 → Fr spL X Y → (∀ v, v < i → Y.2.1 20 v = lN (LSt s v)) → R 2 [(0, .ref 0), (1, .int (nI i))] [] Y := by
      intro k
      induction k with
      | zero =>
        intro i Y hi hF hV
        refine go hR [(2, [0, 1])] 2 ?_
        simp only [↓reduceIte, Nat.reduceEqDiff, Nat.reduceAdd, Nat.reduceLeDiff, reduceCtorEq, and_true, true_and, false_and, and_false, true_or, or_true, or_false, false_or, true_implies, false_implies, implies_true, not_true_eq_false, not_false_eq_true, eq_self, fx_s, ↓run_s, run_0, ↓rs_n, ↓rs_c, as_s, ls_n, ls_c, lc_s, lget_c, fX3_findLikelihoods_0, ↓ex_iconst, fX3_findLikelihoods_1, ↓ex_istore_n, ↓s1I_c, ↓lsto_e, ↓lrmK_n, ↓lrmK_f, ct_i, ct_l, ct_r, fX3_findLikelihoods_2, ↓ex_iload_n, ↓xI_i, ↓xIg_c, fX3_findLikelihoods_3, ↓ex_bipush, fX3_findLikelihoods_5, ↓ex_if_icmp_ge, ↓s2I_c, fX3_findLikelihoods_8, ↓ex_aload_n, ↓xR_r, ↓xRg_c, fX3_findLikelihoods_9, ↓ex_getfield, ↓s1R_c, ↓fv_3_4, fX3_findLikelihoods_12, fX3_findLikelihoods_13, fX3_findLikelihoods_14, fX3_findLikelihoods_15, fX3_findLikelihoods_16, ↓ex_ishl, fX3_findLikelihoods_17, ↓ex_invokevirtual, ↓xc_0, ↓xc_s, ↓xc_1, ↓pk_s, ↓k_s, ↓k_n, catS_n, catS_c, rOk_c, ↓pk_f, fX3_findLikelihoods_20, ↓ex_lastore, ↓sRIL_c, fX3_findLikelihoods_21, ↓ex_iinc, fX3_findLikelihoods_24, ↓ex_goto, fX3_findLikelihoods_27, ↓ex_return_, ↓rt_v, leI, nI_toInt (n := i) (by omega), tI_m5, tI_m4, tI_m3, tI_m2, tI_m1, tI_0, tI_1, tI_2, tI_3, tI_4, tI_5, tI_7, tI_8, tI_10, tI_12, tI_30, tI_31, tI_32, tI_47, tI_48, tI_57, tI_59, tI_42, tI_43, tI_45, tI_61, tI_62, tI_100, tI_120, tI_255, tI_1000]
        refine ⟨fun _ => ?_, fun z => absurd (by omega) z⟩
        refine go hR [] 2 ?_
        simp only [↓reduceIte, Nat.reduceEqDiff, Nat.reduceAdd, Nat.reduceLeDiff, reduceCtorEq, and_true, true_and, false_and, and_false, true_or, or_true, or_false, false_or, true_implies, false_implies, implies_true, not_true_eq_false, not_false_eq_true, eq_self, fx_s, ↓run_s, run_0, ↓rs_n, ↓rs_c, as_s, ls_n, ls_c, lc_s, lget_c, fX3_findLikelihoods_0, ↓ex_iconst, fX3_findLikelihoods_1, ↓ex_istore_n, ↓s1I_c, ↓lsto_e, ↓lrmK_n, ↓lrmK_f, ct_i, ct_l, ct_r, fX3_findLikelihoods_2, ↓ex_iload_n, ↓xI_i, ↓xIg_c, fX3_findLikelihoods_3, ↓ex_bipush, fX3_findLikelihoods_5, ↓ex_if_icmp_ge, ↓s2I_c, fX3_findLikelihoods_8, ↓ex_aload_n, ↓xR_r, ↓xRg_c, fX3_findLikelihoods_9, ↓ex_getfield, ↓s1R_c, ↓fv_3_4, fX3_findLikelihoods_12, fX3_findLikelihoods_13, fX3_findLikelihoods_14, fX3_findLikelihoods_15, fX3_findLikelihoods_16, ↓ex_ishl, fX3_findLikelihoods_17, ↓ex_invokevirtual, ↓xc_0, ↓xc_s, ↓xc_1, ↓pk_s, ↓k_s, ↓k_n, catS_n, catS_c, rOk_c, ↓pk_f, fX3_findLikelihoods_20, ↓ex_lastore, ↓sRIL_c, fX3_findLikelihoods_21, ↓ex_iinc, fX3_findLikelihoods_24, ↓ex_goto, fX3_findLikelihoods_27, ↓ex_return_, ↓rt_v]
        exact hpost Y hF (fun v hv => hV v (by omega))
      | succ k ih =>
        intro i Y hi hF hV
        refine go hR [(2, [0, 1])] 2 ?_
        simp only [↓reduceIte, Nat.reduceEqDiff, Nat.reduceAdd, Nat.reduceLeDiff, reduceCtorEq, and_true, true_and, false_and, and_false, true_or, or_true, or_false, false_or, true_implies, false_implies, implies_true, not_true_eq_false, not_false_eq_true, eq_self, fx_s, ↓run_s, run_0, ↓rs_n, ↓rs_c, as_s, ls_n, ls_c, lc_s, lget_c, fX3_findLikelihoods_0, ↓ex_iconst, fX3_findLikelihoods_1, ↓ex_istore_n, ↓s1I_c, ↓lsto_e, ↓lrmK_n, ↓lrmK_f, ct_i, ct_l, ct_r, fX3_findLikelihoods_2, ↓ex_iload_n, ↓xI_i, ↓xIg_c, fX3_findLikelihoods_3, ↓ex_bipush, fX3_findLikelihoods_5, ↓ex_if_icmp_ge, ↓s2I_c, fX3_findLikelihoods_8, ↓ex_aload_n, ↓xR_r, ↓xRg_c, fX3_findLikelihoods_9, ↓ex_getfield, ↓s1R_c, ↓fv_3_4, fX3_findLikelihoods_12, fX3_findLikelihoods_13, fX3_findLikelihoods_14, fX3_findLikelihoods_15, fX3_findLikelihoods_16, ↓ex_ishl, fX3_findLikelihoods_17, ↓ex_invokevirtual, ↓xc_0, ↓xc_s, ↓xc_1, ↓pk_s, ↓k_s, ↓k_n, catS_n, catS_c, rOk_c, ↓pk_f, fX3_findLikelihoods_20, ↓ex_lastore, ↓sRIL_c, fX3_findLikelihoods_21, ↓ex_iinc, fX3_findLikelihoods_24, ↓ex_goto, fX3_findLikelihoods_27, ↓ex_return_, ↓rt_v, leI, nI_toInt (n := i) (by omega), tI_m5, tI_m4, tI_m3, tI_m2, tI_m1, tI_0, tI_1, tI_2, tI_3, tI_4, tI_5, tI_7, tI_8, tI_10, tI_12, tI_30, tI_31, tI_32, tI_47, tI_48, tI_57, tI_59, tI_42, tI_43, tI_45, tI_61, tI_62, tI_100, tI_120, tI_255, tI_1000]
        refine ⟨fun z => absurd z (by omega), fun _ => ?_⟩
        refine go hR [(2, [0, 1])] 40 ?_
        simp only [↓reduceIte, Nat.reduceEqDiff, Nat.reduceAdd, Nat.reduceLeDiff, reduceCtorEq, and_true, true_and, false_and, and_false, true_or, or_true, or_false, false_or, true_implies, false_implies, implies_true, not_true_eq_false, not_false_eq_true, eq_self, fx_s, ↓run_s, run_0, ↓rs_n, ↓rs_c, as_s, ls_n, ls_c, lc_s, lget_c, fX3_findLikelihoods_0, ↓ex_iconst, fX3_findLikelihoods_1, ↓ex_istore_n, ↓s1I_c, ↓lsto_e, ↓lrmK_n, ↓lrmK_f, ct_i, ct_l, ct_r, fX3_findLikelihoods_2, ↓ex_iload_n, ↓xI_i, ↓xIg_c, fX3_findLikelihoods_3, ↓ex_bipush, fX3_findLikelihoods_5, ↓ex_if_icmp_ge, ↓s2I_c, fX3_findLikelihoods_8, ↓ex_aload_n, ↓xR_r, ↓xRg_c, fX3_findLikelihoods_9, ↓ex_getfield, ↓s1R_c, ↓fv_3_4, fX3_findLikelihoods_12, fX3_findLikelihoods_13, fX3_findLikelihoods_14, fX3_findLikelihoods_15, fX3_findLikelihoods_16, ↓ex_ishl, fX3_findLikelihoods_17, ↓ex_invokevirtual, ↓xc_0, ↓xc_s, ↓xc_1, ↓pk_s, ↓k_s, ↓k_n, catS_n, catS_c, rOk_c, ↓pk_f, fX3_findLikelihoods_20, ↓ex_lastore, ↓sRIL_c, fX3_findLikelihoods_21, ↓ex_iinc, fX3_findLikelihoods_24, ↓ex_goto, fX3_findLikelihoods_27, ↓ex_return_, ↓rt_v, p0, p20, q0, q20, ↓C_X3_likelihoodOf, shlN (e := i) (by omega), clampN (n := i) (by omega), add1N, ↓reduceIte, not_true_eq_false, not_false_eq_true, false_implies, true_implies, implies_true, and_true, true_and, and_false, false_and, or_true, true_or, or_false, false_or, Classical.not_not, ite_true, ite_false]
        refine ⟨s, 2 ^ i, ⟨fS Y hF, hok, rfl, p2_255 (by omega)⟩, fun Z hZ => ⟨vp_inN (by omega) (by omega), ih (i + 1) _ (by omega) ((hF.tr (hZ.mono (fun k hk => Or.inl hk))).pL (Or.inr rfl) _ _) (fun v hv => ?_)⟩⟩
        by_cases e : v = i
        · simp [sL_2, updL_a, e, LSt]
        · simp only [sL_2, if_true, updL_a, e, if_false]
          rw [hZ.2.1 20 (by unfold spW; omega)]
          exact hV v (by omega)
    refine go hR [(2, [0, 1])] 40 ?_
    simp only [lv_args, ↓reduceIte, Nat.reduceEqDiff, Nat.reduceAdd, Nat.reduceLeDiff, reduceCtorEq, and_true, true_and, false_and, and_false, true_or, or_true, or_false, false_or, true_implies, false_implies, implies_true, not_true_eq_false, not_false_eq_true, eq_self, fx_s, ↓run_s, run_0, ↓rs_n, ↓rs_c, as_s, ls_n, ls_c, lc_s, lget_c, fX3_findLikelihoods_0, ↓ex_iconst, fX3_findLikelihoods_1, ↓ex_istore_n, ↓s1I_c, ↓lsto_e, ↓lrmK_n, ↓lrmK_f, ct_i, ct_l, ct_r, fX3_findLikelihoods_2, ↓ex_iload_n, ↓xI_i, ↓xIg_c, fX3_findLikelihoods_3, ↓ex_bipush, fX3_findLikelihoods_5, ↓ex_if_icmp_ge, ↓s2I_c, fX3_findLikelihoods_8, ↓ex_aload_n, ↓xR_r, ↓xRg_c, fX3_findLikelihoods_9, ↓ex_getfield, ↓s1R_c, ↓fv_3_4, fX3_findLikelihoods_12, fX3_findLikelihoods_13, fX3_findLikelihoods_14, fX3_findLikelihoods_15, fX3_findLikelihoods_16, ↓ex_ishl, fX3_findLikelihoods_17, ↓ex_invokevirtual, ↓xc_0, ↓xc_s, ↓xc_1, ↓pk_s, ↓k_s, ↓k_n, catS_n, catS_c, rOk_c, ↓pk_f, fX3_findLikelihoods_20, ↓ex_lastore, ↓sRIL_c, fX3_findLikelihoods_21, ↓ex_iinc, fX3_findLikelihoods_24, ↓ex_goto, fX3_findLikelihoods_27, ↓ex_return_, ↓rt_v]
    exact key 8 0 X (by omega) (Fr.rf _ _) (fun v hv => absurd hv (by omega))
  next => exact hC.elim)
/-- how many of the first k nodes come before v -/
noncomputable def rnk (L : Nat → Nat) (v : Nat) : Nat → Nat
  | 0 => 0
  | k + 1 => rnk L v k + cif (L v < L k ∨ (L k = L v ∧ k < v)) 1 0
theorem rnk_le (L : Nat → Nat) (v : Nat) : ∀ k, rnk L v k ≤ k
  | 0 => Nat.le_refl _
  | k + 1 => by
    have := rnk_le L v k
    unfold rnk
    by_cases z : L v < L k ∨ (L k = L v ∧ k < v)
    · rw [cif_t z]; omega
    · rw [cif_f z]; omega
noncomputable def C_X3_rankOf : CT := fun As X K => match As with
  | [.ref b, .int x] => ∃ (L : Nat → Nat) (v : Nat), (b = 0 ∧ LR X L ∧ (∀ v, v < 8 → L v ≤ 1000000000000) ∧ x = nI v ∧ v < 8) ∧ K (some (.int (nI (rnk L v 8)))) X
  | _ => False
set_option maxRecDepth 20000 in
set_option maxHeartbeats 4000000 in
theorem d_X3_rankOf (l : Launch) : Does l yX3_rankOf (wY yX3_rankOf cX3_rankOf 6 (retT 0)) (rmF 0) C_X3_rankOf := does_of (rt := 0) (by decide +kernel) tkX3_rankOf (calls := []) (fun _ h => absurd h List.not_mem_nil) (by
  intro As X post hC
  unfold C_X3_rankOf at hC
  split at hC
  next b x =>
    obtain ⟨L, v, ⟨rfl, hL, hb, rfl, hv⟩, hpost⟩ := hC
    refine ⟨Nat.le_of_ble_eq_true rfl, fun R hR => ?_⟩
    obtain ⟨⟨p0, p20⟩, q0, q20⟩ := sh_lk
    have key : ∀ k i, i + k = 8 → R 4 [(0, .ref 0), (1, .int (nI v)), (2, .int (nI (rnk L v i))), (3, .int (nI i))] [] X := by
      intro k
      induction k with
      | zero =>
        intro i hi
        refine go hR [(4, [0, 1, 2, 3])] 2 ?_
        simp only [↓reduceIte, Nat.reduceEqDiff, Nat.reduceAdd, Nat.reduceLeDiff, reduceCtorEq, and_true, true_and, false_and, and_false, true_or, or_true, or_false, false_or, true_implies, false_implies, implies_true, not_true_eq_false, not_false_eq_true, eq_self, fx_s, ↓run_s, run_0, ↓rs_n, ↓rs_c, as_s, ls_n, ls_c, lc_s, lget_c, fX3_rankOf_0, ↓ex_iconst, fX3_rankOf_1, ↓ex_istore_n, ↓s1I_c, ↓lsto_e, ↓lrmK_n, ↓lrmK_f, ct_i, ct_l, ct_r, fX3_rankOf_2, fX3_rankOf_3, fX3_rankOf_4, ↓ex_iload_n, ↓xI_i, ↓xIg_c, fX3_rankOf_5, ↓ex_bipush, fX3_rankOf_7, ↓ex_if_icmp_ge, ↓s2I_c, fX3_rankOf_10, ↓ex_aload_n, ↓xR_r, ↓xRg_c, fX3_rankOf_11, ↓ex_getfield, ↓s1R_c, ↓fv_3_4, fX3_rankOf_14, fX3_rankOf_15, ↓ex_laload, ↓sRI_c, fX3_rankOf_16, fX3_rankOf_17, fX3_rankOf_20, fX3_rankOf_21, fX3_rankOf_22, ↓ex_lcmp, ↓s2L_c, fX3_rankOf_23, ↓ex_ifCond_le, fX3_rankOf_26, fX3_rankOf_27, ↓ex_goto, fX3_rankOf_30, fX3_rankOf_31, ↓ex_istore, fX3_rankOf_33, fX3_rankOf_34, fX3_rankOf_37, fX3_rankOf_38, fX3_rankOf_39, fX3_rankOf_40, fX3_rankOf_43, fX3_rankOf_44, fX3_rankOf_45, fX3_rankOf_46, ↓ex_ifCond_ne, fX3_rankOf_49, fX3_rankOf_50, fX3_rankOf_51, fX3_rankOf_54, fX3_rankOf_55, fX3_rankOf_58, fX3_rankOf_59, fX3_rankOf_61, ↓ex_iload, fX3_rankOf_63, fX3_rankOf_66, fX3_rankOf_68, ↓ex_ifCond_eq, fX3_rankOf_71, ↓ex_iinc, fX3_rankOf_74, fX3_rankOf_77, fX3_rankOf_80, fX3_rankOf_81, ↓ex_ireturn, ↓rt_i, leI, nI_toInt (n := i) (by omega), tI_m5, tI_m4, tI_m3, tI_m2, tI_m1, tI_0, tI_1, tI_2, tI_3, tI_4, tI_5, tI_7, tI_8, tI_10, tI_12, tI_30, tI_31, tI_32, tI_47, tI_48, tI_57, tI_59, tI_42, tI_43, tI_45, tI_61, tI_62, tI_100, tI_120, tI_255, tI_1000]
        refine ⟨fun _ => ?_, fun z => absurd (by omega) z⟩
        refine go hR [] 2 ?_
        simp only [↓reduceIte, Nat.reduceEqDiff, Nat.reduceAdd, Nat.reduceLeDiff, reduceCtorEq, and_true, true_and, false_and, and_false, true_or, or_true, or_false, false_or, true_implies, false_implies, implies_true, not_true_eq_false, not_false_eq_true, eq_self, fx_s, ↓run_s, run_0, ↓rs_n, ↓rs_c, as_s, ls_n, ls_c, lc_s, lget_c, fX3_rankOf_0, ↓ex_iconst, fX3_rankOf_1, ↓ex_istore_n, ↓s1I_c, ↓lsto_e, ↓lrmK_n, ↓lrmK_f, ct_i, ct_l, ct_r, fX3_rankOf_2, fX3_rankOf_3, fX3_rankOf_4, ↓ex_iload_n, ↓xI_i, ↓xIg_c, fX3_rankOf_5, ↓ex_bipush, fX3_rankOf_7, ↓ex_if_icmp_ge, ↓s2I_c, fX3_rankOf_10, ↓ex_aload_n, ↓xR_r, ↓xRg_c, fX3_rankOf_11, ↓ex_getfield, ↓s1R_c, ↓fv_3_4, fX3_rankOf_14, fX3_rankOf_15, ↓ex_laload, ↓sRI_c, fX3_rankOf_16, fX3_rankOf_17, fX3_rankOf_20, fX3_rankOf_21, fX3_rankOf_22, ↓ex_lcmp, ↓s2L_c, fX3_rankOf_23, ↓ex_ifCond_le, fX3_rankOf_26, fX3_rankOf_27, ↓ex_goto, fX3_rankOf_30, fX3_rankOf_31, ↓ex_istore, fX3_rankOf_33, fX3_rankOf_34, fX3_rankOf_37, fX3_rankOf_38, fX3_rankOf_39, fX3_rankOf_40, fX3_rankOf_43, fX3_rankOf_44, fX3_rankOf_45, fX3_rankOf_46, ↓ex_ifCond_ne, fX3_rankOf_49, fX3_rankOf_50, fX3_rankOf_51, fX3_rankOf_54, fX3_rankOf_55, fX3_rankOf_58, fX3_rankOf_59, fX3_rankOf_61, ↓ex_iload, fX3_rankOf_63, fX3_rankOf_66, fX3_rankOf_68, ↓ex_ifCond_eq, fX3_rankOf_71, ↓ex_iinc, fX3_rankOf_74, fX3_rankOf_77, fX3_rankOf_80, fX3_rankOf_81, ↓ex_ireturn, ↓rt_i]
        rw [show i = 8 by omega]
        exact hpost
      | succ k ih =>
        intro i hi
        refine go hR [(4, [0, 1, 2, 3])] 2 ?_
        simp only [↓reduceIte, Nat.reduceEqDiff, Nat.reduceAdd, Nat.reduceLeDiff, reduceCtorEq, and_true, true_and, false_and, and_false, true_or, or_true, or_false, false_or, true_implies, false_implies, implies_true, not_true_eq_false, not_false_eq_true, eq_self, fx_s, ↓run_s, run_0, ↓rs_n, ↓rs_c, as_s, ls_n, ls_c, lc_s, lget_c, fX3_rankOf_0, ↓ex_iconst, fX3_rankOf_1, ↓ex_istore_n, ↓s1I_c, ↓lsto_e, ↓lrmK_n, ↓lrmK_f, ct_i, ct_l, ct_r, fX3_rankOf_2, fX3_rankOf_3, fX3_rankOf_4, ↓ex_iload_n, ↓xI_i, ↓xIg_c, fX3_rankOf_5, ↓ex_bipush, fX3_rankOf_7, ↓ex_if_icmp_ge, ↓s2I_c, fX3_rankOf_10, ↓ex_aload_n, ↓xR_r, ↓xRg_c, fX3_rankOf_11, ↓ex_getfield, ↓s1R_c, ↓fv_3_4, fX3_rankOf_14, fX3_rankOf_15, ↓ex_laload, ↓sRI_c, fX3_rankOf_16, fX3_rankOf_17, fX3_rankOf_20, fX3_rankOf_21, fX3_rankOf_22, ↓ex_lcmp, ↓s2L_c, fX3_rankOf_23, ↓ex_ifCond_le, fX3_rankOf_26, fX3_rankOf_27, ↓ex_goto, fX3_rankOf_30, fX3_rankOf_31, ↓ex_istore, fX3_rankOf_33, fX3_rankOf_34, fX3_rankOf_37, fX3_rankOf_38, fX3_rankOf_39, fX3_rankOf_40, fX3_rankOf_43, fX3_rankOf_44, fX3_rankOf_45, fX3_rankOf_46, ↓ex_ifCond_ne, fX3_rankOf_49, fX3_rankOf_50, fX3_rankOf_51, fX3_rankOf_54, fX3_rankOf_55, fX3_rankOf_58, fX3_rankOf_59, fX3_rankOf_61, ↓ex_iload, fX3_rankOf_63, fX3_rankOf_66, fX3_rankOf_68, ↓ex_ifCond_eq, fX3_rankOf_71, ↓ex_iinc, fX3_rankOf_74, fX3_rankOf_77, fX3_rankOf_80, fX3_rankOf_81, ↓ex_ireturn, ↓rt_i, leI, nI_toInt (n := i) (by omega), tI_m5, tI_m4, tI_m3, tI_m2, tI_m1, tI_0, tI_1, tI_2, tI_3, tI_4, tI_5, tI_7, tI_8, tI_10, tI_12, tI_30, tI_31, tI_32, tI_47, tI_48, tI_57, tI_59, tI_42, tI_43, tI_45, tI_61, tI_62, tI_100, tI_120, tI_255, tI_1000]
        refine ⟨fun z => absurd z (by omega), fun _ => ?_⟩
        have b1 := hb i (by omega)
        have b2 := hb v hv
        have on1 : ((1 : Int32) = 0) = False := by decide
        refine go hR [(4, [0, 1, 2, 3])] 60 ?_
        simp only [↓reduceIte, Nat.reduceEqDiff, Nat.reduceAdd, Nat.reduceLeDiff, reduceCtorEq, and_true, true_and, false_and, and_false, true_or, or_true, or_false, false_or, true_implies, false_implies, implies_true, not_true_eq_false, not_false_eq_true, eq_self, fx_s, ↓run_s, run_0, ↓rs_n, ↓rs_c, as_s, ls_n, ls_c, lc_s, lget_c, fX3_rankOf_0, ↓ex_iconst, fX3_rankOf_1, ↓ex_istore_n, ↓s1I_c, ↓lsto_e, ↓lrmK_n, ↓lrmK_f, ct_i, ct_l, ct_r, fX3_rankOf_2, fX3_rankOf_3, fX3_rankOf_4, ↓ex_iload_n, ↓xI_i, ↓xIg_c, fX3_rankOf_5, ↓ex_bipush, fX3_rankOf_7, ↓ex_if_icmp_ge, ↓s2I_c, fX3_rankOf_10, ↓ex_aload_n, ↓xR_r, ↓xRg_c, fX3_rankOf_11, ↓ex_getfield, ↓s1R_c, ↓fv_3_4, fX3_rankOf_14, fX3_rankOf_15, ↓ex_laload, ↓sRI_c, fX3_rankOf_16, fX3_rankOf_17, fX3_rankOf_20, fX3_rankOf_21, fX3_rankOf_22, ↓ex_lcmp, ↓s2L_c, fX3_rankOf_23, ↓ex_ifCond_le, fX3_rankOf_26, fX3_rankOf_27, ↓ex_goto, fX3_rankOf_30, fX3_rankOf_31, ↓ex_istore, fX3_rankOf_33, fX3_rankOf_34, fX3_rankOf_37, fX3_rankOf_38, fX3_rankOf_39, fX3_rankOf_40, fX3_rankOf_43, fX3_rankOf_44, fX3_rankOf_45, fX3_rankOf_46, ↓ex_ifCond_ne, fX3_rankOf_49, fX3_rankOf_50, fX3_rankOf_51, fX3_rankOf_54, fX3_rankOf_55, fX3_rankOf_58, fX3_rankOf_59, fX3_rankOf_61, ↓ex_iload, fX3_rankOf_63, fX3_rankOf_66, fX3_rankOf_68, ↓ex_ifCond_eq, fX3_rankOf_71, ↓ex_iinc, fX3_rankOf_74, fX3_rankOf_77, fX3_rankOf_80, fX3_rankOf_81, ↓ex_ireturn, ↓rt_i, p0, p20, q0, q20, clampN (n := i) (by omega), clampN (n := v) (by omega), hL i (by omega), hL v hv, lg_cmp_le, lg_cmp_eq, pk_lLE (a := L i) (b := L v) (by omega) (by omega), pk_lEQ (a := L i) (b := L v) (by omega) (by omega), leN (a := v) (b := i) (by omega) (by omega), on1, add1N, ↓reduceIte, not_true_eq_false, not_false_eq_true, false_implies, true_implies, implies_true, and_true, true_and, and_false, false_and, or_true, true_or, or_false, false_or, Classical.not_not, ite_true, ite_false]
        have vi : vp_in (nI i) 8 := vp_inN (by omega) (by omega)
        have vv : vp_in (nI v) 8 := vp_inN (by omega) hv
        have hi1 := ih (i + 1) (by omega)
        unfold rnk at hi1
        have yes : (L v < L i ∨ (L i = L v ∧ i < v)) → R 4 [(0, .ref 0), (1, .int (nI v)), (2, .int (nI (rnk L v i + 1))), (3, .int (nI (i + 1)))] [] X := fun z => by rw [cif_t z] at hi1; exact hi1
        have no : ¬ (L v < L i ∨ (L i = L v ∧ i < v)) → R 4 [(0, .ref 0), (1, .int (nI v)), (2, .int (nI (rnk L v i))), (3, .int (nI (i + 1)))] [] X := fun z => by rw [cif_f z] at hi1; exact hi1
        repeat' (first | exact vi | exact vv | apply And.intro | intro _)
        all_goals first | exact yes (by omega) | exact no (by omega)
    refine go hR [(4, [0, 1, 2, 3])] 40 ?_
    simp only [lv_args, ↓reduceIte, Nat.reduceEqDiff, Nat.reduceAdd, Nat.reduceLeDiff, reduceCtorEq, and_true, true_and, false_and, and_false, true_or, or_true, or_false, false_or, true_implies, false_implies, implies_true, not_true_eq_false, not_false_eq_true, eq_self, fx_s, ↓run_s, run_0, ↓rs_n, ↓rs_c, as_s, ls_n, ls_c, lc_s, lget_c, fX3_rankOf_0, ↓ex_iconst, fX3_rankOf_1, ↓ex_istore_n, ↓s1I_c, ↓lsto_e, ↓lrmK_n, ↓lrmK_f, ct_i, ct_l, ct_r, fX3_rankOf_2, fX3_rankOf_3, fX3_rankOf_4, ↓ex_iload_n, ↓xI_i, ↓xIg_c, fX3_rankOf_5, ↓ex_bipush, fX3_rankOf_7, ↓ex_if_icmp_ge, ↓s2I_c, fX3_rankOf_10, ↓ex_aload_n, ↓xR_r, ↓xRg_c, fX3_rankOf_11, ↓ex_getfield, ↓s1R_c, ↓fv_3_4, fX3_rankOf_14, fX3_rankOf_15, ↓ex_laload, ↓sRI_c, fX3_rankOf_16, fX3_rankOf_17, fX3_rankOf_20, fX3_rankOf_21, fX3_rankOf_22, ↓ex_lcmp, ↓s2L_c, fX3_rankOf_23, ↓ex_ifCond_le, fX3_rankOf_26, fX3_rankOf_27, ↓ex_goto, fX3_rankOf_30, fX3_rankOf_31, ↓ex_istore, fX3_rankOf_33, fX3_rankOf_34, fX3_rankOf_37, fX3_rankOf_38, fX3_rankOf_39, fX3_rankOf_40, fX3_rankOf_43, fX3_rankOf_44, fX3_rankOf_45, fX3_rankOf_46, ↓ex_ifCond_ne, fX3_rankOf_49, fX3_rankOf_50, fX3_rankOf_51, fX3_rankOf_54, fX3_rankOf_55, fX3_rankOf_58, fX3_rankOf_59, fX3_rankOf_61, ↓ex_iload, fX3_rankOf_63, fX3_rankOf_66, fX3_rankOf_68, ↓ex_ifCond_eq, fX3_rankOf_71, ↓ex_iinc, fX3_rankOf_74, fX3_rankOf_77, fX3_rankOf_80, fX3_rankOf_81, ↓ex_ireturn, ↓rt_i]
    exact key 8 0 (by omega)
  next => exact hC.elim)
end PUB4
