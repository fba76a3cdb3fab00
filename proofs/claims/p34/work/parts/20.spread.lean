section SPREAD
/-- the times and the wanted times that the spread holds -/
def TM (X : XT) (t : Nat → Nat) : Prop := ∀ v, v < 8 → X.1 9 v = nI (t v) ∧ t v ≤ 31
def WN (X : XT) (w : Nat → Nat) : Prop := ∀ v, v < 8 → X.1 10 v = nI (w v) ∧ (w v ≤ 31 ∨ w v = 100)
def wI (t : Int32) : Nat := if t = -1 then 31 else cl t
theorem wI_ok {t : Int32} (h : okS t) : wI t ≤ 31 ∨ wI t = 100 := by
  unfold wI
  rcases h with rfl | rfl | ⟨n, h1, rfl⟩
  · left; decide
  · right; decide
  · left
    split
    · omega
    · rw [show cl (nI n) = n from clampN (by omega)]; omega
theorem wI_eq {t : Int32} (h : okS t) : (if t = -1 then (31 : Int32) else t) = nI (wI t) := by
  unfold wI
  rcases h with rfl | rfl | ⟨n, h1, rfl⟩
  · decide
  · decide
  · split
    · rfl
    · rw [show cl (nI n) = n from clampN (by omega)]
theorem sh_sp : (shp 8 = (1, 0) ∧ shp 9 = (5, 8) ∧ shp 10 = (5, 8) ∧ shp 11 = (6, 8)) ∧ 8 < NC ∧ 9 < NC ∧ 10 < NC ∧ 11 < NC := by decide
def C_X1_wantNothing : CT := fun As X K => match As with
  | [.ref b] => b = 8 ∧ ∀ X', Fr (fun k => k = 10) X X' → WN X' (fun _ => 100) → K none X'
  | _ => False
set_option maxRecDepth 20000 in
set_option maxHeartbeats 4000000 in
theorem d_X1_wantNothing (l : Launch) : Does l yX1_wantNothing (wY yX1_wantNothing cX1_wantNothing 2 (retT 3)) (rmF 0) C_X1_wantNothing := does_of (rt := 3) (by decide +kernel) tkX1_wantNothing (calls := []) (fun _ h => absurd h List.not_mem_nil) (by
  intro As X post hC
  unfold C_X1_wantNothing at hC
  split at hC
  next b =>
    obtain ⟨rfl, hpost⟩ := hC
    refine ⟨Nat.le_of_ble_eq_true rfl, fun R hR => ?_⟩
    obtain ⟨⟨p8, p9, p10, p11⟩, q8, q9, q10, q11⟩ := sh_sp
    have key : ∀ k i Y, i + k = 8 → Fr (fun k => k = 10) X Y → (∀ v, v < i → Y.1 10 v = 100) → R 2 [(0, .ref 8), (1, .int (nI i))] [] Y := by
      intro k
      induction k with
      | zero =>
        intro i Y hi hF hV
        refine go hR [(2, [0, 1])] 60 ?_
        simp only [↓reduceIte, Nat.reduceEqDiff, Nat.reduceAdd, Nat.reduceLeDiff, reduceCtorEq, and_true, true_and, false_and, and_false, true_or, or_true, or_false, false_or, true_implies, false_implies, implies_true, not_true_eq_false, not_false_eq_true, eq_self, fx_s, ↓run_s, run_0, ↓rs_n, ↓rs_c, as_s, ls_n, ls_c, lc_s, lget_c, fX1_wantNothing_0, ↓ex_iconst, fX1_wantNothing_1, ↓ex_istore_n, ↓s1I_c, ↓lsto_e, ↓lrmK_n, ↓lrmK_f, ct_i, ct_l, ct_r, fX1_wantNothing_2, ↓ex_iload_n, ↓xI_i, ↓xIg_c, fX1_wantNothing_3, ↓ex_bipush, fX1_wantNothing_5, ↓ex_if_icmp_ge, ↓s2I_c, fX1_wantNothing_8, ↓ex_aload_n, ↓xR_r, ↓xRg_c, fX1_wantNothing_9, ↓ex_getfield, ↓s1R_c, ↓fv_1_1, fX1_wantNothing_12, fX1_wantNothing_13, fX1_wantNothing_15, ↓ex_iastore, ↓sRII_c, fX1_wantNothing_16, ↓ex_iinc, fX1_wantNothing_19, ↓ex_goto, fX1_wantNothing_22, ↓ex_return_, ↓rt_v, p8, p10, q8, q10, leI, nI_toInt (n := i) (by omega), tI_m5, tI_m4, tI_m3, tI_m2, tI_m1, tI_0, tI_1, tI_2, tI_3, tI_4, tI_5, tI_7, tI_8, tI_10, tI_12, tI_30, tI_31, tI_32, tI_47, tI_48, tI_57, tI_59, tI_42, tI_43, tI_45, tI_61, tI_62, tI_100, tI_120, tI_255, tI_1000]
        exact ⟨fun _ => hpost Y hF (fun v hv => ⟨hV v (by omega), Or.inr rfl⟩), fun z => absurd (by omega) z⟩
      | succ k ih =>
        intro i Y hi hF hV
        refine go hR [(2, [0, 1])] 60 ?_
        simp only [↓reduceIte, Nat.reduceEqDiff, Nat.reduceAdd, Nat.reduceLeDiff, reduceCtorEq, and_true, true_and, false_and, and_false, true_or, or_true, or_false, false_or, true_implies, false_implies, implies_true, not_true_eq_false, not_false_eq_true, eq_self, fx_s, ↓run_s, run_0, ↓rs_n, ↓rs_c, as_s, ls_n, ls_c, lc_s, lget_c, fX1_wantNothing_0, ↓ex_iconst, fX1_wantNothing_1, ↓ex_istore_n, ↓s1I_c, ↓lsto_e, ↓lrmK_n, ↓lrmK_f, ct_i, ct_l, ct_r, fX1_wantNothing_2, ↓ex_iload_n, ↓xI_i, ↓xIg_c, fX1_wantNothing_3, ↓ex_bipush, fX1_wantNothing_5, ↓ex_if_icmp_ge, ↓s2I_c, fX1_wantNothing_8, ↓ex_aload_n, ↓xR_r, ↓xRg_c, fX1_wantNothing_9, ↓ex_getfield, ↓s1R_c, ↓fv_1_1, fX1_wantNothing_12, fX1_wantNothing_13, fX1_wantNothing_15, ↓ex_iastore, ↓sRII_c, fX1_wantNothing_16, ↓ex_iinc, fX1_wantNothing_19, ↓ex_goto, fX1_wantNothing_22, ↓ex_return_, ↓rt_v, p8, p10, q8, q10, leI, nI_toInt (n := i) (by omega), tI_m5, tI_m4, tI_m3, tI_m2, tI_m1, tI_0, tI_1, tI_2, tI_3, tI_4, tI_5, tI_7, tI_8, tI_10, tI_12, tI_30, tI_31, tI_32, tI_47, tI_48, tI_57, tI_59, tI_42, tI_43, tI_45, tI_61, tI_62, tI_100, tI_120, tI_255, tI_1000, clampN (n := i) (by omega), add1N]
        refine ⟨fun z => absurd z (by omega), fun _ => ⟨vp_inN (by omega) (by omega), ih (i + 1) _ (by omega) (Fr.pI (P := fun k => k = 10) hF rfl _ _) (fun v hv => ?_)⟩⟩
        by_cases e : v = i
        · simp [sI_1, upd_a, e]
        · simp [sI_1, upd_a, e, hV v (by omega)]
    refine go hR [(2, [0, 1])] 60 ?_
    simp only [lv_args, ↓reduceIte, Nat.reduceEqDiff, Nat.reduceAdd, Nat.reduceLeDiff, reduceCtorEq, and_true, true_and, false_and, and_false, true_or, or_true, or_false, false_or, true_implies, false_implies, implies_true, not_true_eq_false, not_false_eq_true, eq_self, fx_s, ↓run_s, run_0, ↓rs_n, ↓rs_c, as_s, ls_n, ls_c, lc_s, lget_c, fX1_wantNothing_0, ↓ex_iconst, fX1_wantNothing_1, ↓ex_istore_n, ↓s1I_c, ↓lsto_e, ↓lrmK_n, ↓lrmK_f, ct_i, ct_l, ct_r, fX1_wantNothing_2, ↓ex_iload_n, ↓xI_i, ↓xIg_c, fX1_wantNothing_3, ↓ex_bipush, fX1_wantNothing_5, ↓ex_if_icmp_ge, ↓s2I_c, fX1_wantNothing_8, ↓ex_aload_n, ↓xR_r, ↓xRg_c, fX1_wantNothing_9, ↓ex_getfield, ↓s1R_c, ↓fv_1_1, fX1_wantNothing_12, fX1_wantNothing_13, fX1_wantNothing_15, ↓ex_iastore, ↓sRII_c, fX1_wantNothing_16, ↓ex_iinc, fX1_wantNothing_19, ↓ex_goto, fX1_wantNothing_22, ↓ex_return_, ↓rt_v]
    exact key 8 0 X (by omega) (Fr.rf _ _) (fun v hv => absurd hv (by omega))
  next => exact hC.elim)
def wOnly (k : Nat) (t : Int32) (u : Nat) : Nat := if u = k then wI t else 100
def C_X1_wantOnly : CT := fun As X K => match As with
  | [.ref b, .int v, .int t] => ∃ k, (b = 8 ∧ v = nI k ∧ k < 8 ∧ okS t) ∧ ∀ X', Fr (fun k => k = 10) X X' → WN X' (wOnly k t) → K none X'
  | _ => False
theorem inR_n {q : Nat} (h : q < 8) : inR (nI q) 0 7 := by unfold inR; rw [nI_toInt (by omega)]; omega
set_option maxRecDepth 20000 in
set_option maxHeartbeats 4000000 in
theorem d_X1_wantOnly (l : Launch) : Does l yX1_wantOnly (wY yX1_wantOnly cX1_wantOnly 3 (retT 3)) (rmF 1) C_X1_wantOnly := does_of (rt := 3) (by decide +kernel) tkX1_wantOnly (calls := [(40, false, 1, 1, C_X1_wantNothing), (43, true, 1, 3, C_X3_isNode)]) (List.forall_mem_cons.mpr ⟨cr_V (d_X1_wantNothing l) rfl (by decide +kernel) (by decide +kernel) ⟨rfl, rfl⟩ ⟨Nat.le_of_ble_eq_true rfl, Nat.le_of_ble_eq_true rfl⟩, List.forall_mem_cons.mpr ⟨cr_NS (d_X3_isNode l) (by decide +kernel) (by decide +kernel) (by decide +kernel) ⟨rfl, rfl⟩ ⟨Nat.le_of_ble_eq_true rfl, Nat.le_of_ble_eq_true rfl⟩, fun _ h => absurd h List.not_mem_nil⟩⟩) (by
  intro As X post hC
  unfold C_X1_wantOnly at hC
  split at hC
  next b v t =>
    obtain ⟨k, ⟨rfl, rfl, hk, ht⟩, hpost⟩ := hC
    refine ⟨Nat.le_of_ble_eq_true rfl, fun R hR => ?_⟩
    obtain ⟨⟨p8, p9, p10, p11⟩, q8, q9, q10, q11⟩ := sh_sp
    refine go hR [] 60 ?_
    simp only [lv_args, ↓reduceIte, Nat.reduceEqDiff, Nat.reduceAdd, Nat.reduceLeDiff, reduceCtorEq, and_true, true_and, false_and, and_false, true_or, or_true, or_false, false_or, true_implies, false_implies, implies_true, not_true_eq_false, not_false_eq_true, eq_self, fx_s, ↓run_s, run_0, ↓rs_n, ↓rs_c, as_s, ls_n, ls_c, lc_s, lget_c, fX1_wantOnly_0, ↓ex_aload_n, ↓xR_r, ↓xRg_c, fX1_wantOnly_1, ↓ex_invokevirtual, ↓xc_0, ↓xc_s, ↓xc_1, ↓pk_s, ↓k_s, ↓k_n, catS_n, catS_c, rOk_c, ct_i, ct_l, ct_r, ↓pk_f, fX1_wantOnly_4, ↓ex_iload_n, ↓xI_i, ↓xIg_c, fX1_wantOnly_5, ↓ex_invokestatic, ↓pk_t, fX1_wantOnly_8, ↓ex_ifCond_eq, ↓s1I_c, fX1_wantOnly_11, fX1_wantOnly_12, ↓ex_getfield, ↓s1R_c, ↓fv_1_1, fX1_wantOnly_15, fX1_wantOnly_16, fX1_wantOnly_17, ↓ex_iconst, fX1_wantOnly_18, ↓ex_if_icmp_ne, ↓s2I_c, fX1_wantOnly_21, ↓ex_bipush, fX1_wantOnly_23, ↓ex_goto, fX1_wantOnly_26, fX1_wantOnly_27, ↓ex_iastore, ↓sRII_c, fX1_wantOnly_28, ↓ex_return_, ↓rt_v, p8, p10, q8, q10, ↓C_X1_wantNothing, ↓C_X3_isNode, b2i_0, inR_n hk, clampN (n := k) (by omega), ↓reduceIte, not_true_eq_false, not_false_eq_true, false_implies, true_implies, implies_true, and_true, true_and, and_false, false_and, or_true, true_or, or_false, false_or, Classical.not_not, ite_true, ite_false]
    intro Y hF hW
    have hw := wI_eq ht
    have fin : ∀ x : Int32, x = nI (wI t) → post none (sI Y 10 k x) := fun x hx => hpost _ (Fr.pI (P := fun k => k = 10) hF rfl _ _) (fun u hu => by
      unfold wOnly
      by_cases e : u = k
      · rw [if_pos e, hx]
        exact ⟨by simp [sI_1, upd_a, e], wI_ok ht⟩
      · rw [if_neg e]
        exact ⟨by simp [sI_1, upd_a, e, (hW u hu).1], Or.inr rfl⟩)
    have hv : vp_in (nI k) 8 := vp_inN (by omega) hk
    by_cases e : t = -1
    · rw [if_pos e] at hw
      exact ⟨fun z => absurd e z, fun _ => ⟨hv, fin _ hw⟩⟩
    · rw [if_neg e] at hw
      exact ⟨fun _ => ⟨hv, fin _ hw⟩, fun z => absurd z e⟩
  next => exact hC.elim)
def C_X1_wantAsSeen : CT := fun As X K => match As with
  | [.ref b, .ref o] => ∃ s : SV, (b = 8 ∧ o = 1 ∧ RS X 1 s ∧ ∀ v, v < 8 → okS (s.S v)) ∧ ∀ X', Fr (fun k => k = 10) X X' → WN X' (fun v => wI (s.S v)) → K none X'
  | _ => False
set_option maxRecDepth 20000 in
set_option maxHeartbeats 4000000 in
theorem d_X1_wantAsSeen (l : Launch) : Does l yX1_wantAsSeen (wY yX1_wantAsSeen cX1_wantAsSeen 4 (retT 3)) (rmF 0) C_X1_wantAsSeen := does_of (rt := 3) (by decide +kernel) tkX1_wantAsSeen (calls := []) (fun _ h => absurd h List.not_mem_nil) (by
  intro As X post hC
  unfold C_X1_wantAsSeen at hC
  split at hC
  next b o =>
    obtain ⟨s, ⟨rfl, rfl, ⟨d1, d2, d3, d4, d5⟩, hok⟩, hpost⟩ := hC
    refine ⟨Nat.le_of_ble_eq_true rfl, fun R hR => ?_⟩
    obtain ⟨⟨p8, p9, p10, p11⟩, q8, q9, q10, q11⟩ := sh_sp
    obtain ⟨⟨p0, p1, p2, p3, p4, p5, p6⟩, q0, q1, q2, q3, q4, q5, q6⟩ := sh_base
    have key : ∀ k i Y, i + k = 8 → Fr (fun k => k = 10) X Y → (∀ v, v < i → Y.1 10 v = nI (wI (s.S v))) → R 2 [(0, .ref 8), (1, .ref 1), (2, .int (nI i))] [] Y := by
      intro k
      induction k with
      | zero =>
        intro i Y hi hF hV
        refine go hR [(2, [0, 1, 2])] 60 ?_
        simp only [↓reduceIte, Nat.reduceEqDiff, Nat.reduceAdd, Nat.reduceLeDiff, reduceCtorEq, and_true, true_and, false_and, and_false, true_or, or_true, or_false, false_or, true_implies, false_implies, implies_true, not_true_eq_false, not_false_eq_true, eq_self, fx_s, ↓run_s, run_0, ↓rs_n, ↓rs_c, as_s, ls_n, ls_c, lc_s, lget_c, fX1_wantAsSeen_0, ↓ex_iconst, fX1_wantAsSeen_1, ↓ex_istore_n, ↓s1I_c, ↓lsto_e, ↓lrmK_n, ↓lrmK_f, ct_i, ct_l, ct_r, fX1_wantAsSeen_2, ↓ex_iload_n, ↓xI_i, ↓xIg_c, fX1_wantAsSeen_3, ↓ex_bipush, fX1_wantAsSeen_5, ↓ex_if_icmp_ge, ↓s2I_c, fX1_wantAsSeen_8, ↓ex_aload_n, ↓xR_r, ↓xRg_c, fX1_wantAsSeen_9, ↓ex_getfield, ↓s1R_c, ↓fv_0_6, fX1_wantAsSeen_12, fX1_wantAsSeen_13, ↓ex_iaload, ↓sRI_c, ↓scrR_n, fX1_wantAsSeen_14, fX1_wantAsSeen_15, fX1_wantAsSeen_16, ↓fv_1_1, fX1_wantAsSeen_19, fX1_wantAsSeen_20, fX1_wantAsSeen_21, fX1_wantAsSeen_22, ↓ex_if_icmp_ne, fX1_wantAsSeen_25, fX1_wantAsSeen_27, ↓ex_goto, fX1_wantAsSeen_30, fX1_wantAsSeen_31, ↓ex_iastore, ↓sRII_c, fX1_wantAsSeen_32, ↓ex_iinc, fX1_wantAsSeen_35, fX1_wantAsSeen_38, ↓ex_return_, ↓rt_v, leI, nI_toInt (n := i) (by omega), tI_m5, tI_m4, tI_m3, tI_m2, tI_m1, tI_0, tI_1, tI_2, tI_3, tI_4, tI_5, tI_7, tI_8, tI_10, tI_12, tI_30, tI_31, tI_32, tI_47, tI_48, tI_57, tI_59, tI_42, tI_43, tI_45, tI_61, tI_62, tI_100, tI_120, tI_255, tI_1000]
        exact ⟨fun _ => hpost Y hF (fun v hv => ⟨hV v (by omega), wI_ok (hok v hv)⟩), fun z => absurd (by omega) z⟩
      | succ k ih =>
        intro i Y hi hF hV
        refine go hR [(2, [0, 1, 2])] 60 ?_
        have hs : Y.1 6 i = s.S i := by rw [hF.1 6 (by omega)]; exact d4 i (by omega)
        simp only [↓reduceIte, Nat.reduceEqDiff, Nat.reduceAdd, Nat.reduceLeDiff, reduceCtorEq, and_true, true_and, false_and, and_false, true_or, or_true, or_false, false_or, true_implies, false_implies, implies_true, not_true_eq_false, not_false_eq_true, eq_self, fx_s, ↓run_s, run_0, ↓rs_n, ↓rs_c, as_s, ls_n, ls_c, lc_s, lget_c, fX1_wantAsSeen_0, ↓ex_iconst, fX1_wantAsSeen_1, ↓ex_istore_n, ↓s1I_c, ↓lsto_e, ↓lrmK_n, ↓lrmK_f, ct_i, ct_l, ct_r, fX1_wantAsSeen_2, ↓ex_iload_n, ↓xI_i, ↓xIg_c, fX1_wantAsSeen_3, ↓ex_bipush, fX1_wantAsSeen_5, ↓ex_if_icmp_ge, ↓s2I_c, fX1_wantAsSeen_8, ↓ex_aload_n, ↓xR_r, ↓xRg_c, fX1_wantAsSeen_9, ↓ex_getfield, ↓s1R_c, ↓fv_0_6, fX1_wantAsSeen_12, fX1_wantAsSeen_13, ↓ex_iaload, ↓sRI_c, ↓scrR_n, fX1_wantAsSeen_14, fX1_wantAsSeen_15, fX1_wantAsSeen_16, ↓fv_1_1, fX1_wantAsSeen_19, fX1_wantAsSeen_20, fX1_wantAsSeen_21, fX1_wantAsSeen_22, ↓ex_if_icmp_ne, fX1_wantAsSeen_25, fX1_wantAsSeen_27, ↓ex_goto, fX1_wantAsSeen_30, fX1_wantAsSeen_31, ↓ex_iastore, ↓sRII_c, fX1_wantAsSeen_32, ↓ex_iinc, fX1_wantAsSeen_35, fX1_wantAsSeen_38, ↓ex_return_, ↓rt_v, p1, p6, p8, p10, q1, q6, q8, q10, leI, nI_toInt (n := i) (by omega), tI_m5, tI_m4, tI_m3, tI_m2, tI_m1, tI_0, tI_1, tI_2, tI_3, tI_4, tI_5, tI_7, tI_8, tI_10, tI_12, tI_30, tI_31, tI_32, tI_47, tI_48, tI_57, tI_59, tI_42, tI_43, tI_45, tI_61, tI_62, tI_100, tI_120, tI_255, tI_1000, clampN (n := i) (by omega), add1N, hs]
        have hv : vp_in (nI i) 8 := vp_inN (by omega) (by omega)
        have hw := wI_eq (hok i (by omega))
        have fin : ∀ x : Int32, x = nI (wI (s.S i)) → R 2 [(0, .ref 8), (1, .ref 1), (2, .int (nI (i + 1)))] [] (sI Y 10 i x) := fun x hx => ih (i + 1) _ (by omega) (Fr.pI (P := fun k => k = 10) hF rfl _ _) (fun v hv => by
          by_cases e : v = i
          · simp [sI_1, upd_a, e, hx]
          · simp [sI_1, upd_a, e, hV v (by omega)])
        refine ⟨fun z => absurd z (by omega), fun _ => ⟨hv, ?_⟩⟩
        by_cases e : s.S i = -1
        · rw [if_pos e] at hw
          exact ⟨fun z => absurd e z, fun _ => ⟨hv, fin _ hw⟩⟩
        · rw [if_neg e] at hw
          exact ⟨fun _ => ⟨hv, fin _ hw⟩, fun z => absurd z e⟩
    refine go hR [(2, [0, 1, 2])] 60 ?_
    simp only [lv_args, ↓reduceIte, Nat.reduceEqDiff, Nat.reduceAdd, Nat.reduceLeDiff, reduceCtorEq, and_true, true_and, false_and, and_false, true_or, or_true, or_false, false_or, true_implies, false_implies, implies_true, not_true_eq_false, not_false_eq_true, eq_self, fx_s, ↓run_s, run_0, ↓rs_n, ↓rs_c, as_s, ls_n, ls_c, lc_s, lget_c, fX1_wantAsSeen_0, ↓ex_iconst, fX1_wantAsSeen_1, ↓ex_istore_n, ↓s1I_c, ↓lsto_e, ↓lrmK_n, ↓lrmK_f, ct_i, ct_l, ct_r, fX1_wantAsSeen_2, ↓ex_iload_n, ↓xI_i, ↓xIg_c, fX1_wantAsSeen_3, ↓ex_bipush, fX1_wantAsSeen_5, ↓ex_if_icmp_ge, ↓s2I_c, fX1_wantAsSeen_8, ↓ex_aload_n, ↓xR_r, ↓xRg_c, fX1_wantAsSeen_9, ↓ex_getfield, ↓s1R_c, ↓fv_0_6, fX1_wantAsSeen_12, fX1_wantAsSeen_13, ↓ex_iaload, ↓sRI_c, ↓scrR_n, fX1_wantAsSeen_14, fX1_wantAsSeen_15, fX1_wantAsSeen_16, ↓fv_1_1, fX1_wantAsSeen_19, fX1_wantAsSeen_20, fX1_wantAsSeen_21, fX1_wantAsSeen_22, ↓ex_if_icmp_ne, fX1_wantAsSeen_25, fX1_wantAsSeen_27, ↓ex_goto, fX1_wantAsSeen_30, fX1_wantAsSeen_31, ↓ex_iastore, ↓sRII_c, fX1_wantAsSeen_32, ↓ex_iinc, fX1_wantAsSeen_35, fX1_wantAsSeen_38, ↓ex_return_, ↓rt_v]
    exact key 8 0 X (by omega) (Fr.rf _ _) (fun v hv => absurd hv (by omega))
  next => exact hC.elim)
/-- the times at the start m -/
def t0 (m v : Nat) : Nat := if m.testBit v then 0 else 31
def C_X1_begin : CT := fun As X K => match As with
  | [.ref b, .int st] => ∃ m : Nat, (b = 8 ∧ st = nI m ∧ m ≤ 255) ∧ ∀ X', Fr (fun k => k = 9) X X' → TM X' (t0 m) → K none X'
  | _ => False
set_option maxRecDepth 20000 in
set_option maxHeartbeats 4000000 in
theorem d_X1_begin (l : Launch) : Does l yX1_begin (wY yX1_begin cX1_begin 3 (retT 3)) (rmF 0) C_X1_begin := does_of (rt := 3) (by decide +kernel) tkX1_begin (calls := []) (fun _ h => absurd h List.not_mem_nil) (by
  intro As X post hC
  unfold C_X1_begin at hC
  split at hC
  next b st =>
    obtain ⟨m, ⟨rfl, rfl, hm⟩, hpost⟩ := hC
    refine ⟨Nat.le_of_ble_eq_true rfl, fun R hR => ?_⟩
    obtain ⟨⟨p8, p9, p10, p11⟩, q8, q9, q10, q11⟩ := sh_sp
    have key : ∀ k i Y, i + k = 8 → Fr (fun k => k = 9) X Y → (∀ v, v < i → Y.1 9 v = nI (t0 m v)) → R 2 [(0, .ref 8), (1, .int (nI m)), (2, .int (nI i))] [] Y := by
      intro k
      induction k with
      | zero =>
        intro i Y hi hF hV
        refine go hR [(2, [0, 1, 2])] 60 ?_
        simp only [↓reduceIte, Nat.reduceEqDiff, Nat.reduceAdd, Nat.reduceLeDiff, reduceCtorEq, and_true, true_and, false_and, and_false, true_or, or_true, or_false, false_or, true_implies, false_implies, implies_true, not_true_eq_false, not_false_eq_true, eq_self, fx_s, ↓run_s, run_0, ↓rs_n, ↓rs_c, as_s, ls_n, ls_c, lc_s, lget_c, fX1_begin_0, ↓ex_iconst, fX1_begin_1, ↓ex_istore_n, ↓s1I_c, ↓lsto_e, ↓lrmK_n, ↓lrmK_f, ct_i, ct_l, ct_r, fX1_begin_2, ↓ex_iload_n, ↓xI_i, ↓xIg_c, fX1_begin_3, ↓ex_bipush, fX1_begin_5, ↓ex_if_icmp_ge, ↓s2I_c, fX1_begin_8, ↓ex_aload_n, ↓xR_r, ↓xRg_c, fX1_begin_9, ↓ex_getfield, ↓s1R_c, ↓fv_1_0, fX1_begin_12, fX1_begin_13, fX1_begin_14, fX1_begin_15, ↓ex_ishr, fX1_begin_16, fX1_begin_17, ↓ex_iand, fX1_begin_18, fX1_begin_19, ↓ex_if_icmp_ne, fX1_begin_22, fX1_begin_23, ↓ex_goto, fX1_begin_26, fX1_begin_28, ↓ex_iastore, ↓sRII_c, fX1_begin_29, ↓ex_iinc, fX1_begin_32, fX1_begin_35, ↓ex_return_, ↓rt_v, leI, nI_toInt (n := i) (by omega), tI_m5, tI_m4, tI_m3, tI_m2, tI_m1, tI_0, tI_1, tI_2, tI_3, tI_4, tI_5, tI_7, tI_8, tI_10, tI_12, tI_30, tI_31, tI_32, tI_47, tI_48, tI_57, tI_59, tI_42, tI_43, tI_45, tI_61, tI_62, tI_100, tI_120, tI_255, tI_1000]
        exact ⟨fun _ => hpost Y hF (fun v hv => ⟨hV v (by omega), by unfold t0; split <;> omega⟩), fun z => absurd (by omega) z⟩
      | succ k ih =>
        intro i Y hi hF hV
        refine go hR [(2, [0, 1, 2])] 60 ?_
        simp only [↓reduceIte, Nat.reduceEqDiff, Nat.reduceAdd, Nat.reduceLeDiff, reduceCtorEq, and_true, true_and, false_and, and_false, true_or, or_true, or_false, false_or, true_implies, false_implies, implies_true, not_true_eq_false, not_false_eq_true, eq_self, fx_s, ↓run_s, run_0, ↓rs_n, ↓rs_c, as_s, ls_n, ls_c, lc_s, lget_c, fX1_begin_0, ↓ex_iconst, fX1_begin_1, ↓ex_istore_n, ↓s1I_c, ↓lsto_e, ↓lrmK_n, ↓lrmK_f, ct_i, ct_l, ct_r, fX1_begin_2, ↓ex_iload_n, ↓xI_i, ↓xIg_c, fX1_begin_3, ↓ex_bipush, fX1_begin_5, ↓ex_if_icmp_ge, ↓s2I_c, fX1_begin_8, ↓ex_aload_n, ↓xR_r, ↓xRg_c, fX1_begin_9, ↓ex_getfield, ↓s1R_c, ↓fv_1_0, fX1_begin_12, fX1_begin_13, fX1_begin_14, fX1_begin_15, ↓ex_ishr, fX1_begin_16, fX1_begin_17, ↓ex_iand, fX1_begin_18, fX1_begin_19, ↓ex_if_icmp_ne, fX1_begin_22, fX1_begin_23, ↓ex_goto, fX1_begin_26, fX1_begin_28, ↓ex_iastore, ↓sRII_c, fX1_begin_29, ↓ex_iinc, fX1_begin_32, fX1_begin_35, ↓ex_return_, ↓rt_v, p8, p9, q8, q9, bit1 (m := m) (e := i) (by omega) (by omega), leI, nI_toInt (n := i) (by omega), tI_m5, tI_m4, tI_m3, tI_m2, tI_m1, tI_0, tI_1, tI_2, tI_3, tI_4, tI_5, tI_7, tI_8, tI_10, tI_12, tI_30, tI_31, tI_32, tI_47, tI_48, tI_57, tI_59, tI_42, tI_43, tI_45, tI_61, tI_62, tI_100, tI_120, tI_255, tI_1000, clampN (n := i) (by omega), add1N]
        have hv : vp_in (nI i) 8 := vp_inN (by omega) (by omega)
        have fin : ∀ x : Int32, x = nI (t0 m i) → R 2 [(0, .ref 8), (1, .int (nI m)), (2, .int (nI (i + 1)))] [] (sI Y 9 i x) := fun x hx => ih (i + 1) _ (by omega) (Fr.pI (P := fun k => k = 9) hF rfl _ _) (fun v hv => by
          by_cases e : v = i
          · simp [sI_1, upd_a, e, hx]
          · simp [sI_1, upd_a, e, hV v (by omega)])
        refine ⟨fun z => absurd z (by omega), fun _ => ⟨fun z => ⟨hv, fin _ ?_⟩, fun z => ⟨hv, fin _ ?_⟩⟩⟩
        · unfold t0; rw [if_neg z]; rfl
        · unfold t0; rw [if_pos z]; rfl
    refine go hR [(2, [0, 1, 2])] 60 ?_
    simp only [lv_args, ↓reduceIte, Nat.reduceEqDiff, Nat.reduceAdd, Nat.reduceLeDiff, reduceCtorEq, and_true, true_and, false_and, and_false, true_or, or_true, or_false, false_or, true_implies, false_implies, implies_true, not_true_eq_false, not_false_eq_true, eq_self, fx_s, ↓run_s, run_0, ↓rs_n, ↓rs_c, as_s, ls_n, ls_c, lc_s, lget_c, fX1_begin_0, ↓ex_iconst, fX1_begin_1, ↓ex_istore_n, ↓s1I_c, ↓lsto_e, ↓lrmK_n, ↓lrmK_f, ct_i, ct_l, ct_r, fX1_begin_2, ↓ex_iload_n, ↓xI_i, ↓xIg_c, fX1_begin_3, ↓ex_bipush, fX1_begin_5, ↓ex_if_icmp_ge, ↓s2I_c, fX1_begin_8, ↓ex_aload_n, ↓xR_r, ↓xRg_c, fX1_begin_9, ↓ex_getfield, ↓s1R_c, ↓fv_1_0, fX1_begin_12, fX1_begin_13, fX1_begin_14, fX1_begin_15, ↓ex_ishr, fX1_begin_16, fX1_begin_17, ↓ex_iand, fX1_begin_18, fX1_begin_19, ↓ex_if_icmp_ne, fX1_begin_22, fX1_begin_23, ↓ex_goto, fX1_begin_26, fX1_begin_28, ↓ex_iastore, ↓sRII_c, fX1_begin_29, ↓ex_iinc, fX1_begin_32, fX1_begin_35, ↓ex_return_, ↓rt_v]
    exact key 8 0 X (by omega) (Fr.rf _ _) (fun v hv => absurd hv (by omega))
  next => exact hC.elim)
/-- what the edges' ends and numbers must be -/
def WE (s : SV) : Prop := s.n ≤ 12 ∧ (∀ e, e < s.n → s.F e < 8 ∧ s.T e < 8 ∧ s.W e ≤ 10 ∧ 1 ≤ s.D e ∧ s.D e ≤ 5) ∧ s.H ≤ 30
theorem WF.we {s : SV} (h : WF s) : WE s := ⟨h.1, fun e he => by obtain ⟨a1, a2, a3, a4, a5, a6⟩ := h.2.1 e he; exact ⟨a1, a2, a4, a5, a6⟩, h.2.2.2.1⟩
/-- when the rumour comes along edge e -/
def arr (s : SV) (t : Nat → Nat) (e : Nat) : Nat := if t (s.F e) = 31 then 31 else if t (s.F e) + s.D e ≤ s.H then t (s.F e) + s.D e else 31
theorem arr_le {s : SV} (h : s.H ≤ 30) (t : Nat → Nat) (e : Nat) : arr s t e ≤ 31 := by
  unfold arr
  split
  · omega
  · split <;> omega
def C_X1_arrivalBy : CT := fun As X K => match As with
  | [.ref b, .ref o, .int e] => ∃ (s : SV) (t : Nat → Nat) (k : Nat), (b = 8 ∧ o = 1 ∧ RS X 1 s ∧ WE s ∧ TM X t ∧ e = nI k ∧ k < s.n) ∧ K (some (.int (nI (arr s t k)))) X
  | _ => False
set_option maxRecDepth 20000 in
set_option maxHeartbeats 4000000 in
theorem d_X1_arrivalBy (l : Launch) : Does l yX1_arrivalBy (wY yX1_arrivalBy cX1_arrivalBy 5 (retT 0)) (rmF 1) C_X1_arrivalBy := does_of (rt := 0) (by decide +kernel) tkX1_arrivalBy (calls := [(43, true, 1, 3, C_X3_isNode)]) (List.forall_mem_cons.mpr ⟨cr_NS (d_X3_isNode l) (by decide +kernel) (by decide +kernel) (by decide +kernel) ⟨rfl, rfl⟩ ⟨Nat.le_of_ble_eq_true rfl, Nat.le_of_ble_eq_true rfl⟩, fun _ h => absurd h List.not_mem_nil⟩) (by
  intro As X post hC
  unfold C_X1_arrivalBy at hC
  split at hC
  next b o e =>
    obtain ⟨s, t, k, ⟨rfl, rfl, ⟨d1, d2, d3, d4, d5⟩, ⟨w1, w2, w3⟩, ht, rfl, hk⟩, hpost⟩ := hC
    refine ⟨Nat.le_of_ble_eq_true rfl, fun R hR => ?_⟩
    obtain ⟨⟨p8, p9, p10, p11⟩, q8, q9, q10, q11⟩ := sh_sp
    obtain ⟨⟨p0, p1, p2, p3, p4, p5, p6⟩, q0, q1, q2, q3, q4, q5, q6⟩ := sh_base
    obtain ⟨e1, e2, e3, e4⟩ := d2 k hk
    obtain ⟨f1, f2, f3, f4, f5⟩ := w2 k hk
    obtain ⟨g1, g2⟩ := ht (s.F k) f1
    refine go hR [] 80 ?_
    simp only [lv_args, ↓reduceIte, Nat.reduceEqDiff, Nat.reduceAdd, Nat.reduceLeDiff, reduceCtorEq, and_true, true_and, false_and, and_false, true_or, or_true, or_false, false_or, true_implies, false_implies, implies_true, not_true_eq_false, not_false_eq_true, eq_self, fx_s, ↓run_s, run_0, ↓rs_n, ↓rs_c, as_s, ls_n, ls_c, lc_s, lget_c, fX1_arrivalBy_0, ↓ex_aload_n, ↓xR_r, ↓xRg_c, fX1_arrivalBy_1, ↓ex_getfield, ↓s1R_c, ↓fv_0_0, fX1_arrivalBy_4, ↓ex_iload_n, ↓xI_i, ↓xIg_c, fX1_arrivalBy_5, ↓ex_iaload, ↓sRI_c, ↓scrR_n, fX1_arrivalBy_6, ↓ex_istore_n, ↓s1I_c, ↓lsto_e, ↓lrmK_n, ↓lrmK_f, ct_i, ct_l, ct_r, fX1_arrivalBy_7, fX1_arrivalBy_8, ↓ex_invokestatic, ↓xc_0, ↓xc_s, ↓xc_1, ↓pk_s, ↓k_s, ↓k_n, catS_n, catS_c, rOk_c, ↓pk_t, fX1_arrivalBy_11, ↓ex_ifCond_eq, fX1_arrivalBy_14, fX1_arrivalBy_15, ↓fv_1_0, fX1_arrivalBy_18, fX1_arrivalBy_19, fX1_arrivalBy_20, ↓ex_bipush, fX1_arrivalBy_22, ↓ex_if_icmp_ne, ↓s2I_c, fX1_arrivalBy_25, fX1_arrivalBy_27, ↓ex_ireturn, ↓rt_i, fX1_arrivalBy_28, fX1_arrivalBy_29, fX1_arrivalBy_32, fX1_arrivalBy_33, fX1_arrivalBy_34, fX1_arrivalBy_35, ↓fv_0_3, fX1_arrivalBy_38, fX1_arrivalBy_39, fX1_arrivalBy_40, ↓ex_iadd, fX1_arrivalBy_41, ↓ex_istore, fX1_arrivalBy_43, ↓ex_iload, fX1_arrivalBy_45, fX1_arrivalBy_46, ↓fv_0_5, fX1_arrivalBy_49, ↓ex_if_icmp_gt, fX1_arrivalBy_52, fX1_arrivalBy_54, ↓ex_goto, fX1_arrivalBy_57, fX1_arrivalBy_59, p1, p2, p5, p8, p9, q1, q2, q5, q8, q9, ↓C_X3_isNode, b2i_0, clampN (n := k) (by omega), e1, e4, clampN (n := s.F k) (by omega), g1, d3, nI_add, inR_n f1, show (31 : Int32) = nI 31 from rfl, eqN (a := t (s.F k)) (b := 31) (by omega) (by omega), ltN (a := s.H) (b := t (s.F k) + s.D k) (by omega) (by omega), ↓reduceIte, not_true_eq_false, not_false_eq_true, false_implies, true_implies, implies_true, and_true, true_and, and_false, false_and, or_true, true_or, or_false, false_or, Classical.not_not, ite_true, ite_false]
    have hv1 : vp_in (nI k) 12 := vp_inN (by omega) (by omega)
    have hv2 : vp_in (nI (s.F k)) 8 := vp_inN (by omega) f1
    unfold arr at hpost
    refine ⟨hv1, hv2, fun z => ?_, fun z => ?_⟩
    · rw [if_neg z] at hpost
      refine ⟨hv2, hv1, fun y => ?_, fun y => ?_⟩
      · rw [if_neg (by omega)] at hpost; exact hpost
      · rw [if_pos (by omega)] at hpost; exact hpost
    · rw [if_pos z] at hpost; exact hpost
  next => exact hC.elim)
end SPREAD
