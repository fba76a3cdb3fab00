section PUB5
/-- a public call that only looks -/
theorem pubI_look {f : SG → Int32} {X X' : XT} {K : Option Value → XT → Prop} {g : SG} (hp : ∀ X', RelC X' g → FrM X X' → K (some (.int (f g))) X') (hR : RelC X g) (hF : Fr spW X X') : K (some (.int (f g))) X' := hp X' (scrW hR hF) (FrM_W hF)
noncomputable def s_timeWeight (st v t : Int32) (g : SG) : Int64 × SG := (cif (inR v 0 7) (cif (inR st 1 255 ∧ inR t (-1) 30) (lN (SF g.now (cl st) (wOnly (cl v) t) 0 0)) (-3)) (-2), g)
noncomputable def s_reach (st : Int32) (g : SG) : Int64 × SG := (cif (inR st 1 255) (lN (SH g.now (cl st) (fun _ => 100) 0 0)) (-3), g)
noncomputable def s_likelihood (st : Int32) (g : SG) : Int64 × SG := (cif (inR st 1 255) (lN (LK g.now (cl st))) (-3), g)
/-- the first outcome of the greatest weight, out of those below k -/
noncomputable def exN (s : SV) (m : Nat) (wn : Nat → Nat) : Nat → Nat × Option Nat
  | 0 => (0, none)
  | k + 1 => cif ((exN s m wn k).1 < wtN s.W k s.n ∧ fitW s m wn k) (wtN s.W k s.n, some k) (exN s m wn k)
theorem exN_best (s : SV) (m : Nat) (wn : Nat → Nat) : ∀ k, BestOf s (fun o => o < k ∧ fitW s m wn o ∧ 0 < wtN s.W o s.n) (exN s m wn k).1 (exN s m wn k).2
  | 0 => Or.inl ⟨rfl, rfl, fun o h => absurd h.1 (Nat.not_lt_zero o)⟩
  | k + 1 => by
    have ih := exN_best s m wn k
    unfold exN
    by_cases c : (exN s m wn k).1 < wtN s.W k s.n ∧ fitW s m wn k
    · rw [cif_t c]
      refine Or.inr ⟨k, rfl, ⟨by omega, c.2, by omega⟩, rfl, by show 0 < wtN s.W k s.n; omega, fun o ho => ?_⟩
      show wtN s.W o s.n < wtN s.W k s.n ∨ _
      by_cases z : o = k
      · rw [z]; exact Or.inr ⟨rfl, Nat.le_refl _⟩
      · rcases ih with ⟨h1, h2, h3⟩ | ⟨b, h1, h2, h3, h4, h5⟩
        · exact absurd ⟨by omega, ho.2⟩ (h3 o)
        · rcases h5 o ⟨by omega, ho.2⟩ with y | y
          · exact Or.inl (by omega)
          · exact Or.inl (by omega)
    · rw [cif_f c]
      rcases ih with ⟨h1, h2, h3⟩ | ⟨b, h1, h2, h3, h4, h5⟩
      · refine Or.inl ⟨h1, h2, fun o ho => ?_⟩
        by_cases z : o = k
        · rw [z] at ho
          exact c ⟨by rw [h2]; exact ho.2.2, ho.2.1⟩
        · exact h3 o ⟨by omega, ho.2⟩
      · refine Or.inr ⟨b, h1, ⟨by omega, h2.2⟩, h3, h4, fun o ho => ?_⟩
        by_cases z : o = k
        · rw [z] at ho ⊢
          have : ¬ (exN s m wn k).1 < wtN s.W k s.n := fun y => c ⟨y, ho.2.1⟩
          by_cases y : wtN s.W k s.n = (exN s m wn k).1
          · exact Or.inr ⟨y, by omega⟩
          · exact Or.inl (by omega)
        · exact h5 o ⟨by omega, ho.2⟩
theorem BestOf.uniq {s : SV} {P : Nat → Prop} {bw bw' : Nat} {bo bo' : Option Nat} (h : BestOf s P bw bo) (h' : BestOf s P bw' bo') : bo = bo' := by
  rcases h with ⟨h1, h2, h3⟩ | ⟨b, h1, h2, h3, h4, h5⟩
  · rcases h' with ⟨g1, g2, g3⟩ | ⟨b', g1, g2, g3, g4, g5⟩
    · rw [h1, g1]
    · exact absurd g2 (h3 b')
  · rcases h' with ⟨g1, g2, g3⟩ | ⟨b', g1, g2, g3, g4, g5⟩
    · exact absurd h2 (g3 b)
    · have e1 := h5 b' g2
      have e2 := g5 b h2
      rw [h1, g1]
      congr 1
      omega
theorem SR_best {s : SV} {m : Nat} {wn : Nat → Nat} {a : ACC} (h : SR s m wn false a) : a.bo = (exN s m wn (2 ^ s.n)).2 := by
  obtain ⟨-, -, -, h4⟩ := h
  obtain ⟨-, -, h5, -⟩ := h4 rfl
  have h6 := h5 (fun _ => False) (Or.inl ⟨rfl, rfl, fun _ z => z⟩)
  refine BestOf.uniq h6 ((exN_best s m wn (2 ^ s.n)).congr (fun o => ?_))
  unfold reg
  exact ⟨fun z => Or.inr ⟨z.1, fun e _ hd => by simp at hd, z.2⟩, fun z => z.elim False.elim (fun y => ⟨y.1, y.2.2⟩)⟩
noncomputable def s_explanation (st : Int32) (g : SG) : Int32 × SG := (cif (inR st 1 255) (oI (exN g.now (cl st) (wS g.now) (2 ^ g.now.n)).2) (-3), g)
noncomputable def s_fits (st o : Int32) (g : SG) : Int32 × SG := (cif (inR st 1 255 ∧ isO g.now o) (b2i (fitW g.now (cl st) (wS g.now) (cl o))) (-3), g)
/-- a time as it is told -/
def tN (t : Nat) : Int32 := if t = 31 then -1 else nI t
noncomputable def s_timeBy (st o v : Int32) (g : SG) : Int32 × SG := (cif (inR v 0 7) (cif (inR st 1 255 ∧ isO g.now o) (tN (tau g.now (cl st) (cl o) (cl v))) (-3)) (-2), g)
noncomputable def C_X3_likelihood : CT := fun As X K => match As with
  | [.ref b, .int st] => b = 0 ∧ PubL (s_likelihood st) X K
  | _ => False
set_option maxRecDepth 20000 in
set_option maxHeartbeats 4000000 in
theorem d_X3_likelihood (l : Launch) : Does l yX3_likelihood (wY yX3_likelihood cX3_likelihood 2 (retT 2)) (rmF 18) C_X3_likelihood := does_of (rt := 2) (by decide +kernel) tkX3_likelihood (calls := [(108, true, 1, 3, C_X3_isStart), (157, false, 2, 3, C_X3_likelihoodOf)]) (List.forall_mem_cons.mpr ⟨cr_S (d_X3_isStart l) (by decide +kernel) (by decide +kernel) ⟨rfl, rfl⟩ ⟨Nat.le_of_ble_eq_true rfl, Nat.le_of_ble_eq_true rfl⟩, List.forall_mem_cons.mpr ⟨cr_V (d_X3_likelihoodOf l) rfl (by decide +kernel) (by decide +kernel) ⟨rfl, rfl⟩ ⟨Nat.le_of_ble_eq_true rfl, Nat.le_of_ble_eq_true rfl⟩, fun _ h => absurd h List.not_mem_nil⟩⟩) (by
  intro As X post hC
  unfold C_X3_likelihood at hC
  split at hC
  next b st =>
    obtain ⟨rfl, g, hR0, hpost⟩ := hC
    refine ⟨Nat.le_of_ble_eq_true rfl, fun R hR => ?_⟩
    have hw := hR0.1.1
    obtain ⟨⟨p0, -⟩, q0, -⟩ := sh_base
    refine go hR [] 60 ?_
    simp only [lv_args, ↓reduceIte, Nat.reduceEqDiff, Nat.reduceAdd, Nat.reduceLeDiff, reduceCtorEq, and_true, true_and, false_and, and_false, true_or, or_true, or_false, false_or, true_implies, false_implies, implies_true, not_true_eq_false, not_false_eq_true, eq_self, fx_s, ↓run_s, run_0, ↓rs_n, ↓rs_c, as_s, ls_n, ls_c, lc_s, lget_c, fX3_likelihood_0, ↓ex_iload_n, ↓xI_i, ↓xIg_c, fX3_likelihood_1, ↓ex_invokestatic, ↓xc_0, ↓xc_s, ↓xc_1, ↓pk_s, ↓k_s, ↓k_n, catS_n, catS_c, rOk_c, ct_i, ct_l, ct_r, ↓pk_t, fX3_likelihood_4, ↓ex_ifCond_ne, ↓s1I_c, fX3_likelihood_7, ↓ex_ldc2_w, fX3_likelihood_10, ↓ex_lreturn, ↓rt_l, fX3_likelihood_11, ↓ex_aload_n, ↓xR_r, ↓xRg_c, fX3_likelihood_12, fX3_likelihood_13, ↓ex_invokevirtual, ↓pk_f, fX3_likelihood_16, p0, q0, ↓C_X3_isStart, ↓C_X3_likelihoodOf, b2i_0, Classical.not_not, ↓reduceIte, not_true_eq_false, not_false_eq_true, false_implies, true_implies, implies_true, and_true, true_and, and_false, false_and, or_true, true_or, or_false, false_or, Classical.not_not, ite_true, ite_false]
    unfold s_likelihood at hpost
    by_cases h : inR st 1 255
    · rw [cif_t h] at hpost
      obtain ⟨-, h2, h3⟩ := inR_cl (lo := 1) (hi := 255) (by omega) h
      simp only [h, ↓reduceIte, not_true_eq_false, not_false_eq_true, false_implies, true_implies, implies_true, and_true, true_and, and_false, false_and, or_true, true_or, or_false, false_or, Classical.not_not, ite_true, ite_false]
      exact ⟨g.now, cl st, ⟨hR0.2.1, hw.oks, h3, h2⟩, fun Y hY => hpost Y (scrW hR0 hY) (FrM_W hY)⟩
    · rw [cif_f h] at hpost
      simp only [h, ↓reduceIte, not_true_eq_false, not_false_eq_true, false_implies, true_implies, implies_true, and_true, true_and, and_false, false_and, or_true, true_or, or_false, false_or, Classical.not_not, ite_true, ite_false]
      exact hpost X hR0 (FrM.rf X)
  next => exact hC.elim)
noncomputable def C_X3_reach : CT := fun As X K => match As with
  | [.ref b, .int st] => b = 0 ∧ PubL (s_reach st) X K
  | _ => False
set_option maxRecDepth 20000 in
set_option maxHeartbeats 4000000 in
theorem d_X3_reach (l : Launch) : Does l yX3_reach (wY yX3_reach cX3_reach 2 (retT 2)) (rmF 17) C_X3_reach := does_of (rt := 2) (by decide +kernel) tkX3_reach (calls := [(108, true, 1, 3, C_X3_isStart), (151, false, 1, 1, C_X1_wantNothing), (143, false, 4, 1, C_X1_search)]) (List.forall_mem_cons.mpr ⟨cr_S (d_X3_isStart l) (by decide +kernel) (by decide +kernel) ⟨rfl, rfl⟩ ⟨Nat.le_of_ble_eq_true rfl, Nat.le_of_ble_eq_true rfl⟩, List.forall_mem_cons.mpr ⟨cr_NV (d_X1_wantNothing l) rfl (by decide +kernel) (by decide +kernel) (by decide +kernel) ⟨rfl, rfl⟩ ⟨Nat.le_of_ble_eq_true rfl, Nat.le_of_ble_eq_true rfl⟩, List.forall_mem_cons.mpr ⟨cr_NV (d_X1_search l) rfl (by decide +kernel) (by decide +kernel) (by decide +kernel) ⟨rfl, rfl⟩ ⟨Nat.le_of_ble_eq_true rfl, Nat.le_of_ble_eq_true rfl⟩, fun _ h => absurd h List.not_mem_nil⟩⟩⟩) (by
  intro As X post hC
  unfold C_X3_reach at hC
  split at hC
  next b st =>
    obtain ⟨rfl, g, hR0, hpost⟩ := hC
    refine ⟨Nat.le_of_ble_eq_true rfl, fun R hR => ?_⟩
    obtain ⟨⟨p8, p9, p10, p11⟩, q8, q9, q10, q11⟩ := sh_sp
    obtain ⟨⟨p0, -⟩, q0, -⟩ := sh_base
    have hw := hR0.1.1
    refine go hR [] 60 ?_
    simp only [lv_args, ↓reduceIte, Nat.reduceEqDiff, Nat.reduceAdd, Nat.reduceLeDiff, reduceCtorEq, and_true, true_and, false_and, and_false, true_or, or_true, or_false, false_or, true_implies, false_implies, implies_true, not_true_eq_false, not_false_eq_true, eq_self, fx_s, ↓run_s, run_0, ↓rs_n, ↓rs_c, as_s, ls_n, ls_c, lc_s, lget_c, fX3_reach_0, ↓ex_iload_n, ↓xI_i, ↓xIg_c, fX3_reach_1, ↓ex_invokestatic, ↓xc_0, ↓xc_s, ↓xc_1, ↓pk_s, ↓k_s, ↓k_n, catS_n, catS_c, rOk_c, ct_i, ct_l, ct_r, ↓pk_t, fX3_reach_4, ↓ex_ifCond_ne, ↓s1I_c, fX3_reach_7, ↓ex_ldc2_w, fX3_reach_10, ↓ex_lreturn, ↓rt_l, fX3_reach_11, ↓ex_aload_n, ↓xR_r, ↓xRg_c, fX3_reach_12, ↓ex_getfield, ↓s1R_c, ↓fv_3_2, fX3_reach_15, ↓ex_invokevirtual, ↓pk_f, fX3_reach_18, fX3_reach_19, fX3_reach_22, fX3_reach_23, ↓fv_3_0, fX3_reach_26, fX3_reach_27, ↓ex_iconst, fX3_reach_28, fX3_reach_31, fX3_reach_32, fX3_reach_35, ↓fv_1_3, fX3_reach_38, p0, p8, q0, q8, ↓C_X3_isStart, ↓C_X1_wantNothing, ↓C_X1_search, b2i_0, Classical.not_not, ↓reduceIte, not_true_eq_false, not_false_eq_true, false_implies, true_implies, implies_true, and_true, true_and, and_false, false_and, or_true, true_or, or_false, false_or, Classical.not_not, ite_true, ite_false]
    unfold s_reach at hpost
    by_cases h : inR st 1 255
    · rw [cif_t h] at hpost
      obtain ⟨-, h2, h3⟩ := inR_cl (lo := 1) (hi := 255) (by omega) h
      simp only [h, ↓reduceIte, not_true_eq_false, not_false_eq_true, false_implies, true_implies, implies_true, and_true, true_and, and_false, false_and, or_true, true_or, or_false, false_or, Classical.not_not, ite_true, ite_false]
      refine fun Y hY hwn => ⟨g.now, cl st, fun _ => 100, false, ⟨RS_W hR0.2.1 (sp10_W hY), hw.we, h3, h2, hwn, rfl⟩, fun Z a hZ hA hk hSR ht => ?_⟩
      rw [hA.2.1, (SR_tot hSR).2]
      have hF := (sp10_W hY).tr (spT_W hZ)
      exact hpost Z (scrW hR0 hF) (FrM_W hF)
    · rw [cif_f h] at hpost
      simp only [h, ↓reduceIte, not_true_eq_false, not_false_eq_true, false_implies, true_implies, implies_true, and_true, true_and, and_false, false_and, or_true, true_or, or_false, false_or, Classical.not_not, ite_true, ite_false]
      exact hpost X hR0 (FrM.rf X)
  next => exact hC.elim)
noncomputable def C_X3_timeWeight : CT := fun As X K => match As with
  | [.ref b, .int st, .int v, .int t] => b = 0 ∧ PubL (s_timeWeight st v t) X K
  | _ => False
set_option maxRecDepth 20000 in
set_option maxHeartbeats 4000000 in
theorem d_X3_timeWeight (l : Launch) : Does l yX3_timeWeight (wY yX3_timeWeight cX3_timeWeight 4 (retT 2)) (rmF 17) C_X3_timeWeight := does_of (rt := 2) (by decide +kernel) tkX3_timeWeight (calls := [(42, true, 1, 3, C_X3_isNode), (108, true, 1, 3, C_X3_isStart), (96, true, 1, 3, C_X3_isTimeOrNone), (139, false, 3, 1, C_X1_wantOnly), (143, false, 4, 1, C_X1_search)]) (List.forall_mem_cons.mpr ⟨cr_S (d_X3_isNode l) (by decide +kernel) (by decide +kernel) ⟨rfl, rfl⟩ ⟨Nat.le_of_ble_eq_true rfl, Nat.le_of_ble_eq_true rfl⟩, List.forall_mem_cons.mpr ⟨cr_S (d_X3_isStart l) (by decide +kernel) (by decide +kernel) ⟨rfl, rfl⟩ ⟨Nat.le_of_ble_eq_true rfl, Nat.le_of_ble_eq_true rfl⟩, List.forall_mem_cons.mpr ⟨cr_S (d_X3_isTimeOrNone l) (by decide +kernel) (by decide +kernel) ⟨rfl, rfl⟩ ⟨Nat.le_of_ble_eq_true rfl, Nat.le_of_ble_eq_true rfl⟩, List.forall_mem_cons.mpr ⟨cr_NV (d_X1_wantOnly l) rfl (by decide +kernel) (by decide +kernel) (by decide +kernel) ⟨rfl, rfl⟩ ⟨Nat.le_of_ble_eq_true rfl, Nat.le_of_ble_eq_true rfl⟩, List.forall_mem_cons.mpr ⟨cr_NV (d_X1_search l) rfl (by decide +kernel) (by decide +kernel) (by decide +kernel) ⟨rfl, rfl⟩ ⟨Nat.le_of_ble_eq_true rfl, Nat.le_of_ble_eq_true rfl⟩, fun _ h => absurd h List.not_mem_nil⟩⟩⟩⟩⟩) (by
  intro As X post hC
  unfold C_X3_timeWeight at hC
  split at hC
  next b st v t =>
    obtain ⟨rfl, g, hR0, hpost⟩ := hC
    refine ⟨Nat.le_of_ble_eq_true rfl, fun R hR => ?_⟩
    obtain ⟨⟨p8, p9, p10, p11⟩, q8, q9, q10, q11⟩ := sh_sp
    obtain ⟨⟨p0, -⟩, q0, -⟩ := sh_base
    have hw := hR0.1.1
    refine go hR [] 80 ?_
    simp only [lv_args, ↓reduceIte, Nat.reduceEqDiff, Nat.reduceAdd, Nat.reduceLeDiff, reduceCtorEq, and_true, true_and, false_and, and_false, true_or, or_true, or_false, false_or, true_implies, false_implies, implies_true, not_true_eq_false, not_false_eq_true, eq_self, fx_s, ↓run_s, run_0, ↓rs_n, ↓rs_c, as_s, ls_n, ls_c, lc_s, lget_c, fX3_timeWeight_0, ↓ex_iload_n, ↓xI_i, ↓xIg_c, fX3_timeWeight_1, ↓ex_invokestatic, ↓xc_0, ↓xc_s, ↓xc_1, ↓pk_s, ↓k_s, ↓k_n, catS_n, catS_c, rOk_c, ct_i, ct_l, ct_r, ↓pk_t, fX3_timeWeight_4, ↓ex_ifCond_ne, ↓s1I_c, fX3_timeWeight_7, ↓ex_ldc2_w, fX3_timeWeight_10, ↓ex_lreturn, ↓rt_l, fX3_timeWeight_11, fX3_timeWeight_12, fX3_timeWeight_15, ↓ex_ifCond_eq, fX3_timeWeight_18, fX3_timeWeight_19, fX3_timeWeight_22, fX3_timeWeight_25, fX3_timeWeight_28, fX3_timeWeight_29, ↓ex_aload_n, ↓xR_r, ↓xRg_c, fX3_timeWeight_30, ↓ex_getfield, ↓s1R_c, ↓fv_3_2, fX3_timeWeight_33, fX3_timeWeight_34, fX3_timeWeight_35, ↓ex_invokevirtual, ↓pk_f, fX3_timeWeight_38, fX3_timeWeight_39, fX3_timeWeight_42, fX3_timeWeight_43, ↓fv_3_0, fX3_timeWeight_46, fX3_timeWeight_47, ↓ex_iconst, fX3_timeWeight_48, fX3_timeWeight_51, fX3_timeWeight_52, fX3_timeWeight_55, ↓fv_1_2, fX3_timeWeight_58, p0, p8, q0, q8, ↓C_X3_isNode, ↓C_X3_isStart, ↓C_X3_isTimeOrNone, ↓C_X1_wantOnly, ↓C_X1_search, b2i_0, Classical.not_not, ↓reduceIte, not_true_eq_false, not_false_eq_true, false_implies, true_implies, implies_true, and_true, true_and, and_false, false_and, or_true, true_or, or_false, false_or, Classical.not_not, ite_true, ite_false]
    unfold s_timeWeight at hpost
    by_cases hv : inR v 0 7
    case neg => (rw [cif_f hv] at hpost; simp only [hv, ↓reduceIte, not_true_eq_false, not_false_eq_true, false_implies, true_implies, implies_true, and_true, true_and, and_false, false_and, or_true, true_or, or_false, false_or, Classical.not_not, ite_true, ite_false]; exact hpost X hR0 (FrM.rf X))
    rw [cif_t hv] at hpost
    by_cases h : inR st 1 255
    case neg => (rw [cif_f (fun z => h z.1)] at hpost; simp only [hv, h, ↓reduceIte, not_true_eq_false, not_false_eq_true, false_implies, true_implies, implies_true, and_true, true_and, and_false, false_and, or_true, true_or, or_false, false_or, Classical.not_not, ite_true, ite_false]; exact hpost X hR0 (FrM.rf X))
    by_cases ht : inR t (-1) 30
    case neg => (rw [cif_f (fun z => ht z.2)] at hpost; simp only [hv, h, ht, ↓reduceIte, not_true_eq_false, not_false_eq_true, false_implies, true_implies, implies_true, and_true, true_and, and_false, false_and, or_true, true_or, or_false, false_or, Classical.not_not, ite_true, ite_false]; exact hpost X hR0 (FrM.rf X))
    rw [cif_t ⟨h, ht⟩] at hpost
    obtain ⟨-, h2, h3⟩ := inR_cl (lo := 1) (hi := 255) (by omega) h
    obtain ⟨-, v2, v3⟩ := inR_cl (lo := 0) (hi := 7) (by omega) hv
    simp only [hv, h, ht, ↓reduceIte, not_true_eq_false, not_false_eq_true, false_implies, true_implies, implies_true, and_true, true_and, and_false, false_and, or_true, true_or, or_false, false_or, Classical.not_not, ite_true, ite_false]
    refine ⟨cl v, ⟨v3, by omega, okS_of ht⟩, fun Y hY hwn => ⟨g.now, cl st, wOnly (cl v) t, false, ⟨RS_W hR0.2.1 (sp10_W hY), hw.we, h3, h2, hwn, rfl⟩, fun Z a hZ hA hk hSR ht => ?_⟩⟩
    rw [hA.1, (SR_tot hSR).1]
    have hF := (sp10_W hY).tr (spT_W hZ)
    exact hpost Z (scrW hR0 hF) (FrM_W hF)
  next => exact hC.elim)
noncomputable def C_X3_explanation : CT := fun As X K => match As with
  | [.ref b, .int st] => b = 0 ∧ PubI (s_explanation st) X K
  | _ => False
set_option maxRecDepth 20000 in
set_option maxHeartbeats 4000000 in
theorem d_X3_explanation (l : Launch) : Does l yX3_explanation (wY yX3_explanation cX3_explanation 2 (retT 0)) (rmF 17) C_X3_explanation := does_of (rt := 0) (by decide +kernel) tkX3_explanation (calls := [(108, true, 1, 3, C_X3_isStart), (130, false, 2, 1, C_X1_wantAsSeen), (143, false, 4, 1, C_X1_search)]) (List.forall_mem_cons.mpr ⟨cr_S (d_X3_isStart l) (by decide +kernel) (by decide +kernel) ⟨rfl, rfl⟩ ⟨Nat.le_of_ble_eq_true rfl, Nat.le_of_ble_eq_true rfl⟩, List.forall_mem_cons.mpr ⟨cr_NV (d_X1_wantAsSeen l) rfl (by decide +kernel) (by decide +kernel) (by decide +kernel) ⟨rfl, rfl⟩ ⟨Nat.le_of_ble_eq_true rfl, Nat.le_of_ble_eq_true rfl⟩, List.forall_mem_cons.mpr ⟨cr_NV (d_X1_search l) rfl (by decide +kernel) (by decide +kernel) (by decide +kernel) ⟨rfl, rfl⟩ ⟨Nat.le_of_ble_eq_true rfl, Nat.le_of_ble_eq_true rfl⟩, fun _ h => absurd h List.not_mem_nil⟩⟩⟩) (by
  intro As X post hC
  unfold C_X3_explanation at hC
  split at hC
  next b st =>
    obtain ⟨rfl, g, hR0, hpost⟩ := hC
    refine ⟨Nat.le_of_ble_eq_true rfl, fun R hR => ?_⟩
    obtain ⟨⟨p8, p9, p10, p11⟩, q8, q9, q10, q11⟩ := sh_sp
    obtain ⟨⟨p0, -⟩, q0, -⟩ := sh_base
    have hw := hR0.1.1
    refine go hR [] 60 ?_
    simp only [lv_args, ↓reduceIte, Nat.reduceEqDiff, Nat.reduceAdd, Nat.reduceLeDiff, reduceCtorEq, and_true, true_and, false_and, and_false, true_or, or_true, or_false, false_or, true_implies, false_implies, implies_true, not_true_eq_false, not_false_eq_true, eq_self, fx_s, ↓run_s, run_0, ↓rs_n, ↓rs_c, as_s, ls_n, ls_c, lc_s, lget_c, fX3_explanation_0, ↓ex_iload_n, ↓xI_i, ↓xIg_c, fX3_explanation_1, ↓ex_invokestatic, ↓xc_0, ↓xc_s, ↓xc_1, ↓pk_s, ↓k_s, ↓k_n, catS_n, catS_c, rOk_c, ct_i, ct_l, ct_r, ↓pk_t, fX3_explanation_4, ↓ex_ifCond_ne, ↓s1I_c, fX3_explanation_7, ↓ex_bipush, fX3_explanation_9, ↓ex_ireturn, ↓rt_i, fX3_explanation_10, ↓ex_aload_n, ↓xR_r, ↓xRg_c, fX3_explanation_11, ↓ex_getfield, ↓s1R_c, ↓fv_3_2, fX3_explanation_14, fX3_explanation_15, ↓fv_3_0, fX3_explanation_18, ↓ex_invokevirtual, ↓pk_f, fX3_explanation_21, fX3_explanation_22, fX3_explanation_25, fX3_explanation_26, fX3_explanation_29, fX3_explanation_30, ↓ex_iconst, fX3_explanation_31, fX3_explanation_34, fX3_explanation_35, fX3_explanation_38, ↓fv_1_5, fX3_explanation_41, p0, p8, q0, q8, ↓C_X3_isStart, ↓C_X1_wantAsSeen, ↓C_X1_search, b2i_0, Classical.not_not, ↓reduceIte, not_true_eq_false, not_false_eq_true, false_implies, true_implies, implies_true, and_true, true_and, and_false, false_and, or_true, true_or, or_false, false_or, Classical.not_not, ite_true, ite_false]
    unfold s_explanation at hpost
    by_cases h : inR st 1 255
    · rw [cif_t h] at hpost
      obtain ⟨-, h2, h3⟩ := inR_cl (lo := 1) (hi := 255) (by omega) h
      simp only [h, ↓reduceIte, not_true_eq_false, not_false_eq_true, false_implies, true_implies, implies_true, and_true, true_and, and_false, false_and, or_true, true_or, or_false, false_or, Classical.not_not, ite_true, ite_false]
      refine ⟨g.now, ⟨hR0.2.1, hw.oks.2⟩, fun Y hY hwn => ⟨g.now, cl st, wS g.now, false, ⟨RS_W hR0.2.1 (sp10_W hY), hw.we, h3, h2, hwn, rfl⟩, fun Z a hZ hA hk hSR ht => ?_⟩⟩
      rw [hA.2.2.2.1, SR_best hSR]
      have hF := (sp10_W hY).tr (spT_W hZ)
      exact hpost Z (scrW hR0 hF) (FrM_W hF)
    · rw [cif_f h] at hpost
      simp only [h, ↓reduceIte, not_true_eq_false, not_false_eq_true, false_implies, true_implies, implies_true, and_true, true_and, and_false, false_and, or_true, true_or, or_false, false_or, Classical.not_not, ite_true, ite_false]
      exact hpost X hR0 (FrM.rf X)
  next => exact hC.elim)
theorem wS_or {s : SV} (h : ∀ v, v < 8 → okS (s.S v)) {v : Nat} (hv : v < 8) : wS s v ≤ 31 ∨ wS s v = 100 := wI_ok (h v hv)
theorem can_fit {s : SV} {m o : Nat} {wn : Nat → Nat} (hW : WE s) (hwn : ∀ v, v < 8 → wn v ≤ 31 ∨ wn v = 100) : canN wn (tau s m o) 31 ↔ fitW s m wn o := by
  have h31 := (tau_sol hW m o).1
  constructor
  · intro h v hv
    have := h31 v hv
    rcases h v hv with z | z
    · exact Or.inl z
    · rcases hwn v hv with y | y
      · right; omega
      · exact Or.inl y
  · intro h v hv
    rcases h v hv with z | z
    · exact Or.inl z
    · right; omega
noncomputable def C_X3_fits : CT := fun As X K => match As with
  | [.ref b, .int st, .int o] => b = 0 ∧ PubI (s_fits st o) X K
  | _ => False
set_option maxRecDepth 20000 in
set_option maxHeartbeats 4000000 in
theorem d_X3_fits (l : Launch) : Does l yX3_fits (wY yX3_fits cX3_fits 3 (retT 0)) (rmF 3) C_X3_fits := does_of (rt := 0) (by decide +kernel) tkX3_fits (calls := [(108, true, 1, 3, C_X3_isStart), (125, false, 2, 3, C_X3_isOutcome), (130, false, 2, 1, C_X1_wantAsSeen), (115, false, 4, 1, C_X1_follow), (134, false, 1, 1, C_X1_isAsWanted)]) (List.forall_mem_cons.mpr ⟨cr_S (d_X3_isStart l) (by decide +kernel) (by decide +kernel) ⟨rfl, rfl⟩ ⟨Nat.le_of_ble_eq_true rfl, Nat.le_of_ble_eq_true rfl⟩, List.forall_mem_cons.mpr ⟨cr_V (d_X3_isOutcome l) rfl (by decide +kernel) (by decide +kernel) ⟨rfl, rfl⟩ ⟨Nat.le_of_ble_eq_true rfl, Nat.le_of_ble_eq_true rfl⟩, List.forall_mem_cons.mpr ⟨cr_NV (d_X1_wantAsSeen l) rfl (by decide +kernel) (by decide +kernel) (by decide +kernel) ⟨rfl, rfl⟩ ⟨Nat.le_of_ble_eq_true rfl, Nat.le_of_ble_eq_true rfl⟩, List.forall_mem_cons.mpr ⟨cr_NV (d_X1_follow l) rfl (by decide +kernel) (by decide +kernel) (by decide +kernel) ⟨rfl, rfl⟩ ⟨Nat.le_of_ble_eq_true rfl, Nat.le_of_ble_eq_true rfl⟩, List.forall_mem_cons.mpr ⟨cr_NV (d_X1_isAsWanted l) rfl (by decide +kernel) (by decide +kernel) (by decide +kernel) ⟨rfl, rfl⟩ ⟨Nat.le_of_ble_eq_true rfl, Nat.le_of_ble_eq_true rfl⟩, fun _ h => absurd h List.not_mem_nil⟩⟩⟩⟩⟩) (by
  intro As X post hC
  unfold C_X3_fits at hC
  split at hC
  next b st o =>
    obtain ⟨rfl, g, hR0, hpost⟩ := hC
    refine ⟨Nat.le_of_ble_eq_true rfl, fun R hR => ?_⟩
    obtain ⟨⟨p8, p9, p10, p11⟩, q8, q9, q10, q11⟩ := sh_sp
    obtain ⟨⟨p0, -⟩, q0, -⟩ := sh_base
    have hw := hR0.1.1
    have hn := hw.1
    refine go hR [] 80 ?_
    simp only [lv_args, ↓reduceIte, Nat.reduceEqDiff, Nat.reduceAdd, Nat.reduceLeDiff, reduceCtorEq, and_true, true_and, false_and, and_false, true_or, or_true, or_false, false_or, true_implies, false_implies, implies_true, not_true_eq_false, not_false_eq_true, eq_self, fx_s, ↓run_s, run_0, ↓rs_n, ↓rs_c, as_s, ls_n, ls_c, lc_s, lget_c, fX3_fits_0, ↓ex_iload_n, ↓xI_i, ↓xIg_c, fX3_fits_1, ↓ex_invokestatic, ↓xc_0, ↓xc_s, ↓xc_1, ↓pk_s, ↓k_s, ↓k_n, catS_n, catS_c, rOk_c, ct_i, ct_l, ct_r, ↓pk_t, fX3_fits_4, ↓ex_ifCond_eq, ↓s1I_c, fX3_fits_7, ↓ex_aload_n, ↓xR_r, ↓xRg_c, fX3_fits_8, fX3_fits_9, ↓ex_invokevirtual, ↓pk_f, fX3_fits_12, ↓ex_ifCond_ne, fX3_fits_15, ↓ex_bipush, fX3_fits_17, ↓ex_ireturn, ↓rt_i, fX3_fits_18, fX3_fits_19, ↓ex_getfield, ↓s1R_c, ↓fv_3_2, fX3_fits_22, fX3_fits_23, ↓fv_3_0, fX3_fits_26, fX3_fits_29, fX3_fits_30, fX3_fits_33, fX3_fits_34, fX3_fits_37, fX3_fits_38, fX3_fits_39, fX3_fits_42, fX3_fits_43, fX3_fits_46, fX3_fits_49, fX3_fits_52, ↓ex_iconst, fX3_fits_53, ↓ex_goto, fX3_fits_56, fX3_fits_57, p0, p8, q0, q8, ↓C_X3_isStart, ↓C_X3_isOutcome, ↓C_X1_wantAsSeen, ↓C_X1_follow, ↓C_X1_isAsWanted, b2i_0, Classical.not_not, ↓reduceIte, not_true_eq_false, not_false_eq_true, false_implies, true_implies, implies_true, and_true, true_and, and_false, false_and, or_true, true_or, or_false, false_or, Classical.not_not, ite_true, ite_false]
    unfold s_fits at hpost
    by_cases h : inR st 1 255
    case neg => (rw [cif_f (fun z => h z.1)] at hpost; simp only [h, ↓reduceIte, not_true_eq_false, not_false_eq_true, false_implies, true_implies, implies_true, and_true, true_and, and_false, false_and, or_true, true_or, or_false, false_or, Classical.not_not, ite_true, ite_false]; exact hpost X hR0 (FrM.rf X))
    simp only [h, ↓reduceIte, not_true_eq_false, not_false_eq_true, false_implies, true_implies, implies_true, and_true, true_and, and_false, false_and, or_true, true_or, or_false, false_or, Classical.not_not, ite_true, ite_false]
    refine ⟨g.now, ⟨hR0.2.1, hn⟩, ?_⟩
    by_cases ho : isO g.now o
    case neg => (rw [cif_f (fun z => ho z.2)] at hpost; simp only [ho, ↓reduceIte, not_true_eq_false, not_false_eq_true, false_implies, true_implies, implies_true, and_true, true_and, and_false, false_and, or_true, true_or, or_false, false_or, Classical.not_not, ite_true, ite_false]; exact hpost X hR0 (FrM.rf X))
    simp only [ho, ↓reduceIte, not_true_eq_false, not_false_eq_true, false_implies, true_implies, implies_true, and_true, true_and, and_false, false_and, or_true, true_or, or_false, false_or, Classical.not_not, ite_true, ite_false]
    rw [cif_t ⟨h, ho⟩] at hpost
    obtain ⟨-, h2, h3⟩ := inR_cl (lo := 1) (hi := 255) (by omega) h
    obtain ⟨o1, o2, o3⟩ := isO_cl hn ho
    refine ⟨g.now, ⟨hR0.2.1, hw.oks.2⟩, fun Y hY hwn => ⟨g.now, cl st, cl o, ⟨RS_W hR0.2.1 (sp10_W hY), hw.we, h3, h2, o3, o2⟩, fun Z hZ hT => ⟨wS g.now, tau g.now (cl st) (cl o), ⟨fun v hv => by rw [hZ.1 10 (by omega)]; exact hwn v hv, hT⟩, ?_⟩⟩⟩
    have hF := (sp10_W hY).tr (sp9_W hZ)
    have hp := hpost Z (scrW hR0 hF) (FrM_W hF)
    have hcf := can_fit (m := cl st) (o := cl o) hw.we (fun v hv => wS_or hw.oks.2 hv)
    rw [hcf]
    refine ⟨fun z => ?_, fun z => ?_⟩
    · rw [b2i_f (show ¬ fitW g.now (cl st) (wS g.now) (cl o) from z)] at hp; exact hp
    · rw [b2i_t (show fitW g.now (cl st) (wS g.now) (cl o) from z)] at hp; exact hp
  next => exact hC.elim)
noncomputable def C_X3_timeBy : CT := fun As X K => match As with
  | [.ref b, .int st, .int o, .int v] => b = 0 ∧ PubI (s_timeBy st o v) X K
  | _ => False
set_option maxRecDepth 20000 in
set_option maxHeartbeats 4000000 in
theorem d_X3_timeBy (l : Launch) : Does l yX3_timeBy (wY yX3_timeBy cX3_timeBy 4 (retT 0)) (rmF 3) C_X3_timeBy := does_of (rt := 0) (by decide +kernel) tkX3_timeBy (calls := [(42, true, 1, 3, C_X3_isNode), (108, true, 1, 3, C_X3_isStart), (125, false, 2, 3, C_X3_isOutcome), (115, false, 4, 1, C_X1_follow), (122, true, 1, 3, C_X3_timeOrNone)]) (List.forall_mem_cons.mpr ⟨cr_S (d_X3_isNode l) (by decide +kernel) (by decide +kernel) ⟨rfl, rfl⟩ ⟨Nat.le_of_ble_eq_true rfl, Nat.le_of_ble_eq_true rfl⟩, List.forall_mem_cons.mpr ⟨cr_S (d_X3_isStart l) (by decide +kernel) (by decide +kernel) ⟨rfl, rfl⟩ ⟨Nat.le_of_ble_eq_true rfl, Nat.le_of_ble_eq_true rfl⟩, List.forall_mem_cons.mpr ⟨cr_V (d_X3_isOutcome l) rfl (by decide +kernel) (by decide +kernel) ⟨rfl, rfl⟩ ⟨Nat.le_of_ble_eq_true rfl, Nat.le_of_ble_eq_true rfl⟩, List.forall_mem_cons.mpr ⟨cr_NV (d_X1_follow l) rfl (by decide +kernel) (by decide +kernel) (by decide +kernel) ⟨rfl, rfl⟩ ⟨Nat.le_of_ble_eq_true rfl, Nat.le_of_ble_eq_true rfl⟩, List.forall_mem_cons.mpr ⟨cr_S (d_X3_timeOrNone l) (by decide +kernel) (by decide +kernel) ⟨rfl, rfl⟩ ⟨Nat.le_of_ble_eq_true rfl, Nat.le_of_ble_eq_true rfl⟩, fun _ h => absurd h List.not_mem_nil⟩⟩⟩⟩⟩) (by
  intro As X post hC
  unfold C_X3_timeBy at hC
  split at hC
  next b st o v =>
    obtain ⟨rfl, g, hR0, hpost⟩ := hC
    refine ⟨Nat.le_of_ble_eq_true rfl, fun R hR => ?_⟩
    obtain ⟨⟨p8, p9, p10, p11⟩, q8, q9, q10, q11⟩ := sh_sp
    obtain ⟨⟨p0, -⟩, q0, -⟩ := sh_base
    have hw := hR0.1.1
    have hn := hw.1
    refine go hR [] 80 ?_
    simp only [lv_args, ↓reduceIte, Nat.reduceEqDiff, Nat.reduceAdd, Nat.reduceLeDiff, reduceCtorEq, and_true, true_and, false_and, and_false, true_or, or_true, or_false, false_or, true_implies, false_implies, implies_true, not_true_eq_false, not_false_eq_true, eq_self, fx_s, ↓run_s, run_0, ↓rs_n, ↓rs_c, as_s, ls_n, ls_c, lc_s, lget_c, fX3_timeBy_0, ↓ex_iload_n, ↓xI_i, ↓xIg_c, fX3_timeBy_1, ↓ex_invokestatic, ↓xc_0, ↓xc_s, ↓xc_1, ↓pk_s, ↓k_s, ↓k_n, catS_n, catS_c, rOk_c, ct_i, ct_l, ct_r, ↓pk_t, fX3_timeBy_4, ↓ex_ifCond_ne, ↓s1I_c, fX3_timeBy_7, ↓ex_bipush, fX3_timeBy_9, ↓ex_ireturn, ↓rt_i, fX3_timeBy_10, fX3_timeBy_11, fX3_timeBy_14, ↓ex_ifCond_eq, fX3_timeBy_17, ↓ex_aload_n, ↓xR_r, ↓xRg_c, fX3_timeBy_18, fX3_timeBy_19, ↓ex_invokevirtual, ↓pk_f, fX3_timeBy_22, fX3_timeBy_25, fX3_timeBy_27, fX3_timeBy_28, fX3_timeBy_29, ↓ex_getfield, ↓s1R_c, ↓fv_3_2, fX3_timeBy_32, fX3_timeBy_33, ↓fv_3_0, fX3_timeBy_36, fX3_timeBy_37, fX3_timeBy_38, fX3_timeBy_41, fX3_timeBy_42, fX3_timeBy_45, ↓fv_1_0, fX3_timeBy_48, fX3_timeBy_49, ↓ex_iaload, ↓sRI_c, ↓scrR_n, fX3_timeBy_50, fX3_timeBy_53, p0, p8, p9, q0, q8, q9, ↓C_X3_isNode, ↓C_X3_isStart, ↓C_X3_isOutcome, ↓C_X1_follow, ↓C_X3_timeOrNone, b2i_0, Classical.not_not, ↓reduceIte, not_true_eq_false, not_false_eq_true, false_implies, true_implies, implies_true, and_true, true_and, and_false, false_and, or_true, true_or, or_false, false_or, Classical.not_not, ite_true, ite_false]
    unfold s_timeBy at hpost
    by_cases hv : inR v 0 7
    case neg => (rw [cif_f hv] at hpost; simp only [hv, ↓reduceIte, not_true_eq_false, not_false_eq_true, false_implies, true_implies, implies_true, and_true, true_and, and_false, false_and, or_true, true_or, or_false, false_or, Classical.not_not, ite_true, ite_false]; exact hpost X hR0 (FrM.rf X))
    rw [cif_t hv] at hpost
    simp only [hv, ↓reduceIte, not_true_eq_false, not_false_eq_true, false_implies, true_implies, implies_true, and_true, true_and, and_false, false_and, or_true, true_or, or_false, false_or, Classical.not_not, ite_true, ite_false]
    by_cases h : inR st 1 255
    case neg => (rw [cif_f (fun z => h z.1)] at hpost; simp only [h, ↓reduceIte, not_true_eq_false, not_false_eq_true, false_implies, true_implies, implies_true, and_true, true_and, and_false, false_and, or_true, true_or, or_false, false_or, Classical.not_not, ite_true, ite_false]; exact hpost X hR0 (FrM.rf X))
    simp only [h, ↓reduceIte, not_true_eq_false, not_false_eq_true, false_implies, true_implies, implies_true, and_true, true_and, and_false, false_and, or_true, true_or, or_false, false_or, Classical.not_not, ite_true, ite_false]
    refine ⟨g.now, ⟨hR0.2.1, hn⟩, ?_⟩
    by_cases ho : isO g.now o
    case neg => (rw [cif_f (fun z => ho z.2)] at hpost; simp only [ho, ↓reduceIte, not_true_eq_false, not_false_eq_true, false_implies, true_implies, implies_true, and_true, true_and, and_false, false_and, or_true, true_or, or_false, false_or, Classical.not_not, ite_true, ite_false]; exact hpost X hR0 (FrM.rf X))
    simp only [ho, ↓reduceIte, not_true_eq_false, not_false_eq_true, false_implies, true_implies, implies_true, and_true, true_and, and_false, false_and, or_true, true_or, or_false, false_or, Classical.not_not, ite_true, ite_false]
    rw [cif_t ⟨h, ho⟩] at hpost
    obtain ⟨-, h2, h3⟩ := inR_cl (lo := 1) (hi := 255) (by omega) h
    obtain ⟨-, v2, v3⟩ := inR_cl (lo := 0) (hi := 7) (by omega) hv
    obtain ⟨o1, o2, o3⟩ := isO_cl hn ho
    refine ⟨g.now, cl st, cl o, ⟨hR0.2.1, hw.we, h3, h2, o3, o2⟩, fun Z hZ hT => ?_⟩
    have hp := hpost Z (scrW hR0 (sp9_W hZ)) (FrM_W (sp9_W hZ))
    obtain ⟨t1, t2⟩ := hT (cl v) (by omega)
    have e1 : Z.1 9 v.toNatClampNeg = nI (tau g.now (cl st) (cl o) (cl v)) := t1
    rw [e1]
    refine ⟨by rw [v3]; exact vp_inN (by omega) (by omega), ?_⟩
    unfold tN at hp
    by_cases z : tau g.now (cl st) (cl o) (cl v) = 31
    · rw [if_pos z] at hp
      rw [if_pos (by rw [z]; rfl)]
      exact hp
    · rw [if_neg z] at hp
      have hz : ¬ nI (tau g.now (cl st) (cl o) (cl v)) = 31 := fun y => z (by rw [eq31N (by omega)] at y; exact y)
      rw [if_neg hz]
      exact hp
  next => exact hC.elim)
end PUB5
