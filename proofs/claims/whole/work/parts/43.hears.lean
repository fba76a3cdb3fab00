section HEARS
def tM (t : Nat) : Nat := if t = 31 then 1000 else t
/-- the model's times are those of the outcome -/
def TT (X : XT) (s : SV) (m o : Nat) : Prop := ∀ v, v < 8 → X.1 53 v = nI (tM (tau s m o v))
/-- times not yet cut off -/
def UI (s : SV) (m o : Nat) (T : Nat → Nat) : Prop := (∀ v, v < 8 → T v ≤ 1000) ∧ (∀ v, v < 8 → m.testBit v = true → T v = 0) ∧ ∀ v, v < 8 → m.testBit v = false → T v < 1000 → ∃ e, e < s.n ∧ o.testBit e = true ∧ s.T e = v ∧ T (s.F e) + s.D e ≤ T v
theorem UI.init (s : SV) (m o : Nat) : UI s m o (fun v => if m.testBit v then 0 else 1000) := by
  refine ⟨fun v hv => ?_, fun v hv h => ?_, fun v hv h h2 => ?_⟩
  · show (if m.testBit v then 0 else 1000) ≤ 1000
    split <;> omega
  · show (if m.testBit v then 0 else 1000) = 0
    rw [if_pos h]
  · have h3 : (if m.testBit v then 0 else 1000) < 1000 := h2
    rw [h] at h3
    exact absurd h3 (by decide)
theorem UI.step {s : SV} {m o : Nat} {T : Nat → Nat} (hW : WE s) (h : UI s m o T) {e : Nat} (he : e < s.n) (ho : o.testBit e = true) (hlt : T (s.F e) + s.D e < T (s.T e)) : UI s m o (updN T (s.T e) (T (s.F e) + s.D e)) := by
  obtain ⟨h1, h2, h3⟩ := h
  obtain ⟨a1, a2, a3, a4, a5⟩ := hW.2.1 e he
  have hle : ∀ v, updN T (s.T e) (T (s.F e) + s.D e) v ≤ T v := fun v => by
    rw [updN_a]
    by_cases z : v = s.T e
    · rw [if_pos z, z]; omega
    · rw [if_neg z]; exact Nat.le_refl _
  have hFT : s.F e ≠ s.T e := fun z => by rw [z] at hlt; omega
  refine ⟨fun v hv => Nat.le_trans (hle v) (h1 v hv), fun v hv hm => ?_, fun v hv hm hl => ?_⟩
  · have := hle v
    rw [h2 v hv hm] at this
    omega
  · by_cases z : v = s.T e
    · refine ⟨e, he, ho, z.symm, ?_⟩
      rw [updN_a, updN_a, if_neg hFT, if_pos z]
      exact Nat.le_refl _
    · rw [updN_a, if_neg z] at hl ⊢
      obtain ⟨e', b1, b2, b3, b4⟩ := h3 v hv hm hl
      refine ⟨e', b1, b2, b3, ?_⟩
      have := hle (s.F e')
      omega
def cut (s : SV) (T : Nat → Nat) (v : Nat) : Nat := if s.H < T v then 31 else T v
theorem UI.sol {s : SV} {m o : Nat} {T : Nat → Nat} (hW : WE s) (h : UI s m o T) (hs : ∀ e, e < s.n → ¬ (o.testBit e = true ∧ T (s.F e) + s.D e < T (s.T e))) : Sol s m o (cut s T) := by
  obtain ⟨h1, h2, h3⟩ := h
  have hH := hW.2.2
  refine ⟨fun v hv => ?_, fun v hv hm => ?_, fun e he ho => ?_, fun v hv hm hl => ?_⟩
  · unfold cut; split <;> omega
  · unfold cut; rw [h2 v hv hm, if_neg (by omega)]
  · have h4 := hs e he
    have h5 : T (s.T e) ≤ T (s.F e) + s.D e := Nat.le_of_not_lt (fun z => h4 ⟨ho, z⟩)
    unfold arr cut
    by_cases c1 : s.H < T (s.F e)
    · rw [if_pos c1, if_pos rfl]; split <;> omega
    · rw [if_neg c1, if_neg (show ¬ T (s.F e) = 31 by omega)]
      by_cases c2 : T (s.F e) + s.D e ≤ s.H
      · rw [if_pos c2, if_neg (show ¬ s.H < T (s.T e) by omega)]; exact h5
      · rw [if_neg c2]; split <;> omega
  · unfold cut at hl
    by_cases c1 : s.H < T v
    · rw [if_pos c1] at hl; omega
    · rw [if_neg c1] at hl
      obtain ⟨e, b1, b2, b3, b4⟩ := h3 v hv hm (by omega)
      have h4 : T (s.T e) ≤ T (s.F e) + s.D e := Nat.le_of_not_lt (fun z => hs e b1 ⟨b2, z⟩)
      rw [b3] at h4
      refine ⟨e, b1, b2, b3, ?_⟩
      unfold arr cut
      rw [if_neg c1, if_neg (show ¬ s.H < T (s.F e) by omega), if_neg (by omega), if_pos (by omega)]
      omega
theorem UI.tau {s : SV} {m o : Nat} {T : Nat → Nat} (hW : WE s) (h : UI s m o T) (hs : ∀ e, e < s.n → ¬ (o.testBit e = true ∧ T (s.F e) + s.D e < T (s.T e))) : ∀ v, v < 8 → cut s T v = tau s m o v := (h.sol hW hs).uniq hW (tau_sol hW m o)
theorem tM_cut {s : SV} {T : Nat → Nat} (hH : s.H ≤ 30) (v : Nat) : tM (cut s T v) = if s.H < T v then 1000 else T v := by
  unfold tM cut
  by_cases c : s.H < T v
  · rw [if_pos c, if_pos c, if_pos rfl]
  · rw [if_neg c, if_neg c, if_neg (by omega)]
noncomputable def C_X4_hears : CT := fun As X K => match As with
  | [.ref r, .int st, .int oc] => ∃ (s : SV) (m o : Nat), (r = 51 ∧ RSf (X.1 52) s ∧ WE s ∧ st = nI m ∧ m ≤ 255 ∧ oc = nI o ∧ o < 4096) ∧ ∀ X', Fr (fun k => k = 53) X X' → TT X' s m o → K none X'
  | _ => False
set_option maxRecDepth 20000 in
set_option maxHeartbeats 4000000 in
theorem d_X4_hears (l : Launch) : Does l yX4_hears (wY yX4_hears cX4_hears 6 (retT 3)) (rmF 1) C_X4_hears := does_of (rt := 3) (by decide +kernel) tkX4_hears (calls := [(46, false, 3, 4, C_X4_of)]) (List.forall_mem_cons.mpr ⟨cr_V (d_X4_of l) rfl (by decide +kernel) (by decide +kernel) ⟨rfl, rfl⟩ ⟨Nat.le_of_ble_eq_true rfl, Nat.le_of_ble_eq_true rfl⟩, fun _ h => absurd h List.not_mem_nil⟩) (by
  intro As X post hC
  unfold C_X4_hears at hC
  split at hC
  next r st oc =>
    obtain ⟨s, m, o, ⟨rfl, hS, hW, rfl, hm, rfl, ho⟩, hpost⟩ := hC
    refine ⟨Nat.le_of_ble_eq_true rfl, fun R hR => ?_⟩
    obtain ⟨⟨p1, p2, p3, p4, p5, p6, p7⟩, q1, q2, q3, q4, q5, q6, q7⟩ := sh_m
    obtain ⟨h1, h2, h3, h4, h5⟩ := id hS
    have hn := hW.1
    have hH := hW.2.2
    have f52 : ∀ {Y : XT}, Fr (fun k => k = 53) X Y → Y.1 52 = X.1 52 := fun hF => hF.1 52 (by decide)
    -- cutting off
    have key3 : ∀ T, UI s m o T → (∀ e, e < s.n → ¬ (o.testBit e = true ∧ T (s.F e) + s.D e < T (s.T e))) → ∀ k i Y, i + k = 8 → Fr (fun k => k = 53) X Y → (∀ v, v < i → Y.1 53 v = nI (tM (cut s T v))) → (∀ v, i ≤ v → v < 8 → Y.1 53 v = nI (T v)) → R 135 [(0, .ref 51), (4, .int (nI i))] [] Y := by
      intro T hU hst k
      induction k with
      | zero =>
        intro i Y hi hF a1 a2
        refine go hR [(135, [0, 4])] 60 ?_
        simp only [↓reduceIte, Nat.reduceEqDiff, Nat.reduceAdd, Nat.reduceLeDiff, reduceCtorEq, and_true, true_and, false_and, and_false, true_or, or_true, or_false, false_or, true_implies, false_implies, implies_true, not_true_eq_false, not_false_eq_true, eq_self, fx_s, ↓run_s, run_0, ↓rs_n, ↓rs_c, as_s, ls_n, ls_c, lc_s, lget_c, fX4_hears_0, ↓ex_iconst, fX4_hears_1, ↓ex_istore_n, ↓s1I_c, ↓lsto_e, ↓lrmK_n, ↓lrmK_f, ct_i, ct_l, ct_r, fX4_hears_2, ↓ex_iload_n, ↓xI_i, ↓xIg_c, fX4_hears_3, ↓ex_bipush, fX4_hears_5, ↓ex_if_icmp_ge, ↓s2I_c, fX4_hears_8, ↓ex_aload_n, ↓xR_r, ↓xRg_c, fX4_hears_9, ↓ex_getfield, ↓s1R_c, ↓fv_4_3, fX4_hears_12, fX4_hears_13, fX4_hears_14, fX4_hears_15, ↓ex_ishr, fX4_hears_16, fX4_hears_17, ↓ex_iand, fX4_hears_18, fX4_hears_19, ↓ex_if_icmp_ne, fX4_hears_22, fX4_hears_23, ↓ex_goto, fX4_hears_26, ↓ex_sipush, fX4_hears_29, ↓ex_iastore, ↓sRII_c, fX4_hears_30, ↓ex_iinc, fX4_hears_33, fX4_hears_36, fX4_hears_37, fX4_hears_38, fX4_hears_39, ↓ex_ifCond_eq, fX4_hears_42, fX4_hears_43, fX4_hears_44, fX4_hears_45, ↓ex_istore, fX4_hears_47, ↓ex_iload, fX4_hears_49, fX4_hears_50, ↓fv_4_0, fX4_hears_53, fX4_hears_54, ↓ex_iaload, ↓sRI_c, ↓scrR_n, fX4_hears_55, fX4_hears_58, fX4_hears_59, fX4_hears_62, fX4_hears_63, fX4_hears_65, fX4_hears_66, ↓ex_invokevirtual, ↓xc_0, ↓xc_s, ↓xc_1, ↓pk_s, ↓k_s, ↓k_n, catS_n, catS_c, rOk_c, ↓pk_f, fX4_hears_69, fX4_hears_70, fX4_hears_71, fX4_hears_73, fX4_hears_74, fX4_hears_77, ↓ex_iadd, fX4_hears_78, fX4_hears_80, fX4_hears_81, fX4_hears_83, fX4_hears_84, fX4_hears_85, fX4_hears_86, fX4_hears_87, fX4_hears_90, fX4_hears_92, fX4_hears_93, fX4_hears_96, fX4_hears_97, fX4_hears_99, fX4_hears_100, fX4_hears_103, fX4_hears_104, fX4_hears_107, fX4_hears_108, fX4_hears_111, fX4_hears_112, fX4_hears_114, fX4_hears_115, fX4_hears_118, fX4_hears_120, fX4_hears_121, fX4_hears_122, fX4_hears_123, fX4_hears_126, fX4_hears_129, fX4_hears_132, fX4_hears_133, fX4_hears_135, fX4_hears_137, fX4_hears_139, fX4_hears_142, fX4_hears_143, fX4_hears_146, fX4_hears_148, fX4_hears_149, fX4_hears_152, fX4_hears_154, fX4_hears_155, fX4_hears_156, fX4_hears_159, fX4_hears_160, fX4_hears_161, ↓ex_if_icmp_le, fX4_hears_164, fX4_hears_167, fX4_hears_170, fX4_hears_171, fX4_hears_174, fX4_hears_176, fX4_hears_177, fX4_hears_178, fX4_hears_181, fX4_hears_184, ↓ex_return_, ↓rt_v, leI, nI_toInt (n := i) (by omega), tI_m5, tI_m4, tI_m3, tI_m2, tI_m1, tI_0, tI_1, tI_2, tI_3, tI_4, tI_5, tI_7, tI_8, tI_10, tI_12, tI_30, tI_31, tI_32, tI_47, tI_48, tI_57, tI_59, tI_42, tI_43, tI_45, tI_61, tI_62, tI_100, tI_120, tI_255, tI_1000, ↓reduceIte, not_true_eq_false, not_false_eq_true, false_implies, true_implies, implies_true, and_true, true_and, and_false, false_and, or_true, true_or, or_false, false_or, Classical.not_not, ite_true, ite_false]
        refine ⟨fun _ => hpost Y hF (fun v hv => ?_), fun z => absurd (by omega) z⟩
        rw [a1 v (by omega), hU.tau hW hst v hv]
      | succ k ih =>
        intro i Y hi hF a1 a2
        have hTi := hU.1 i (by omega)
        refine go hR [(135, [0, 4])] 60 ?_
        simp only [↓reduceIte, Nat.reduceEqDiff, Nat.reduceAdd, Nat.reduceLeDiff, reduceCtorEq, and_true, true_and, false_and, and_false, true_or, or_true, or_false, false_or, true_implies, false_implies, implies_true, not_true_eq_false, not_false_eq_true, eq_self, fx_s, ↓run_s, run_0, ↓rs_n, ↓rs_c, as_s, ls_n, ls_c, lc_s, lget_c, fX4_hears_0, ↓ex_iconst, fX4_hears_1, ↓ex_istore_n, ↓s1I_c, ↓lsto_e, ↓lrmK_n, ↓lrmK_f, ct_i, ct_l, ct_r, fX4_hears_2, ↓ex_iload_n, ↓xI_i, ↓xIg_c, fX4_hears_3, ↓ex_bipush, fX4_hears_5, ↓ex_if_icmp_ge, ↓s2I_c, fX4_hears_8, ↓ex_aload_n, ↓xR_r, ↓xRg_c, fX4_hears_9, ↓ex_getfield, ↓s1R_c, ↓fv_4_3, fX4_hears_12, fX4_hears_13, fX4_hears_14, fX4_hears_15, ↓ex_ishr, fX4_hears_16, fX4_hears_17, ↓ex_iand, fX4_hears_18, fX4_hears_19, ↓ex_if_icmp_ne, fX4_hears_22, fX4_hears_23, ↓ex_goto, fX4_hears_26, ↓ex_sipush, fX4_hears_29, ↓ex_iastore, ↓sRII_c, fX4_hears_30, ↓ex_iinc, fX4_hears_33, fX4_hears_36, fX4_hears_37, fX4_hears_38, fX4_hears_39, ↓ex_ifCond_eq, fX4_hears_42, fX4_hears_43, fX4_hears_44, fX4_hears_45, ↓ex_istore, fX4_hears_47, ↓ex_iload, fX4_hears_49, fX4_hears_50, ↓fv_4_0, fX4_hears_53, fX4_hears_54, ↓ex_iaload, ↓sRI_c, ↓scrR_n, fX4_hears_55, fX4_hears_58, fX4_hears_59, fX4_hears_62, fX4_hears_63, fX4_hears_65, fX4_hears_66, ↓ex_invokevirtual, ↓xc_0, ↓xc_s, ↓xc_1, ↓pk_s, ↓k_s, ↓k_n, catS_n, catS_c, rOk_c, ↓pk_f, fX4_hears_69, fX4_hears_70, fX4_hears_71, fX4_hears_73, fX4_hears_74, fX4_hears_77, ↓ex_iadd, fX4_hears_78, fX4_hears_80, fX4_hears_81, fX4_hears_83, fX4_hears_84, fX4_hears_85, fX4_hears_86, fX4_hears_87, fX4_hears_90, fX4_hears_92, fX4_hears_93, fX4_hears_96, fX4_hears_97, fX4_hears_99, fX4_hears_100, fX4_hears_103, fX4_hears_104, fX4_hears_107, fX4_hears_108, fX4_hears_111, fX4_hears_112, fX4_hears_114, fX4_hears_115, fX4_hears_118, fX4_hears_120, fX4_hears_121, fX4_hears_122, fX4_hears_123, fX4_hears_126, fX4_hears_129, fX4_hears_132, fX4_hears_133, fX4_hears_135, fX4_hears_137, fX4_hears_139, fX4_hears_142, fX4_hears_143, fX4_hears_146, fX4_hears_148, fX4_hears_149, fX4_hears_152, fX4_hears_154, fX4_hears_155, fX4_hears_156, fX4_hears_159, fX4_hears_160, fX4_hears_161, ↓ex_if_icmp_le, fX4_hears_164, fX4_hears_167, fX4_hears_170, fX4_hears_171, fX4_hears_174, fX4_hears_176, fX4_hears_177, fX4_hears_178, fX4_hears_181, fX4_hears_184, ↓ex_return_, ↓rt_v, p1, p2, p3, q1, q2, q3, vr_1, cl_1, f52 hF, h2, a2 i (Nat.le_refl _) (by omega), leI, nI_toInt (n := i) (by omega), nI_toInt (n := T i) (by omega), nI_toInt (n := s.H) (by omega), clampN (n := i) (by omega), tI_m5, tI_m4, tI_m3, tI_m2, tI_m1, tI_0, tI_1, tI_2, tI_3, tI_4, tI_5, tI_7, tI_8, tI_10, tI_12, tI_30, tI_31, tI_32, tI_47, tI_48, tI_57, tI_59, tI_42, tI_43, tI_45, tI_61, tI_62, tI_100, tI_120, tI_255, tI_1000, add1N, ↓reduceIte, not_true_eq_false, not_false_eq_true, false_implies, true_implies, implies_true, and_true, true_and, and_false, false_and, or_true, true_or, or_false, false_or, Classical.not_not, ite_true, ite_false]
        have vi : vp_in (nI i) 8 := vp_inN (by omega) (by omega)
        have nx : ∀ w, w = tM (cut s T i) → R 135 [(0, .ref 51), (4, .int (nI (i + 1)))] [] (sI Y 53 i (nI w)) := by
          intro w hw
          refine ih (i + 1) _ (by omega) (Fr.pI (P := fun k => k = 53) hF rfl _ _) (fun v hv => ?_) (fun v hv hv2 => ?_)
          · rw [sI_1, if_pos rfl, upd_a]
            by_cases z : v = i
            · rw [if_pos z, z, hw]
            · rw [if_neg z]; exact a1 v (by omega)
          · rw [sI_1, if_pos rfl, upd_a, if_neg (by omega)]; exact a2 v (by omega) hv2
        refine ⟨fun z => absurd z (by omega), fun _ => ⟨vi, fun z => ?_, fun z => ?_⟩⟩
        · refine ⟨vi, vi, nx (T i) ?_⟩
          rw [tM_cut hH, if_neg (by omega)]
        · refine ⟨vi, nx 1000 ?_⟩
          rw [tM_cut hH, if_pos (by omega)]
    -- the rounds
    have key2 : ∀ S T Y, sumT T ≤ S → UI s m o T → Fr (fun k => k = 53) X Y → (∀ v, v < 8 → Y.1 53 v = nI (T v)) → R 38 [(0, .ref 51), (2, .int (nI o)), (3, .int 1)] [] Y := by
      intro S
      induction S using Nat.strongRecOn with
      | ind S ihS =>
        intro T Y hSm hU hF hY
        have pass : ∀ k i (f : Int32) T Y, i + k = s.n → sumT T ≤ S → UI s m o T → Fr (fun k => k = 53) X Y → (∀ v, v < 8 → Y.1 53 v = nI (T v)) → ((f = 0 ∧ ∀ e, e < i → ¬ (o.testBit e = true ∧ T (s.F e) + s.D e < T (s.T e))) ∨ (f = 1 ∧ sumT T < S)) → R 47 [(0, .ref 51), (2, .int (nI o)), (3, .int f), (4, .int (nI i))] [] Y := by
          intro k
          induction k with
          | zero =>
            intro i f T Y hi hSm hU hF hY hf
            rcases hf with ⟨rfl, hst⟩ | ⟨rfl, hlt⟩
            · refine go hR [(38, [0, 2, 3]), (47, [0, 2, 3, 4]), (135, [0, 4])] 8 ?_
              simp only [↓reduceIte, Nat.reduceEqDiff, Nat.reduceAdd, Nat.reduceLeDiff, reduceCtorEq, and_true, true_and, false_and, and_false, true_or, or_true, or_false, false_or, true_implies, false_implies, implies_true, not_true_eq_false, not_false_eq_true, eq_self, fx_s, ↓run_s, run_0, ↓rs_n, ↓rs_c, as_s, ls_n, ls_c, lc_s, lget_c, fX4_hears_0, ↓ex_iconst, fX4_hears_1, ↓ex_istore_n, ↓s1I_c, ↓lsto_e, ↓lrmK_n, ↓lrmK_f, ct_i, ct_l, ct_r, fX4_hears_2, ↓ex_iload_n, ↓xI_i, ↓xIg_c, fX4_hears_3, ↓ex_bipush, fX4_hears_5, ↓ex_if_icmp_ge, ↓s2I_c, fX4_hears_8, ↓ex_aload_n, ↓xR_r, ↓xRg_c, fX4_hears_9, ↓ex_getfield, ↓s1R_c, ↓fv_4_3, fX4_hears_12, fX4_hears_13, fX4_hears_14, fX4_hears_15, ↓ex_ishr, fX4_hears_16, fX4_hears_17, ↓ex_iand, fX4_hears_18, fX4_hears_19, ↓ex_if_icmp_ne, fX4_hears_22, fX4_hears_23, ↓ex_goto, fX4_hears_26, ↓ex_sipush, fX4_hears_29, ↓ex_iastore, ↓sRII_c, fX4_hears_30, ↓ex_iinc, fX4_hears_33, fX4_hears_36, fX4_hears_37, fX4_hears_38, fX4_hears_39, ↓ex_ifCond_eq, fX4_hears_42, fX4_hears_43, fX4_hears_44, fX4_hears_45, ↓ex_istore, fX4_hears_47, ↓ex_iload, fX4_hears_49, fX4_hears_50, ↓fv_4_0, fX4_hears_53, fX4_hears_54, ↓ex_iaload, ↓sRI_c, ↓scrR_n, fX4_hears_55, fX4_hears_58, fX4_hears_59, fX4_hears_62, fX4_hears_63, fX4_hears_65, fX4_hears_66, ↓ex_invokevirtual, ↓xc_0, ↓xc_s, ↓xc_1, ↓pk_s, ↓k_s, ↓k_n, catS_n, catS_c, rOk_c, ↓pk_f, fX4_hears_69, fX4_hears_70, fX4_hears_71, fX4_hears_73, fX4_hears_74, fX4_hears_77, ↓ex_iadd, fX4_hears_78, fX4_hears_80, fX4_hears_81, fX4_hears_83, fX4_hears_84, fX4_hears_85, fX4_hears_86, fX4_hears_87, fX4_hears_90, fX4_hears_92, fX4_hears_93, fX4_hears_96, fX4_hears_97, fX4_hears_99, fX4_hears_100, fX4_hears_103, fX4_hears_104, fX4_hears_107, fX4_hears_108, fX4_hears_111, fX4_hears_112, fX4_hears_114, fX4_hears_115, fX4_hears_118, fX4_hears_120, fX4_hears_121, fX4_hears_122, fX4_hears_123, fX4_hears_126, fX4_hears_129, fX4_hears_132, fX4_hears_133, fX4_hears_135, fX4_hears_137, fX4_hears_139, fX4_hears_142, fX4_hears_143, fX4_hears_146, fX4_hears_148, fX4_hears_149, fX4_hears_152, fX4_hears_154, fX4_hears_155, fX4_hears_156, fX4_hears_159, fX4_hears_160, fX4_hears_161, ↓ex_if_icmp_le, fX4_hears_164, fX4_hears_167, fX4_hears_170, fX4_hears_171, fX4_hears_174, fX4_hears_176, fX4_hears_177, fX4_hears_178, fX4_hears_181, fX4_hears_184, ↓ex_return_, ↓rt_v, p1, p2, p3, q1, q2, q3, vr_0, clamp0, f52 hF, h1, leN (a := s.n) (b := i) (by omega) (by omega), ↓reduceIte, not_true_eq_false, not_false_eq_true, false_implies, true_implies, implies_true, and_true, true_and, and_false, false_and, or_true, true_or, or_false, false_or, Classical.not_not, ite_true, ite_false]
              refine ⟨fun _ => ?_, fun z => absurd (by omega) z⟩
              refine go hR [(135, [0, 4])] 20 ?_
              simp only [↓reduceIte, Nat.reduceEqDiff, Nat.reduceAdd, Nat.reduceLeDiff, reduceCtorEq, and_true, true_and, false_and, and_false, true_or, or_true, or_false, false_or, true_implies, false_implies, implies_true, not_true_eq_false, not_false_eq_true, eq_self, fx_s, ↓run_s, run_0, ↓rs_n, ↓rs_c, as_s, ls_n, ls_c, lc_s, lget_c, fX4_hears_0, ↓ex_iconst, fX4_hears_1, ↓ex_istore_n, ↓s1I_c, ↓lsto_e, ↓lrmK_n, ↓lrmK_f, ct_i, ct_l, ct_r, fX4_hears_2, ↓ex_iload_n, ↓xI_i, ↓xIg_c, fX4_hears_3, ↓ex_bipush, fX4_hears_5, ↓ex_if_icmp_ge, ↓s2I_c, fX4_hears_8, ↓ex_aload_n, ↓xR_r, ↓xRg_c, fX4_hears_9, ↓ex_getfield, ↓s1R_c, ↓fv_4_3, fX4_hears_12, fX4_hears_13, fX4_hears_14, fX4_hears_15, ↓ex_ishr, fX4_hears_16, fX4_hears_17, ↓ex_iand, fX4_hears_18, fX4_hears_19, ↓ex_if_icmp_ne, fX4_hears_22, fX4_hears_23, ↓ex_goto, fX4_hears_26, ↓ex_sipush, fX4_hears_29, ↓ex_iastore, ↓sRII_c, fX4_hears_30, ↓ex_iinc, fX4_hears_33, fX4_hears_36, fX4_hears_37, fX4_hears_38, fX4_hears_39, ↓ex_ifCond_eq, fX4_hears_42, fX4_hears_43, fX4_hears_44, fX4_hears_45, ↓ex_istore, fX4_hears_47, ↓ex_iload, fX4_hears_49, fX4_hears_50, ↓fv_4_0, fX4_hears_53, fX4_hears_54, ↓ex_iaload, ↓sRI_c, ↓scrR_n, fX4_hears_55, fX4_hears_58, fX4_hears_59, fX4_hears_62, fX4_hears_63, fX4_hears_65, fX4_hears_66, ↓ex_invokevirtual, ↓xc_0, ↓xc_s, ↓xc_1, ↓pk_s, ↓k_s, ↓k_n, catS_n, catS_c, rOk_c, ↓pk_f, fX4_hears_69, fX4_hears_70, fX4_hears_71, fX4_hears_73, fX4_hears_74, fX4_hears_77, ↓ex_iadd, fX4_hears_78, fX4_hears_80, fX4_hears_81, fX4_hears_83, fX4_hears_84, fX4_hears_85, fX4_hears_86, fX4_hears_87, fX4_hears_90, fX4_hears_92, fX4_hears_93, fX4_hears_96, fX4_hears_97, fX4_hears_99, fX4_hears_100, fX4_hears_103, fX4_hears_104, fX4_hears_107, fX4_hears_108, fX4_hears_111, fX4_hears_112, fX4_hears_114, fX4_hears_115, fX4_hears_118, fX4_hears_120, fX4_hears_121, fX4_hears_122, fX4_hears_123, fX4_hears_126, fX4_hears_129, fX4_hears_132, fX4_hears_133, fX4_hears_135, fX4_hears_137, fX4_hears_139, fX4_hears_142, fX4_hears_143, fX4_hears_146, fX4_hears_148, fX4_hears_149, fX4_hears_152, fX4_hears_154, fX4_hears_155, fX4_hears_156, fX4_hears_159, fX4_hears_160, fX4_hears_161, ↓ex_if_icmp_le, fX4_hears_164, fX4_hears_167, fX4_hears_170, fX4_hears_171, fX4_hears_174, fX4_hears_176, fX4_hears_177, fX4_hears_178, fX4_hears_181, fX4_hears_184, ↓ex_return_, ↓rt_v, ↓reduceIte, not_true_eq_false, not_false_eq_true, false_implies, true_implies, implies_true, and_true, true_and, and_false, false_and, or_true, true_or, or_false, false_or, Classical.not_not, ite_true, ite_false]
              exact key3 T hU (fun e he => hst e (by omega)) 8 0 Y (by omega) hF (fun v hv => absurd hv (by omega)) (fun v _ hv => hY v hv)
            · refine go hR [(38, [0, 2, 3]), (47, [0, 2, 3, 4]), (135, [0, 4])] 8 ?_
              simp only [↓reduceIte, Nat.reduceEqDiff, Nat.reduceAdd, Nat.reduceLeDiff, reduceCtorEq, and_true, true_and, false_and, and_false, true_or, or_true, or_false, false_or, true_implies, false_implies, implies_true, not_true_eq_false, not_false_eq_true, eq_self, fx_s, ↓run_s, run_0, ↓rs_n, ↓rs_c, as_s, ls_n, ls_c, lc_s, lget_c, fX4_hears_0, ↓ex_iconst, fX4_hears_1, ↓ex_istore_n, ↓s1I_c, ↓lsto_e, ↓lrmK_n, ↓lrmK_f, ct_i, ct_l, ct_r, fX4_hears_2, ↓ex_iload_n, ↓xI_i, ↓xIg_c, fX4_hears_3, ↓ex_bipush, fX4_hears_5, ↓ex_if_icmp_ge, ↓s2I_c, fX4_hears_8, ↓ex_aload_n, ↓xR_r, ↓xRg_c, fX4_hears_9, ↓ex_getfield, ↓s1R_c, ↓fv_4_3, fX4_hears_12, fX4_hears_13, fX4_hears_14, fX4_hears_15, ↓ex_ishr, fX4_hears_16, fX4_hears_17, ↓ex_iand, fX4_hears_18, fX4_hears_19, ↓ex_if_icmp_ne, fX4_hears_22, fX4_hears_23, ↓ex_goto, fX4_hears_26, ↓ex_sipush, fX4_hears_29, ↓ex_iastore, ↓sRII_c, fX4_hears_30, ↓ex_iinc, fX4_hears_33, fX4_hears_36, fX4_hears_37, fX4_hears_38, fX4_hears_39, ↓ex_ifCond_eq, fX4_hears_42, fX4_hears_43, fX4_hears_44, fX4_hears_45, ↓ex_istore, fX4_hears_47, ↓ex_iload, fX4_hears_49, fX4_hears_50, ↓fv_4_0, fX4_hears_53, fX4_hears_54, ↓ex_iaload, ↓sRI_c, ↓scrR_n, fX4_hears_55, fX4_hears_58, fX4_hears_59, fX4_hears_62, fX4_hears_63, fX4_hears_65, fX4_hears_66, ↓ex_invokevirtual, ↓xc_0, ↓xc_s, ↓xc_1, ↓pk_s, ↓k_s, ↓k_n, catS_n, catS_c, rOk_c, ↓pk_f, fX4_hears_69, fX4_hears_70, fX4_hears_71, fX4_hears_73, fX4_hears_74, fX4_hears_77, ↓ex_iadd, fX4_hears_78, fX4_hears_80, fX4_hears_81, fX4_hears_83, fX4_hears_84, fX4_hears_85, fX4_hears_86, fX4_hears_87, fX4_hears_90, fX4_hears_92, fX4_hears_93, fX4_hears_96, fX4_hears_97, fX4_hears_99, fX4_hears_100, fX4_hears_103, fX4_hears_104, fX4_hears_107, fX4_hears_108, fX4_hears_111, fX4_hears_112, fX4_hears_114, fX4_hears_115, fX4_hears_118, fX4_hears_120, fX4_hears_121, fX4_hears_122, fX4_hears_123, fX4_hears_126, fX4_hears_129, fX4_hears_132, fX4_hears_133, fX4_hears_135, fX4_hears_137, fX4_hears_139, fX4_hears_142, fX4_hears_143, fX4_hears_146, fX4_hears_148, fX4_hears_149, fX4_hears_152, fX4_hears_154, fX4_hears_155, fX4_hears_156, fX4_hears_159, fX4_hears_160, fX4_hears_161, ↓ex_if_icmp_le, fX4_hears_164, fX4_hears_167, fX4_hears_170, fX4_hears_171, fX4_hears_174, fX4_hears_176, fX4_hears_177, fX4_hears_178, fX4_hears_181, fX4_hears_184, ↓ex_return_, ↓rt_v, p1, p2, p3, q1, q2, q3, vr_0, clamp0, f52 hF, h1, leN (a := s.n) (b := i) (by omega) (by omega), ↓reduceIte, not_true_eq_false, not_false_eq_true, false_implies, true_implies, implies_true, and_true, true_and, and_false, false_and, or_true, true_or, or_false, false_or, Classical.not_not, ite_true, ite_false]
              exact ⟨fun _ => ihS (sumT T) hlt T Y (Nat.le_refl _) hU hF hY, fun z => absurd (by omega) z⟩
          | succ k ih =>
            intro i f T Y hi hSm hU hF hY hf
            obtain ⟨a1, a2, a3, a4, a5⟩ := hW.2.1 i (by omega)
            obtain ⟨g1, g2, g3, g4⟩ := h4 i (by omega)
            have tF := hU.1 (s.F i) a1
            have tT := hU.1 (s.T i) a2
            have vi : vp_in (nI i) 12 := vp_inN (by omega) (by omega)
            have vF : vp_in (nI (s.F i)) 8 := vp_inN (by omega) (by omega)
            have vT : vp_in (nI (s.T i)) 8 := vp_inN (by omega) (by omega)
            have eadd : nI (T (s.F i)) + nI (s.D i) = nI (T (s.F i) + s.D i) := nI_add _ _
            refine go hR [(38, [0, 2, 3]), (47, [0, 2, 3, 4]), (135, [0, 4])] 100 ?_
            simp only [↓reduceIte, Nat.reduceEqDiff, Nat.reduceAdd, Nat.reduceLeDiff, reduceCtorEq, and_true, true_and, false_and, and_false, true_or, or_true, or_false, false_or, true_implies, false_implies, implies_true, not_true_eq_false, not_false_eq_true, eq_self, fx_s, ↓run_s, run_0, ↓rs_n, ↓rs_c, as_s, ls_n, ls_c, lc_s, lget_c, fX4_hears_0, ↓ex_iconst, fX4_hears_1, ↓ex_istore_n, ↓s1I_c, ↓lsto_e, ↓lrmK_n, ↓lrmK_f, ct_i, ct_l, ct_r, fX4_hears_2, ↓ex_iload_n, ↓xI_i, ↓xIg_c, fX4_hears_3, ↓ex_bipush, fX4_hears_5, ↓ex_if_icmp_ge, ↓s2I_c, fX4_hears_8, ↓ex_aload_n, ↓xR_r, ↓xRg_c, fX4_hears_9, ↓ex_getfield, ↓s1R_c, ↓fv_4_3, fX4_hears_12, fX4_hears_13, fX4_hears_14, fX4_hears_15, ↓ex_ishr, fX4_hears_16, fX4_hears_17, ↓ex_iand, fX4_hears_18, fX4_hears_19, ↓ex_if_icmp_ne, fX4_hears_22, fX4_hears_23, ↓ex_goto, fX4_hears_26, ↓ex_sipush, fX4_hears_29, ↓ex_iastore, ↓sRII_c, fX4_hears_30, ↓ex_iinc, fX4_hears_33, fX4_hears_36, fX4_hears_37, fX4_hears_38, fX4_hears_39, ↓ex_ifCond_eq, fX4_hears_42, fX4_hears_43, fX4_hears_44, fX4_hears_45, ↓ex_istore, fX4_hears_47, ↓ex_iload, fX4_hears_49, fX4_hears_50, ↓fv_4_0, fX4_hears_53, fX4_hears_54, ↓ex_iaload, ↓sRI_c, ↓scrR_n, fX4_hears_55, fX4_hears_58, fX4_hears_59, fX4_hears_62, fX4_hears_63, fX4_hears_65, fX4_hears_66, ↓ex_invokevirtual, ↓xc_0, ↓xc_s, ↓xc_1, ↓pk_s, ↓k_s, ↓k_n, catS_n, catS_c, rOk_c, ↓pk_f, fX4_hears_69, fX4_hears_70, fX4_hears_71, fX4_hears_73, fX4_hears_74, fX4_hears_77, ↓ex_iadd, fX4_hears_78, fX4_hears_80, fX4_hears_81, fX4_hears_83, fX4_hears_84, fX4_hears_85, fX4_hears_86, fX4_hears_87, fX4_hears_90, fX4_hears_92, fX4_hears_93, fX4_hears_96, fX4_hears_97, fX4_hears_99, fX4_hears_100, fX4_hears_103, fX4_hears_104, fX4_hears_107, fX4_hears_108, fX4_hears_111, fX4_hears_112, fX4_hears_114, fX4_hears_115, fX4_hears_118, fX4_hears_120, fX4_hears_121, fX4_hears_122, fX4_hears_123, fX4_hears_126, fX4_hears_129, fX4_hears_132, fX4_hears_133, fX4_hears_135, fX4_hears_137, fX4_hears_139, fX4_hears_142, fX4_hears_143, fX4_hears_146, fX4_hears_148, fX4_hears_149, fX4_hears_152, fX4_hears_154, fX4_hears_155, fX4_hears_156, fX4_hears_159, fX4_hears_160, fX4_hears_161, ↓ex_if_icmp_le, fX4_hears_164, fX4_hears_167, fX4_hears_170, fX4_hears_171, fX4_hears_174, fX4_hears_176, fX4_hears_177, fX4_hears_178, fX4_hears_181, fX4_hears_184, ↓ex_return_, ↓rt_v, p1, p2, p3, q1, q2, q3, vr_0, clamp0, cl_1, cl_3, vq_0, vq_1, vq_3, ↓C_X4_of, Nat.add_zero, f52 hF, h1, g1, g2, g4, hY (s.F i) a1, hY (s.T i) a2, eadd, clampN (n := i) (by omega), clampN (n := s.F i) (by omega), clampN (n := s.T i) (by omega), leN (a := s.n) (b := i) (by omega) (by omega), leN (a := T (s.T i)) (b := T (s.F i) + s.D i) (by omega) (by omega), bit1 (m := o) (e := i) (by omega) (by omega), add1N, ↓reduceIte, not_true_eq_false, not_false_eq_true, false_implies, true_implies, implies_true, and_true, true_and, and_false, false_and, or_true, true_or, or_false, false_or, Classical.not_not, ite_true, ite_false]
            have stay : ¬ (o.testBit i = true ∧ T (s.F i) + s.D i < T (s.T i)) → R 47 [(0, .ref 51), (2, .int (nI o)), (3, .int f), (4, .int (nI (i + 1)))] [] Y := by
              intro hno
              refine ih (i + 1) f T Y (by omega) hSm hU hF hY ?_
              rcases hf with ⟨f0, hst⟩ | hlt
              · refine Or.inl ⟨f0, fun e he => ?_⟩
                by_cases z : e = i
                · rw [z]; exact hno
                · exact hst e (by omega)
              · exact Or.inr hlt
            refine ⟨fun z => absurd z (by omega), fun _ => ⟨vi, vF, vi, fun hb => stay (fun z => hb z.1), fun hb => ⟨vi, vT, fun hc => stay (fun z => by have := z.2; omega), fun hc => ⟨vi, vT, ?_⟩⟩⟩⟩
            have hlt : T (s.F i) + s.D i < T (s.T i) := by omega
            have hsum : sumT (updN T (s.T i) (T (s.F i) + s.D i)) < sumT T := by
              refine sumT_lt (u := s.T i) (fun v => ?_) a2 ?_
              · rw [updN_a]
                by_cases z : v = s.T i
                · rw [if_pos z, z]; omega
                · rw [if_neg z]; exact Nat.le_refl _
              · rw [updN_a, if_pos rfl]; exact hlt
            refine ih (i + 1) 1 (updN T (s.T i) (T (s.F i) + s.D i)) _ (by omega) (by omega) (hU.step hW (by omega) hb hlt) (Fr.pI (P := fun k => k = 53) hF rfl _ _) (fun v hv => ?_) (Or.inr ⟨rfl, by omega⟩)
            rw [sI_1, if_pos rfl, upd_a, updN_a]
            by_cases z : v = s.T i
            · rw [if_pos z, if_pos z]
            · rw [if_neg z, if_neg z]; exact hY v hv
        refine go hR [(38, [0, 2, 3]), (47, [0, 2, 3, 4]), (135, [0, 4])] 20 ?_
        simp only [↓reduceIte, Nat.reduceEqDiff, Nat.reduceAdd, Nat.reduceLeDiff, reduceCtorEq, and_true, true_and, false_and, and_false, true_or, or_true, or_false, false_or, true_implies, false_implies, implies_true, not_true_eq_false, not_false_eq_true, eq_self, fx_s, ↓run_s, run_0, ↓rs_n, ↓rs_c, as_s, ls_n, ls_c, lc_s, lget_c, fX4_hears_0, ↓ex_iconst, fX4_hears_1, ↓ex_istore_n, ↓s1I_c, ↓lsto_e, ↓lrmK_n, ↓lrmK_f, ct_i, ct_l, ct_r, fX4_hears_2, ↓ex_iload_n, ↓xI_i, ↓xIg_c, fX4_hears_3, ↓ex_bipush, fX4_hears_5, ↓ex_if_icmp_ge, ↓s2I_c, fX4_hears_8, ↓ex_aload_n, ↓xR_r, ↓xRg_c, fX4_hears_9, ↓ex_getfield, ↓s1R_c, ↓fv_4_3, fX4_hears_12, fX4_hears_13, fX4_hears_14, fX4_hears_15, ↓ex_ishr, fX4_hears_16, fX4_hears_17, ↓ex_iand, fX4_hears_18, fX4_hears_19, ↓ex_if_icmp_ne, fX4_hears_22, fX4_hears_23, ↓ex_goto, fX4_hears_26, ↓ex_sipush, fX4_hears_29, ↓ex_iastore, ↓sRII_c, fX4_hears_30, ↓ex_iinc, fX4_hears_33, fX4_hears_36, fX4_hears_37, fX4_hears_38, fX4_hears_39, ↓ex_ifCond_eq, fX4_hears_42, fX4_hears_43, fX4_hears_44, fX4_hears_45, ↓ex_istore, fX4_hears_47, ↓ex_iload, fX4_hears_49, fX4_hears_50, ↓fv_4_0, fX4_hears_53, fX4_hears_54, ↓ex_iaload, ↓sRI_c, ↓scrR_n, fX4_hears_55, fX4_hears_58, fX4_hears_59, fX4_hears_62, fX4_hears_63, fX4_hears_65, fX4_hears_66, ↓ex_invokevirtual, ↓xc_0, ↓xc_s, ↓xc_1, ↓pk_s, ↓k_s, ↓k_n, catS_n, catS_c, rOk_c, ↓pk_f, fX4_hears_69, fX4_hears_70, fX4_hears_71, fX4_hears_73, fX4_hears_74, fX4_hears_77, ↓ex_iadd, fX4_hears_78, fX4_hears_80, fX4_hears_81, fX4_hears_83, fX4_hears_84, fX4_hears_85, fX4_hears_86, fX4_hears_87, fX4_hears_90, fX4_hears_92, fX4_hears_93, fX4_hears_96, fX4_hears_97, fX4_hears_99, fX4_hears_100, fX4_hears_103, fX4_hears_104, fX4_hears_107, fX4_hears_108, fX4_hears_111, fX4_hears_112, fX4_hears_114, fX4_hears_115, fX4_hears_118, fX4_hears_120, fX4_hears_121, fX4_hears_122, fX4_hears_123, fX4_hears_126, fX4_hears_129, fX4_hears_132, fX4_hears_133, fX4_hears_135, fX4_hears_137, fX4_hears_139, fX4_hears_142, fX4_hears_143, fX4_hears_146, fX4_hears_148, fX4_hears_149, fX4_hears_152, fX4_hears_154, fX4_hears_155, fX4_hears_156, fX4_hears_159, fX4_hears_160, fX4_hears_161, ↓ex_if_icmp_le, fX4_hears_164, fX4_hears_167, fX4_hears_170, fX4_hears_171, fX4_hears_174, fX4_hears_176, fX4_hears_177, fX4_hears_178, fX4_hears_181, fX4_hears_184, ↓ex_return_, ↓rt_v, i10, ↓reduceIte, not_true_eq_false, not_false_eq_true, false_implies, true_implies, implies_true, and_true, true_and, and_false, false_and, or_true, true_or, or_false, false_or, Classical.not_not, ite_true, ite_false]
        exact pass s.n 0 0 T Y (by omega) hSm hU hF hY (Or.inl ⟨rfl, fun e he => absurd he (by omega)⟩)
    -- the start
    have key1 : ∀ k i Y, i + k = 8 → Fr (fun k => k = 53) X Y → (∀ v, v < i → Y.1 53 v = nI (if m.testBit v then 0 else 1000)) → R 2 [(0, .ref 51), (1, .int (nI m)), (2, .int (nI o)), (3, .int (nI i))] [] Y := by
      intro k
      induction k with
      | zero =>
        intro i Y hi hF a1
        refine go hR [(2, [0, 1, 2, 3]), (38, [0, 2, 3])] 60 ?_
        simp only [↓reduceIte, Nat.reduceEqDiff, Nat.reduceAdd, Nat.reduceLeDiff, reduceCtorEq, and_true, true_and, false_and, and_false, true_or, or_true, or_false, false_or, true_implies, false_implies, implies_true, not_true_eq_false, not_false_eq_true, eq_self, fx_s, ↓run_s, run_0, ↓rs_n, ↓rs_c, as_s, ls_n, ls_c, lc_s, lget_c, fX4_hears_0, ↓ex_iconst, fX4_hears_1, ↓ex_istore_n, ↓s1I_c, ↓lsto_e, ↓lrmK_n, ↓lrmK_f, ct_i, ct_l, ct_r, fX4_hears_2, ↓ex_iload_n, ↓xI_i, ↓xIg_c, fX4_hears_3, ↓ex_bipush, fX4_hears_5, ↓ex_if_icmp_ge, ↓s2I_c, fX4_hears_8, ↓ex_aload_n, ↓xR_r, ↓xRg_c, fX4_hears_9, ↓ex_getfield, ↓s1R_c, ↓fv_4_3, fX4_hears_12, fX4_hears_13, fX4_hears_14, fX4_hears_15, ↓ex_ishr, fX4_hears_16, fX4_hears_17, ↓ex_iand, fX4_hears_18, fX4_hears_19, ↓ex_if_icmp_ne, fX4_hears_22, fX4_hears_23, ↓ex_goto, fX4_hears_26, ↓ex_sipush, fX4_hears_29, ↓ex_iastore, ↓sRII_c, fX4_hears_30, ↓ex_iinc, fX4_hears_33, fX4_hears_36, fX4_hears_37, fX4_hears_38, fX4_hears_39, ↓ex_ifCond_eq, fX4_hears_42, fX4_hears_43, fX4_hears_44, fX4_hears_45, ↓ex_istore, fX4_hears_47, ↓ex_iload, fX4_hears_49, fX4_hears_50, ↓fv_4_0, fX4_hears_53, fX4_hears_54, ↓ex_iaload, ↓sRI_c, ↓scrR_n, fX4_hears_55, fX4_hears_58, fX4_hears_59, fX4_hears_62, fX4_hears_63, fX4_hears_65, fX4_hears_66, ↓ex_invokevirtual, ↓xc_0, ↓xc_s, ↓xc_1, ↓pk_s, ↓k_s, ↓k_n, catS_n, catS_c, rOk_c, ↓pk_f, fX4_hears_69, fX4_hears_70, fX4_hears_71, fX4_hears_73, fX4_hears_74, fX4_hears_77, ↓ex_iadd, fX4_hears_78, fX4_hears_80, fX4_hears_81, fX4_hears_83, fX4_hears_84, fX4_hears_85, fX4_hears_86, fX4_hears_87, fX4_hears_90, fX4_hears_92, fX4_hears_93, fX4_hears_96, fX4_hears_97, fX4_hears_99, fX4_hears_100, fX4_hears_103, fX4_hears_104, fX4_hears_107, fX4_hears_108, fX4_hears_111, fX4_hears_112, fX4_hears_114, fX4_hears_115, fX4_hears_118, fX4_hears_120, fX4_hears_121, fX4_hears_122, fX4_hears_123, fX4_hears_126, fX4_hears_129, fX4_hears_132, fX4_hears_133, fX4_hears_135, fX4_hears_137, fX4_hears_139, fX4_hears_142, fX4_hears_143, fX4_hears_146, fX4_hears_148, fX4_hears_149, fX4_hears_152, fX4_hears_154, fX4_hears_155, fX4_hears_156, fX4_hears_159, fX4_hears_160, fX4_hears_161, ↓ex_if_icmp_le, fX4_hears_164, fX4_hears_167, fX4_hears_170, fX4_hears_171, fX4_hears_174, fX4_hears_176, fX4_hears_177, fX4_hears_178, fX4_hears_181, fX4_hears_184, ↓ex_return_, ↓rt_v, leI, nI_toInt (n := i) (by omega), tI_m5, tI_m4, tI_m3, tI_m2, tI_m1, tI_0, tI_1, tI_2, tI_3, tI_4, tI_5, tI_7, tI_8, tI_10, tI_12, tI_30, tI_31, tI_32, tI_47, tI_48, tI_57, tI_59, tI_42, tI_43, tI_45, tI_61, tI_62, tI_100, tI_120, tI_255, tI_1000, ↓reduceIte, not_true_eq_false, not_false_eq_true, false_implies, true_implies, implies_true, and_true, true_and, and_false, false_and, or_true, true_or, or_false, false_or, Classical.not_not, ite_true, ite_false]
        exact ⟨fun _ => key2 _ _ Y (Nat.le_refl _) (UI.init s m o) hF (fun v hv => a1 v (by omega)), fun z => absurd (by omega) z⟩
      | succ k ih =>
        intro i Y hi hF a1
        refine go hR [(2, [0, 1, 2, 3]), (38, [0, 2, 3])] 60 ?_
        simp only [↓reduceIte, Nat.reduceEqDiff, Nat.reduceAdd, Nat.reduceLeDiff, reduceCtorEq, and_true, true_and, false_and, and_false, true_or, or_true, or_false, false_or, true_implies, false_implies, implies_true, not_true_eq_false, not_false_eq_true, eq_self, fx_s, ↓run_s, run_0, ↓rs_n, ↓rs_c, as_s, ls_n, ls_c, lc_s, lget_c, fX4_hears_0, ↓ex_iconst, fX4_hears_1, ↓ex_istore_n, ↓s1I_c, ↓lsto_e, ↓lrmK_n, ↓lrmK_f, ct_i, ct_l, ct_r, fX4_hears_2, ↓ex_iload_n, ↓xI_i, ↓xIg_c, fX4_hears_3, ↓ex_bipush, fX4_hears_5, ↓ex_if_icmp_ge, ↓s2I_c, fX4_hears_8, ↓ex_aload_n, ↓xR_r, ↓xRg_c, fX4_hears_9, ↓ex_getfield, ↓s1R_c, ↓fv_4_3, fX4_hears_12, fX4_hears_13, fX4_hears_14, fX4_hears_15, ↓ex_ishr, fX4_hears_16, fX4_hears_17, ↓ex_iand, fX4_hears_18, fX4_hears_19, ↓ex_if_icmp_ne, fX4_hears_22, fX4_hears_23, ↓ex_goto, fX4_hears_26, ↓ex_sipush, fX4_hears_29, ↓ex_iastore, ↓sRII_c, fX4_hears_30, ↓ex_iinc, fX4_hears_33, fX4_hears_36, fX4_hears_37, fX4_hears_38, fX4_hears_39, ↓ex_ifCond_eq, fX4_hears_42, fX4_hears_43, fX4_hears_44, fX4_hears_45, ↓ex_istore, fX4_hears_47, ↓ex_iload, fX4_hears_49, fX4_hears_50, ↓fv_4_0, fX4_hears_53, fX4_hears_54, ↓ex_iaload, ↓sRI_c, ↓scrR_n, fX4_hears_55, fX4_hears_58, fX4_hears_59, fX4_hears_62, fX4_hears_63, fX4_hears_65, fX4_hears_66, ↓ex_invokevirtual, ↓xc_0, ↓xc_s, ↓xc_1, ↓pk_s, ↓k_s, ↓k_n, catS_n, catS_c, rOk_c, ↓pk_f, fX4_hears_69, fX4_hears_70, fX4_hears_71, fX4_hears_73, fX4_hears_74, fX4_hears_77, ↓ex_iadd, fX4_hears_78, fX4_hears_80, fX4_hears_81, fX4_hears_83, fX4_hears_84, fX4_hears_85, fX4_hears_86, fX4_hears_87, fX4_hears_90, fX4_hears_92, fX4_hears_93, fX4_hears_96, fX4_hears_97, fX4_hears_99, fX4_hears_100, fX4_hears_103, fX4_hears_104, fX4_hears_107, fX4_hears_108, fX4_hears_111, fX4_hears_112, fX4_hears_114, fX4_hears_115, fX4_hears_118, fX4_hears_120, fX4_hears_121, fX4_hears_122, fX4_hears_123, fX4_hears_126, fX4_hears_129, fX4_hears_132, fX4_hears_133, fX4_hears_135, fX4_hears_137, fX4_hears_139, fX4_hears_142, fX4_hears_143, fX4_hears_146, fX4_hears_148, fX4_hears_149, fX4_hears_152, fX4_hears_154, fX4_hears_155, fX4_hears_156, fX4_hears_159, fX4_hears_160, fX4_hears_161, ↓ex_if_icmp_le, fX4_hears_164, fX4_hears_167, fX4_hears_170, fX4_hears_171, fX4_hears_174, fX4_hears_176, fX4_hears_177, fX4_hears_178, fX4_hears_181, fX4_hears_184, ↓ex_return_, ↓rt_v, p1, p3, q1, q3, leI, nI_toInt (n := i) (by omega), clampN (n := i) (by omega), bit1 (m := m) (e := i) (by omega) (by omega), tI_m5, tI_m4, tI_m3, tI_m2, tI_m1, tI_0, tI_1, tI_2, tI_3, tI_4, tI_5, tI_7, tI_8, tI_10, tI_12, tI_30, tI_31, tI_32, tI_47, tI_48, tI_57, tI_59, tI_42, tI_43, tI_45, tI_61, tI_62, tI_100, tI_120, tI_255, tI_1000, add1N, ↓reduceIte, not_true_eq_false, not_false_eq_true, false_implies, true_implies, implies_true, and_true, true_and, and_false, false_and, or_true, true_or, or_false, false_or, Classical.not_not, ite_true, ite_false]
        have vi : vp_in (nI i) 8 := vp_inN (by omega) (by omega)
        have nx : ∀ w, w = nI (if m.testBit i then 0 else 1000) → R 2 [(0, .ref 51), (1, .int (nI m)), (2, .int (nI o)), (3, .int (nI (i + 1)))] [] (sI Y 53 i w) := by
          intro w hw
          refine ih (i + 1) _ (by omega) (Fr.pI (P := fun k => k = 53) hF rfl _ _) (fun v hv => ?_)
          rw [sI_1, if_pos rfl, upd_a]
          by_cases z : v = i
          · rw [if_pos z, z, hw]
          · rw [if_neg z]; exact a1 v (by omega)
        refine ⟨fun z => absurd z (by omega), fun _ => ⟨fun z => ⟨vi, nx _ ?_⟩, fun z => ⟨vi, nx _ ?_⟩⟩⟩
        · rw [if_neg z]; rfl
        · rw [if_pos z]; rfl
    refine go hR [(2, [0, 1, 2, 3])] 60 ?_
    simp only [lv_args, ↓reduceIte, Nat.reduceEqDiff, Nat.reduceAdd, Nat.reduceLeDiff, reduceCtorEq, and_true, true_and, false_and, and_false, true_or, or_true, or_false, false_or, true_implies, false_implies, implies_true, not_true_eq_false, not_false_eq_true, eq_self, fx_s, ↓run_s, run_0, ↓rs_n, ↓rs_c, as_s, ls_n, ls_c, lc_s, lget_c, fX4_hears_0, ↓ex_iconst, fX4_hears_1, ↓ex_istore_n, ↓s1I_c, ↓lsto_e, ↓lrmK_n, ↓lrmK_f, ct_i, ct_l, ct_r, fX4_hears_2, ↓ex_iload_n, ↓xI_i, ↓xIg_c, fX4_hears_3, ↓ex_bipush, fX4_hears_5, ↓ex_if_icmp_ge, ↓s2I_c, fX4_hears_8, ↓ex_aload_n, ↓xR_r, ↓xRg_c, fX4_hears_9, ↓ex_getfield, ↓s1R_c, ↓fv_4_3, fX4_hears_12, fX4_hears_13, fX4_hears_14, fX4_hears_15, ↓ex_ishr, fX4_hears_16, fX4_hears_17, ↓ex_iand, fX4_hears_18, fX4_hears_19, ↓ex_if_icmp_ne, fX4_hears_22, fX4_hears_23, ↓ex_goto, fX4_hears_26, ↓ex_sipush, fX4_hears_29, ↓ex_iastore, ↓sRII_c, fX4_hears_30, ↓ex_iinc, fX4_hears_33, fX4_hears_36, fX4_hears_37, fX4_hears_38, fX4_hears_39, ↓ex_ifCond_eq, fX4_hears_42, fX4_hears_43, fX4_hears_44, fX4_hears_45, ↓ex_istore, fX4_hears_47, ↓ex_iload, fX4_hears_49, fX4_hears_50, ↓fv_4_0, fX4_hears_53, fX4_hears_54, ↓ex_iaload, ↓sRI_c, ↓scrR_n, fX4_hears_55, fX4_hears_58, fX4_hears_59, fX4_hears_62, fX4_hears_63, fX4_hears_65, fX4_hears_66, ↓ex_invokevirtual, ↓xc_0, ↓xc_s, ↓xc_1, ↓pk_s, ↓k_s, ↓k_n, catS_n, catS_c, rOk_c, ↓pk_f, fX4_hears_69, fX4_hears_70, fX4_hears_71, fX4_hears_73, fX4_hears_74, fX4_hears_77, ↓ex_iadd, fX4_hears_78, fX4_hears_80, fX4_hears_81, fX4_hears_83, fX4_hears_84, fX4_hears_85, fX4_hears_86, fX4_hears_87, fX4_hears_90, fX4_hears_92, fX4_hears_93, fX4_hears_96, fX4_hears_97, fX4_hears_99, fX4_hears_100, fX4_hears_103, fX4_hears_104, fX4_hears_107, fX4_hears_108, fX4_hears_111, fX4_hears_112, fX4_hears_114, fX4_hears_115, fX4_hears_118, fX4_hears_120, fX4_hears_121, fX4_hears_122, fX4_hears_123, fX4_hears_126, fX4_hears_129, fX4_hears_132, fX4_hears_133, fX4_hears_135, fX4_hears_137, fX4_hears_139, fX4_hears_142, fX4_hears_143, fX4_hears_146, fX4_hears_148, fX4_hears_149, fX4_hears_152, fX4_hears_154, fX4_hears_155, fX4_hears_156, fX4_hears_159, fX4_hears_160, fX4_hears_161, ↓ex_if_icmp_le, fX4_hears_164, fX4_hears_167, fX4_hears_170, fX4_hears_171, fX4_hears_174, fX4_hears_176, fX4_hears_177, fX4_hears_178, fX4_hears_181, fX4_hears_184, ↓ex_return_, ↓rt_v, ↓reduceIte, not_true_eq_false, not_false_eq_true, false_implies, true_implies, implies_true, and_true, true_and, and_false, false_and, or_true, true_or, or_false, false_or, Classical.not_not, ite_true, ite_false]
    exact key1 8 0 X (by omega) (Fr.rf _ _) (fun v hv => absurd hv (by omega))
  next => exact hC.elim)
end HEARS
