section TEXTI
/-- a reading: where it ends, and the scene that it makes, or none where it is refused -/
abbrev Rd : Type := Nat × Option SV
noncomputable def obR2 (k : Nat) (s : SV) (r : Nat × Int32) : Rd := cif (r.2 = -1) (r.1, none) (r.1, some (s_see s k r.2))
noncomputable def obR (n : Nat) (b : Nat → Int32) (k : Nat) (s : SV) (j : Nat) : Rd := cif (byA n b j = 45) (j + 1, some (s_see s k (-1))) (obR2 k s (numR n b 0 30 j))
noncomputable def edR5 (s : SV) (a to w : Nat) (q : Nat × Int32) : Rd := cif (q.2 = -1) (q.1, none) (q.1, some (s_put s a to w (cl q.2)))
noncomputable def edR4 (n : Nat) (b : Nat → Int32) (s : SV) (a to w j : Nat) : Rd := cif (byA n b j = 43) (edR5 s a to w (numR n b 1 5 (skp n b (n - (j + 1)) (j + 1)))) (j, none)
noncomputable def edR3 (n : Nat) (b : Nat → Int32) (s : SV) (a to : Nat) (r : Nat × Int32) : Rd := cif (r.2 = -1) (r.1, none) (edR4 n b s a to (cl r.2) (skp n b (n - r.1) r.1))
noncomputable def edR2 (n : Nat) (b : Nat → Int32) (s : SV) (a to j : Nat) : Rd := cif (byA n b j = 42) (edR3 n b s a to (numR n b 0 10 (skp n b (n - (j + 1)) (j + 1)))) (j, none)
def noEd (s : SV) (a : Nat) (to : Int32) : Prop := to = -1 ∨ to = nI a ∨ (s.n = 12 ∧ fidx s a (cl to) = none)
noncomputable def edR (n : Nat) (b : Nat → Int32) (s : SV) (a j : Nat) : Rd := cif (noEd s a (s_nodeAt (byA n b j))) (j, none) (edR2 n b s a (cl (s_nodeAt (byA n b j))) (skp n b (n - (j + 1)) (j + 1)))
noncomputable def itR2 (n : Nat) (b : Nat → Int32) (s : SV) (a j : Nat) : Rd := cif (byA n b j = 62) (edR n b s a (skp n b (n - (j + 1)) (j + 1))) (cif (byA n b j = 61) (obR n b a s (skp n b (n - (j + 1)) (j + 1))) (j, none))
noncomputable def itR (n : Nat) (b : Nat → Int32) (s : SV) (j : Nat) : Rd := cif (s_nodeAt (byA n b j) = -1) (j, none) (itR2 n b s (cl (s_nodeAt (byA n b j))) (skp n b (n - (j + 1)) (j + 1)))
def frD (X X' : XT) : Prop := Fr (fun k => k = 12 ∨ scn 14 k) X X' ∧ ∀ p, p ≠ 3 → p ≠ 4 → X'.1 12 p = X.1 12 p
theorem fr34.D {X X' : XT} (h : fr34 X X') : frD X X' := ⟨h.1.mono (fun _ z => Or.inl z), h.2⟩
theorem fr12.D {X X' : XT} (h : fr12 X X') : frD X X' := h.fr34.D
theorem frD.tr {X Y Z : XT} (h : frD X Y) (g : frD Y Z) : frD X Z := ⟨h.1.tr g.1, fun p hp hq => (g.2 p hp hq).trans (h.2 p hp hq)⟩
theorem fr34.rs {X X' : XT} (h : fr34 X X') {s : SV} (hs : RS X 14 s) : RS X' 14 s := hs.fr h.1 (fun k hk z => by unfold scn at hk; omega)
theorem fr12.rs {X X' : XT} (h : fr12 X X') {s : SV} (hs : RS X 14 s) : RS X' 14 s := h.fr34.rs hs
theorem TXt.frS {X X' : XT} {n : Nat} {b : Nat → Int32} {i : Nat} (h : TXt X n b i) (hF : Fr (scn 14) X X') : TXt X' n b i := by
  obtain ⟨t1, t2, t3, t4, t5⟩ := h
  have e12 := hF.1 12 (fun z => by unfold scn at z; omega)
  have e13 := hF.1 13 (fun z => by unfold scn at z; omega)
  exact ⟨t1, t2, by rw [e12]; exact t3, by rw [e12]; exact t4, fun j hj => by rw [e13]; exact t5 j hj⟩
theorem frD.S {X X' : XT} (hF : Fr (scn 14) X X') : frD X X' := ⟨hF.mono (fun _ z => Or.inr z), fun p _ _ => by rw [hF.1 12 (fun z => by unfold scn at z; omega)]⟩
/-- what holds behind a reading r -/
def RdC (n : Nat) (b : Nat → Int32) (r : Rd) (X : XT) (K : Option Value → XT → Prop) : Prop := ∀ X', frD X X' → TXt X' n b r.1 →
  (∀ s', r.2 = some s' → RS X' 14 s' → X'.1 12 4 = X.1 12 4 → K (some (.int 1)) X') ∧ (r.2 = none → X'.1 12 4 = nI r.1 → K (some (.int 0)) X')
theorem nodeAt_in {c : Int32} (h : s_nodeAt c ≠ -1) : cl (s_nodeAt c) < 8 ∧ s_nodeAt c = nI (cl (s_nodeAt c)) := by
  unfold s_nodeAt at h ⊢
  by_cases z : inR (c - 48) 0 7
  · rw [cif_t z] at h ⊢
    obtain ⟨_, h2, h3⟩ := inR_cl (lo := 0) (hi := 7) (by omega) z
    exact ⟨by omega, h3⟩
  · rw [cif_f z] at h; exact absurd rfl h
theorem byA_lt {n : Nat} {b : Nat → Int32} {j : Nat} {c : Int32} (h : byA n b j = c) (hc : c ≠ -1) : j < n := by
  refine Classical.byContradiction fun z => hc ?_
  rw [← h]; unfold byA; exact cif_f z
theorem nodeAt_lt {n : Nat} {b : Nat → Int32} {j : Nat} (h : s_nodeAt (byA n b j) ≠ -1) : j < n := by
  refine byA_lt (b := b) (c := byA n b j) rfl (fun z => h ?_)
  rw [z]; unfold s_nodeAt; exact cif_f (fun y => by have h1 : (0 : Int) ≤ ((-1 : Int32) - 48).toInt := y.1; exact absurd h1 (by decide))
noncomputable def C_X2_readObservation : CT := fun As X K => match As with
  | [.ref r, .int v] => ∃ (n : Nat) (b : Nat → Int32) (s : SV) (i k : Nat), (r = 12 ∧ TXt X n b i ∧ RS X 14 s ∧ v = nI k ∧ k < 8) ∧ RdC n b (obR n b k s (skp n b (n - i) i)) X K
  | _ => False
theorem frD.see {X Y : XT} (h : frD X Y) (k : Nat) (t : Int32) : frD X (sI Y 19 k t) := ⟨h.1.pI (Or.inr ⟨by omega, by omega⟩) _ _, fun p hp hq => by rw [sI_1, if_neg (by decide)]; exact h.2 p hp hq⟩
theorem TXt.see {X : XT} {n : Nat} {b : Nat → Int32} {i : Nat} (h : TXt X n b i) (k : Nat) (t : Int32) : TXt (sI X 19 k t) n b i := h
set_option maxRecDepth 20000 in
set_option maxHeartbeats 4000000 in
theorem d_X2_readObservation (l : Launch) : Does l yX2_readObservation (wY yX2_readObservation cX2_readObservation 3 (retT 1)) (rmF 2) C_X2_readObservation := does_of (rt := 1) (by decide +kernel) tkX2_readObservation (calls := [(50, false, 1, 2, C_X2_nextByte), (70, false, 3, 2, C_X2_readNumber)]) (List.forall_mem_cons.mpr ⟨cr_V (d_X2_nextByte l) rfl (by decide +kernel) (by decide +kernel) ⟨rfl, rfl⟩ ⟨Nat.le_of_ble_eq_true rfl, Nat.le_of_ble_eq_true rfl⟩, List.forall_mem_cons.mpr ⟨cr_V (d_X2_readNumber l) rfl (by decide +kernel) (by decide +kernel) ⟨rfl, rfl⟩ ⟨Nat.le_of_ble_eq_true rfl, Nat.le_of_ble_eq_true rfl⟩, fun _ h => absurd h List.not_mem_nil⟩⟩) (by
  intro As X post hC
  unfold C_X2_readObservation at hC
  split at hC
  next r v =>
    obtain ⟨n, b, s, i0, k, ⟨rfl, hT0, hS, rfl, hk⟩, hpost⟩ := hC
    refine ⟨Nat.le_of_ble_eq_true rfl, fun R hR => ?_⟩
    obtain ⟨⟨p0, p7, p12, p13⟩, q0, q7, q12, q13⟩ := sh_text
    obtain ⟨s0, s1, s2, s3, s4, s5, -⟩ := isSc_shp (b := 14) (by unfold isSc; simp)
    obtain ⟨l0, l1, l2, l3, l4, l5⟩ := isSc_lt (b := 14) (by unfold isSc; simp)
    have e := skp_idem n b (n - i0) i0 rfl
    have hj := skp_at n b i0 hT0.2.1
    obtain ⟨J, hJ⟩ : ∃ J, J = skp n b (n - i0) i0 := ⟨_, rfl⟩
    rw [← hJ] at hpost e hj
    refine go hR [] 60 ?_
    simp only [lv_args, ↓reduceIte, Nat.reduceEqDiff, Nat.reduceAdd, Nat.reduceLeDiff, reduceCtorEq, and_true, true_and, false_and, and_false, true_or, or_true, or_false, false_or, true_implies, false_implies, implies_true, not_true_eq_false, not_false_eq_true, eq_self, fx_s, ↓run_s, run_0, ↓rs_n, ↓rs_c, as_s, ls_n, ls_c, lc_s, lget_c, fX2_readObservation_0, ↓ex_aload_n, ↓xR_r, ↓xRg_c, fX2_readObservation_1, ↓ex_invokevirtual, ↓xc_0, ↓xc_s, ↓xc_1, ↓pk_s, ↓k_s, ↓k_n, catS_n, catS_c, rOk_c, ct_i, ct_l, ct_r, ↓pk_f, fX2_readObservation_4, ↓ex_bipush, fX2_readObservation_6, ↓ex_if_icmp_ne, ↓s2I_c, fX2_readObservation_9, fX2_readObservation_10, ↓ex_dup, fX2_readObservation_11, ↓ex_getfield, ↓s1R_c, ↓fv_2_3, fX2_readObservation_14, ↓ex_iconst, fX2_readObservation_15, ↓ex_iadd, fX2_readObservation_16, ↓ex_putfield, ↓pf_2_3, fX2_readObservation_19, fX2_readObservation_20, ↓fv_2_2, fX2_readObservation_23, ↓fv_0_6, fX2_readObservation_26, ↓ex_iload_n, ↓xI_i, ↓xIg_c, fX2_readObservation_27, fX2_readObservation_28, ↓ex_iastore, ↓sRII_c, fX2_readObservation_29, fX2_readObservation_30, ↓ex_ireturn, ↓rt_i, fX2_readObservation_31, fX2_readObservation_32, fX2_readObservation_33, fX2_readObservation_35, fX2_readObservation_38, ↓ex_istore_n, ↓s1I_c, ↓lsto_e, ↓lrmK_n, ↓lrmK_f, fX2_readObservation_39, fX2_readObservation_40, fX2_readObservation_41, fX2_readObservation_44, fX2_readObservation_45, fX2_readObservation_46, fX2_readObservation_47, fX2_readObservation_50, fX2_readObservation_53, fX2_readObservation_54, fX2_readObservation_55, fX2_readObservation_56, fX2_readObservation_57, p12, q12, s0, s5, l0, l5, ↓C_X2_nextByte, ↓C_X2_readNumber, clampN (n := k) (by omega), ↓reduceIte, not_true_eq_false, not_false_eq_true, false_implies, true_implies, implies_true, and_true, true_and, and_false, false_and, or_true, true_or, or_false, false_or, Classical.not_not, ite_true, ite_false]
    refine ⟨n, b, i0, hT0, ?_⟩
    rw [← hJ]
    intro Y hF hT
    unfold obR at hpost
    refine ⟨fun z => ⟨n, b, J, ⟨hT, by decide⟩, ?_⟩, fun z => ?_⟩
    · rw [cif_f z] at hpost
      rw [e]
      intro Z hZ hTZ h1 h2
      unfold obR2 at hpost
      refine ⟨fun y => ⟨vp_inN (by omega) hk, bl_1, ?_⟩, fun y => ⟨bl_0, ?_⟩⟩
      · rw [cif_f y] at hpost
        exact (hpost _ ((hF.fr34.tr hZ).D.see k _) (hTZ.see k _)).1 _ rfl (RS_see ((hF.fr34.tr hZ).rs hS) k _) (by rw [sI_1, if_neg (by decide), h2 y]; exact hF.2 4 (by omega))
      · rw [cif_t y] at hpost
        exact (hpost _ (hF.fr34.tr hZ).D hTZ).2 rfl (h1 y)
    · rw [cif_t z] at hpost
      have hlt := byA_lt z (by decide)
      rw [hT.2.2.2.1, add1N]
      exact ⟨vp_inN (by omega) hk, bl_1, (hpost _ ((hF.set _).D.see k _) ((hT.set (by omega)).see k _)).1 _ rfl (RS_see ((hF.set _).rs hS) k _) (by simp [sI_1, upd_a, hF.2 4 (by omega)])⟩
  next => exact hC.elim)
theorem i10 : ((1 : Int32) = 0) = False := eq_false (by decide)
theorem s_at_le (s : SV) (a t : Nat) : s_at s a t ≤ s.n := by
  unfold s_at
  cases h : fidx s a t with
  | none => exact Nat.le_refl _
  | some j => have := (fidx_some h).1; show j ≤ s.n; omega
noncomputable def C_X2_readEdge : CT := fun As X K => match As with
  | [.ref r, .int v] => ∃ (n : Nat) (b : Nat → Int32) (s : SV) (i a : Nat), (r = 12 ∧ TXt X n b i ∧ RS X 14 s ∧ WF s ∧ v = nI a ∧ a < 8) ∧ RdC n b (edR n b s a (skp n b (n - i) i)) X K
  | _ => False
set_option maxRecDepth 20000 in
set_option maxHeartbeats 4000000 in
theorem d_X2_readEdge (l : Launch) : Does l yX2_readEdge (wY yX2_readEdge cX2_readEdge 6 (retT 1)) (rmF 2) C_X2_readEdge := does_of (rt := 1) (by decide +kernel) tkX2_readEdge (calls := [(43, false, 1, 2, C_X2_nextNode), (63, false, 1, 0, C_X0_isFull), (66, false, 3, 0, C_X0_find), (47, false, 1, 2, C_X2_refuse), (60, false, 2, 2, C_X2_accept), (70, false, 3, 2, C_X2_readNumber), (73, false, 5, 0, C_X0_put)]) (List.forall_mem_cons.mpr ⟨cr_V (d_X2_nextNode l) rfl (by decide +kernel) (by decide +kernel) ⟨rfl, rfl⟩ ⟨Nat.le_of_ble_eq_true rfl, Nat.le_of_ble_eq_true rfl⟩, List.forall_mem_cons.mpr ⟨cr_NV (d_X0_isFull l) rfl (by decide +kernel) (by decide +kernel) (by decide +kernel) ⟨rfl, rfl⟩ ⟨Nat.le_of_ble_eq_true rfl, Nat.le_of_ble_eq_true rfl⟩, List.forall_mem_cons.mpr ⟨cr_NV (d_X0_find l) rfl (by decide +kernel) (by decide +kernel) (by decide +kernel) ⟨rfl, rfl⟩ ⟨Nat.le_of_ble_eq_true rfl, Nat.le_of_ble_eq_true rfl⟩, List.forall_mem_cons.mpr ⟨cr_V (d_X2_refuse l) rfl (by decide +kernel) (by decide +kernel) ⟨rfl, rfl⟩ ⟨Nat.le_of_ble_eq_true rfl, Nat.le_of_ble_eq_true rfl⟩, List.forall_mem_cons.mpr ⟨cr_V (d_X2_accept l) rfl (by decide +kernel) (by decide +kernel) ⟨rfl, rfl⟩ ⟨Nat.le_of_ble_eq_true rfl, Nat.le_of_ble_eq_true rfl⟩, List.forall_mem_cons.mpr ⟨cr_V (d_X2_readNumber l) rfl (by decide +kernel) (by decide +kernel) ⟨rfl, rfl⟩ ⟨Nat.le_of_ble_eq_true rfl, Nat.le_of_ble_eq_true rfl⟩, List.forall_mem_cons.mpr ⟨cr_NV (d_X0_put l) rfl (by decide +kernel) (by decide +kernel) (by decide +kernel) ⟨rfl, rfl⟩ ⟨Nat.le_of_ble_eq_true rfl, Nat.le_of_ble_eq_true rfl⟩, fun _ h => absurd h List.not_mem_nil⟩⟩⟩⟩⟩⟩⟩) (by
  intro As X post hC
  unfold C_X2_readEdge at hC
  split at hC
  next r v =>
    obtain ⟨n, b, s, i0, a, ⟨rfl, hT0, hS, hW, rfl, ha⟩, hpost⟩ := hC
    refine ⟨Nat.le_of_ble_eq_true rfl, fun R hR => ?_⟩
    obtain ⟨⟨p0, p7, p12, p13⟩, q0, q7, q12, q13⟩ := sh_text
    obtain ⟨s0, s1, s2, s3, s4, s5, -⟩ := isSc_shp (b := 14) (by unfold isSc; simp)
    obtain ⟨l0, l1, l2, l3, l4, l5⟩ := isSc_lt (b := 14) (by unfold isSc; simp)
    have sc14 : isSc 14 := by unfold isSc; simp
    have e := skp_idem n b (n - i0) i0 rfl
    have hj := skp_at n b i0 hT0.2.1
    obtain ⟨J, hJ⟩ : ∃ J, J = skp n b (n - i0) i0 := ⟨_, rfl⟩
    rw [← hJ] at hpost e hj
    have bad : ∀ Y, fr12 X Y → TXt Y n b J → noEd s a (s_nodeAt (byA n b J)) → R 48 [(0, .ref 12)] [] Y := by
      intro Y hF hT hno
      unfold edR at hpost
      rw [cif_t hno] at hpost
      refine go hR [] 40 ?_
      simp only [↓reduceIte, Nat.reduceEqDiff, Nat.reduceAdd, Nat.reduceLeDiff, reduceCtorEq, and_true, true_and, false_and, and_false, true_or, or_true, or_false, false_or, true_implies, false_implies, implies_true, not_true_eq_false, not_false_eq_true, eq_self, fx_s, ↓run_s, run_0, ↓rs_n, ↓rs_c, as_s, ls_n, ls_c, lc_s, lget_c, fX2_readEdge_0, ↓ex_aload_n, ↓xR_r, ↓xRg_c, fX2_readEdge_1, ↓ex_invokevirtual, ↓xc_0, ↓xc_s, ↓xc_1, ↓pk_s, ↓k_s, ↓k_n, catS_n, catS_c, rOk_c, ct_i, ct_l, ct_r, ↓pk_f, fX2_readEdge_4, ↓ex_istore_n, ↓s1I_c, ↓lsto_e, ↓lrmK_n, ↓lrmK_f, fX2_readEdge_5, fX2_readEdge_6, ↓ex_getfield, ↓s1R_c, ↓fv_2_2, fX2_readEdge_9, fX2_readEdge_12, ↓ex_ifCond_eq, fX2_readEdge_15, fX2_readEdge_16, fX2_readEdge_19, ↓ex_iload_n, ↓xI_i, ↓xIg_c, fX2_readEdge_20, fX2_readEdge_21, fX2_readEdge_24, ↓ex_iconst, fX2_readEdge_25, ↓ex_if_icmp_ne, ↓s2I_c, fX2_readEdge_28, fX2_readEdge_29, ↓ex_goto, fX2_readEdge_32, fX2_readEdge_33, fX2_readEdge_34, fX2_readEdge_35, fX2_readEdge_36, ↓ex_if_icmp_eq, fX2_readEdge_39, fX2_readEdge_40, fX2_readEdge_41, fX2_readEdge_44, fX2_readEdge_45, fX2_readEdge_48, fX2_readEdge_49, fX2_readEdge_52, ↓ex_ireturn, ↓rt_i, fX2_readEdge_53, fX2_readEdge_54, ↓ex_dup, fX2_readEdge_55, ↓fv_2_3, fX2_readEdge_58, fX2_readEdge_59, ↓ex_iadd, fX2_readEdge_60, ↓ex_putfield, ↓pf_2_3, fX2_readEdge_63, fX2_readEdge_64, ↓ex_bipush, fX2_readEdge_66, fX2_readEdge_69, ↓ex_ifCond_ne, fX2_readEdge_72, fX2_readEdge_73, fX2_readEdge_74, fX2_readEdge_75, fX2_readEdge_76, fX2_readEdge_78, fX2_readEdge_81, ↓ex_istore, fX2_readEdge_83, ↓ex_iload, fX2_readEdge_85, fX2_readEdge_86, fX2_readEdge_89, fX2_readEdge_90, fX2_readEdge_92, fX2_readEdge_95, fX2_readEdge_98, fX2_readEdge_99, fX2_readEdge_100, fX2_readEdge_101, fX2_readEdge_102, fX2_readEdge_103, fX2_readEdge_106, fX2_readEdge_108, fX2_readEdge_110, fX2_readEdge_111, fX2_readEdge_114, fX2_readEdge_115, fX2_readEdge_116, fX2_readEdge_117, fX2_readEdge_120, fX2_readEdge_121, fX2_readEdge_122, fX2_readEdge_124, fX2_readEdge_126, fX2_readEdge_129, fX2_readEdge_130, fX2_readEdge_133, fX2_readEdge_134, fX2_readEdge_137, fX2_readEdge_138, p12, q12, ↓C_X2_refuse, hT.2.2.2.1, ↓reduceIte, not_true_eq_false, not_false_eq_true, false_implies, true_implies, implies_true, and_true, true_and, and_false, false_and, or_true, true_or, or_false, false_or, Classical.not_not, ite_true, ite_false]
      exact ⟨bl_0, (hpost _ (hF.fr34.setF _).D (hT.setF _)).2 rfl (by simp [sI_1, upd_a])⟩
    have rest : ∀ Y, fr12 X Y → TXt Y n b J → ¬ noEd s a (s_nodeAt (byA n b J)) → R 53 [(0, .ref 12), (1, .int (nI a)), (2, .int (s_nodeAt (byA n b J)))] [] Y := by
      intro Y hF hT hno
      unfold edR at hpost
      rw [cif_f hno] at hpost
      have hne : s_nodeAt (byA n b J) ≠ -1 := fun z => hno (Or.inl z)
      have hlt := nodeAt_lt hne
      obtain ⟨ht1, ht2⟩ := nodeAt_in hne
      obtain ⟨t, ht⟩ : ∃ t, t = cl (s_nodeAt (byA n b J)) := ⟨_, rfl⟩
      rw [← ht] at ht1 ht2 hpost
      unfold noEd at hno
      rw [ht2] at hno ⊢
      refine go hR [] 60 ?_
      simp only [↓reduceIte, Nat.reduceEqDiff, Nat.reduceAdd, Nat.reduceLeDiff, reduceCtorEq, and_true, true_and, false_and, and_false, true_or, or_true, or_false, false_or, true_implies, false_implies, implies_true, not_true_eq_false, not_false_eq_true, eq_self, fx_s, ↓run_s, run_0, ↓rs_n, ↓rs_c, as_s, ls_n, ls_c, lc_s, lget_c, fX2_readEdge_0, ↓ex_aload_n, ↓xR_r, ↓xRg_c, fX2_readEdge_1, ↓ex_invokevirtual, ↓xc_0, ↓xc_s, ↓xc_1, ↓pk_s, ↓k_s, ↓k_n, catS_n, catS_c, rOk_c, ct_i, ct_l, ct_r, ↓pk_f, fX2_readEdge_4, ↓ex_istore_n, ↓s1I_c, ↓lsto_e, ↓lrmK_n, ↓lrmK_f, fX2_readEdge_5, fX2_readEdge_6, ↓ex_getfield, ↓s1R_c, ↓fv_2_2, fX2_readEdge_9, fX2_readEdge_12, ↓ex_ifCond_eq, fX2_readEdge_15, fX2_readEdge_16, fX2_readEdge_19, ↓ex_iload_n, ↓xI_i, ↓xIg_c, fX2_readEdge_20, fX2_readEdge_21, fX2_readEdge_24, ↓ex_iconst, fX2_readEdge_25, ↓ex_if_icmp_ne, ↓s2I_c, fX2_readEdge_28, fX2_readEdge_29, ↓ex_goto, fX2_readEdge_32, fX2_readEdge_33, fX2_readEdge_34, fX2_readEdge_35, fX2_readEdge_36, ↓ex_if_icmp_eq, fX2_readEdge_39, fX2_readEdge_40, fX2_readEdge_41, fX2_readEdge_44, fX2_readEdge_45, fX2_readEdge_48, fX2_readEdge_49, fX2_readEdge_52, ↓ex_ireturn, ↓rt_i, fX2_readEdge_53, fX2_readEdge_54, ↓ex_dup, fX2_readEdge_55, ↓fv_2_3, fX2_readEdge_58, fX2_readEdge_59, ↓ex_iadd, fX2_readEdge_60, ↓ex_putfield, ↓pf_2_3, fX2_readEdge_63, fX2_readEdge_64, ↓ex_bipush, fX2_readEdge_66, fX2_readEdge_69, ↓ex_ifCond_ne, fX2_readEdge_72, fX2_readEdge_73, fX2_readEdge_74, fX2_readEdge_75, fX2_readEdge_76, fX2_readEdge_78, fX2_readEdge_81, ↓ex_istore, fX2_readEdge_83, ↓ex_iload, fX2_readEdge_85, fX2_readEdge_86, fX2_readEdge_89, fX2_readEdge_90, fX2_readEdge_92, fX2_readEdge_95, fX2_readEdge_98, fX2_readEdge_99, fX2_readEdge_100, fX2_readEdge_101, fX2_readEdge_102, fX2_readEdge_103, fX2_readEdge_106, fX2_readEdge_108, fX2_readEdge_110, fX2_readEdge_111, fX2_readEdge_114, fX2_readEdge_115, fX2_readEdge_116, fX2_readEdge_117, fX2_readEdge_120, fX2_readEdge_121, fX2_readEdge_122, fX2_readEdge_124, fX2_readEdge_126, fX2_readEdge_129, fX2_readEdge_130, fX2_readEdge_133, fX2_readEdge_134, fX2_readEdge_137, fX2_readEdge_138, p12, q12, s0, l0, ↓C_X2_accept, ↓C_X2_readNumber, ↓C_X0_put, hT.2.2.2.1, add1N, i10, ↓reduceIte, not_true_eq_false, not_false_eq_true, false_implies, true_implies, implies_true, and_true, true_and, and_false, false_and, or_true, true_or, or_false, false_or, Classical.not_not, ite_true, ite_false]
      refine ⟨n, b, J + 1, ⟨hT.set (by omega), by decide⟩, fun z Z hZ hTZ => ?_, fun z Z hZ hTZ hf => ?_⟩
      · unfold edR2 at hpost
        rw [cif_t z] at hpost
        have f1 := (hF.set (nI (J + 1))).tr hZ
        refine ⟨n, b, _, ⟨hTZ, by decide⟩, ?_⟩
        have hle := (skp_at n b _ hTZ.2.1).2
        obtain ⟨r, hr⟩ : ∃ r, r = numR n b 0 10 (skp n b (n - (skp n b (n - (J + 1)) (J + 1) + 1)) (skp n b (n - (J + 1)) (J + 1) + 1)) := ⟨_, rfl⟩
        rw [← hr] at hpost ⊢
        intro U hU hTU h1 h2
        have f2 := f1.fr34.tr hU
        unfold edR3 at hpost
        refine ⟨fun y => ?_, fun y => ?_⟩
        · rw [cif_t y] at hpost
          exact ⟨bl_0, (hpost _ f2.D hTU).2 rfl (h1 y)⟩
        · rw [cif_f y] at hpost
          unfold edR4 at hpost
          refine ⟨n, b, r.1, ⟨hTU, by decide⟩, fun z2 V hV hTV => ?_, fun z2 V hV hTV hf => ?_⟩
          · rw [cif_t z2] at hpost
            have f3 := f2.tr hV.fr34
            have hle2 := (skp_at n b _ hTV.2.1).2
            refine ⟨n, b, _, ⟨hTV, by decide⟩, ?_⟩
            obtain ⟨q, hq⟩ : ∃ q, q = numR n b 1 5 (skp n b (n - (skp n b (n - r.1) r.1 + 1)) (skp n b (n - r.1) r.1 + 1)) := ⟨_, rfl⟩
            rw [← hq] at hpost ⊢
            intro W hW' hTW g1 g2
            have f4 := f3.tr hW'
            unfold edR5 at hpost
            refine ⟨fun x => ?_, fun x => ?_⟩
            · rw [cif_f x] at hpost
              have i1 : inR r.2 0 10 := by
                have := (numR_in (lo := 0) (hi := 10) (b := b) hle (by rw [← hr]; exact y)).2.2
                rw [← hr] at this; exact this
              have i2 : inR q.2 1 5 := by
                have := (numR_in (lo := 1) (hi := 5) (b := b) hle2 (by rw [← hq]; exact x)).2.2
                rw [← hq] at this; exact this
              obtain ⟨c1, c2, c3⟩ := inR_cl (lo := 0) (hi := 10) (by omega) i1
              obtain ⟨d1, d2, d3⟩ := inR_cl (lo := 1) (hi := 5) (by omega) i2
              have hfull : fidx s a t = none → s.n < 12 := by
                intro h0
                have := hW.1
                refine Classical.byContradiction fun h9 => hno (Or.inr (Or.inr ⟨by omega, ?_⟩))
                rw [show cl (nI t) = t from clampN (by omega)]; exact h0
              have hsa := s_at_le s a t
              have hn12 := hW.1
              refine ⟨s, a, t, cl r.2, cl q.2, ⟨sc14, f4.rs hS, hW.1, fun e he => ⟨(hW.2.1 e he).1, (hW.2.1 e he).2.1⟩, rfl, rfl, c3, d3, ha, ht1, hfull⟩, fun X' hX' hs' => ⟨fun w => ?_, fun w => ⟨bl_1, ?_⟩⟩⟩
              · rw [eqI, nI_toInt (by omega), tI_m1] at w; omega
              · exact (hpost _ (f4.D.tr (frD.S hX')) (hTW.frS hX')).1 _ rfl hs' (by rw [hX'.1 12 (fun z => by unfold scn at z; omega), g2 x, hV.2 4 (by omega), h2 y, f1.2 4 (by omega)])
            · rw [cif_t x] at hpost
              exact ⟨bl_0, (hpost _ f4.D hTW).2 rfl (g1 x)⟩
          · rw [cif_f z2] at hpost
            exact ⟨bl_0, (hpost _ (f2.tr hV).D hTV).2 rfl hf⟩
      · unfold edR2 at hpost
        rw [cif_f z] at hpost
        exact ⟨bl_0, (hpost _ ((hF.set (nI (J + 1))).fr34.tr hZ).D hTZ).2 rfl hf⟩
    refine go hR [(48, [0]), (53, [0, 1, 2])] 60 ?_
    simp only [lv_args, ↓reduceIte, Nat.reduceEqDiff, Nat.reduceAdd, Nat.reduceLeDiff, reduceCtorEq, and_true, true_and, false_and, and_false, true_or, or_true, or_false, false_or, true_implies, false_implies, implies_true, not_true_eq_false, not_false_eq_true, eq_self, fx_s, ↓run_s, run_0, ↓rs_n, ↓rs_c, as_s, ls_n, ls_c, lc_s, lget_c, fX2_readEdge_0, ↓ex_aload_n, ↓xR_r, ↓xRg_c, fX2_readEdge_1, ↓ex_invokevirtual, ↓xc_0, ↓xc_s, ↓xc_1, ↓pk_s, ↓k_s, ↓k_n, catS_n, catS_c, rOk_c, ct_i, ct_l, ct_r, ↓pk_f, fX2_readEdge_4, ↓ex_istore_n, ↓s1I_c, ↓lsto_e, ↓lrmK_n, ↓lrmK_f, fX2_readEdge_5, fX2_readEdge_6, ↓ex_getfield, ↓s1R_c, ↓fv_2_2, fX2_readEdge_9, fX2_readEdge_12, ↓ex_ifCond_eq, fX2_readEdge_15, fX2_readEdge_16, fX2_readEdge_19, ↓ex_iload_n, ↓xI_i, ↓xIg_c, fX2_readEdge_20, fX2_readEdge_21, fX2_readEdge_24, ↓ex_iconst, fX2_readEdge_25, ↓ex_if_icmp_ne, ↓s2I_c, fX2_readEdge_28, fX2_readEdge_29, ↓ex_goto, fX2_readEdge_32, fX2_readEdge_33, fX2_readEdge_34, fX2_readEdge_35, fX2_readEdge_36, ↓ex_if_icmp_eq, fX2_readEdge_39, fX2_readEdge_40, fX2_readEdge_41, fX2_readEdge_44, fX2_readEdge_45, fX2_readEdge_48, fX2_readEdge_49, fX2_readEdge_52, ↓ex_ireturn, ↓rt_i, fX2_readEdge_53, fX2_readEdge_54, ↓ex_dup, fX2_readEdge_55, ↓fv_2_3, fX2_readEdge_58, fX2_readEdge_59, ↓ex_iadd, fX2_readEdge_60, ↓ex_putfield, ↓pf_2_3, fX2_readEdge_63, fX2_readEdge_64, ↓ex_bipush, fX2_readEdge_66, fX2_readEdge_69, ↓ex_ifCond_ne, fX2_readEdge_72, fX2_readEdge_73, fX2_readEdge_74, fX2_readEdge_75, fX2_readEdge_76, fX2_readEdge_78, fX2_readEdge_81, ↓ex_istore, fX2_readEdge_83, ↓ex_iload, fX2_readEdge_85, fX2_readEdge_86, fX2_readEdge_89, fX2_readEdge_90, fX2_readEdge_92, fX2_readEdge_95, fX2_readEdge_98, fX2_readEdge_99, fX2_readEdge_100, fX2_readEdge_101, fX2_readEdge_102, fX2_readEdge_103, fX2_readEdge_106, fX2_readEdge_108, fX2_readEdge_110, fX2_readEdge_111, fX2_readEdge_114, fX2_readEdge_115, fX2_readEdge_116, fX2_readEdge_117, fX2_readEdge_120, fX2_readEdge_121, fX2_readEdge_122, fX2_readEdge_124, fX2_readEdge_126, fX2_readEdge_129, fX2_readEdge_130, fX2_readEdge_133, fX2_readEdge_134, fX2_readEdge_137, fX2_readEdge_138, p12, q12, s0, l0, ↓C_X2_nextNode, ↓C_X0_isFull, ↓C_X0_find, i10, ↓reduceIte, not_true_eq_false, not_false_eq_true, false_implies, true_implies, implies_true, and_true, true_and, and_false, false_and, or_true, true_or, or_false, false_or, Classical.not_not, ite_true, ite_false]
    refine ⟨n, b, i0, hT0, ?_⟩
    rw [← hJ]
    intro Y hF hT
    refine ⟨s, ⟨sc14, hF.rs hS, hW.1⟩, fun y => ?_, fun y => ⟨s, ⟨sc14, hF.rs hS, hW.1⟩, fun u => ?_, fun u => ?_⟩⟩
    · rw [b2i_0] at y
      refine ⟨fun z => bad Y hF hT (Or.inl z), fun z => ⟨fun w => bad Y hF hT (Or.inr (Or.inl w)), fun w => rest Y hF hT (fun h => ?_)⟩⟩
      rcases h with h | h | h
      · exact z h
      · exact w h
      · exact y h.1
    · refine ⟨fun z => bad Y hF hT (Or.inl z), fun z => ⟨fun w => bad Y hF hT (Or.inr (Or.inl w)), fun w => rest Y hF hT (fun h => ?_)⟩⟩
      rcases h with h | h | h
      · exact z h
      · exact w h
      · refine u ?_
        obtain ⟨t1, t2⟩ := nodeAt_in z
        rw [t2, findS_N (fun e he => ⟨(hW.2.1 e he).1, (hW.2.1 e he).2.1⟩) ha t1, h.2]
        rfl
    · refine ⟨fun z => bad Y hF hT (Or.inl z), fun z => ⟨fun w => bad Y hF hT (Or.inr (Or.inl w)), fun w => bad Y hF hT (Or.inr (Or.inr ⟨?_, ?_⟩))⟩⟩
      · rw [b2i_0, Classical.not_not] at y; exact y
      · obtain ⟨t1, t2⟩ := nodeAt_in z
        have hn12 := hW.1
        rw [t2, findS_N (fun e he => ⟨(hW.2.1 e he).1, (hW.2.1 e he).2.1⟩) ha t1, oI_m1 (fun j h => (fidx_some h).1) (by omega)] at u
        exact u
  next => exact hC.elim)
noncomputable def C_X2_readItem : CT := fun As X K => match As with
  | [.ref r] => ∃ (n : Nat) (b : Nat → Int32) (s : SV) (i : Nat), (r = 12 ∧ TXt X n b i ∧ RS X 14 s ∧ WF s) ∧ RdC n b (itR n b s (skp n b (n - i) i)) X K
  | _ => False
set_option maxRecDepth 20000 in
set_option maxHeartbeats 4000000 in
theorem d_X2_readItem (l : Launch) : Does l yX2_readItem (wY yX2_readItem cX2_readItem 3 (retT 1)) (rmF 3) C_X2_readItem := does_of (rt := 1) (by decide +kernel) tkX2_readItem (calls := [(43, false, 1, 2, C_X2_nextNode), (47, false, 1, 2, C_X2_refuse), (50, false, 1, 2, C_X2_nextByte), (53, false, 2, 2, C_X2_readEdge), (57, false, 2, 2, C_X2_readObservation)]) (List.forall_mem_cons.mpr ⟨cr_V (d_X2_nextNode l) rfl (by decide +kernel) (by decide +kernel) ⟨rfl, rfl⟩ ⟨Nat.le_of_ble_eq_true rfl, Nat.le_of_ble_eq_true rfl⟩, List.forall_mem_cons.mpr ⟨cr_V (d_X2_refuse l) rfl (by decide +kernel) (by decide +kernel) ⟨rfl, rfl⟩ ⟨Nat.le_of_ble_eq_true rfl, Nat.le_of_ble_eq_true rfl⟩, List.forall_mem_cons.mpr ⟨cr_V (d_X2_nextByte l) rfl (by decide +kernel) (by decide +kernel) ⟨rfl, rfl⟩ ⟨Nat.le_of_ble_eq_true rfl, Nat.le_of_ble_eq_true rfl⟩, List.forall_mem_cons.mpr ⟨cr_V (d_X2_readEdge l) rfl (by decide +kernel) (by decide +kernel) ⟨rfl, rfl⟩ ⟨Nat.le_of_ble_eq_true rfl, Nat.le_of_ble_eq_true rfl⟩, List.forall_mem_cons.mpr ⟨cr_V (d_X2_readObservation l) rfl (by decide +kernel) (by decide +kernel) ⟨rfl, rfl⟩ ⟨Nat.le_of_ble_eq_true rfl, Nat.le_of_ble_eq_true rfl⟩, fun _ h => absurd h List.not_mem_nil⟩⟩⟩⟩⟩) (by
  intro As X post hC
  unfold C_X2_readItem at hC
  split at hC
  next r =>
    obtain ⟨n, b, s, i0, ⟨rfl, hT0, hS, hW⟩, hpost⟩ := hC
    refine ⟨Nat.le_of_ble_eq_true rfl, fun R hR => ?_⟩
    obtain ⟨⟨p0, p7, p12, p13⟩, q0, q7, q12, q13⟩ := sh_text
    have e := skp_idem n b (n - i0) i0 rfl
    have hj := skp_at n b i0 hT0.2.1
    obtain ⟨J, hJ⟩ : ∃ J, J = skp n b (n - i0) i0 := ⟨_, rfl⟩
    rw [← hJ] at hpost e hj
    refine go hR [] 60 ?_
    simp only [lv_args, ↓reduceIte, Nat.reduceEqDiff, Nat.reduceAdd, Nat.reduceLeDiff, reduceCtorEq, and_true, true_and, false_and, and_false, true_or, or_true, or_false, false_or, true_implies, false_implies, implies_true, not_true_eq_false, not_false_eq_true, eq_self, fx_s, ↓run_s, run_0, ↓rs_n, ↓rs_c, as_s, ls_n, ls_c, lc_s, lget_c, fX2_readItem_0, ↓ex_aload_n, ↓xR_r, ↓xRg_c, fX2_readItem_1, ↓ex_invokevirtual, ↓xc_0, ↓xc_s, ↓xc_1, ↓pk_s, ↓k_s, ↓k_n, catS_n, catS_c, rOk_c, ct_i, ct_l, ct_r, ↓pk_f, fX2_readItem_4, ↓ex_istore_n, ↓s1I_c, ↓lsto_e, ↓lrmK_n, ↓lrmK_f, fX2_readItem_5, ↓ex_iload_n, ↓xI_i, ↓xIg_c, fX2_readItem_6, ↓ex_iconst, fX2_readItem_7, ↓ex_if_icmp_ne, ↓s2I_c, fX2_readItem_10, fX2_readItem_11, fX2_readItem_14, ↓ex_ireturn, ↓rt_i, fX2_readItem_15, fX2_readItem_16, ↓ex_dup, fX2_readItem_17, ↓ex_getfield, ↓s1R_c, ↓fv_2_3, fX2_readItem_20, fX2_readItem_21, ↓ex_iadd, fX2_readItem_22, ↓ex_putfield, ↓pf_2_3, fX2_readItem_25, fX2_readItem_26, fX2_readItem_29, fX2_readItem_30, fX2_readItem_31, ↓ex_bipush, fX2_readItem_33, ↓ex_if_icmp_eq, fX2_readItem_36, fX2_readItem_37, fX2_readItem_39, fX2_readItem_42, fX2_readItem_43, fX2_readItem_46, fX2_readItem_47, fX2_readItem_48, fX2_readItem_49, fX2_readItem_52, fX2_readItem_53, fX2_readItem_54, fX2_readItem_57, fX2_readItem_58, fX2_readItem_60, fX2_readItem_63, fX2_readItem_64, fX2_readItem_65, fX2_readItem_68, ↓ex_goto, fX2_readItem_71, fX2_readItem_72, fX2_readItem_73, fX2_readItem_76, p12, q12, ↓C_X2_nextNode, ↓C_X2_nextByte, ↓C_X2_refuse, ↓C_X2_readEdge, ↓C_X2_readObservation, RdC, i10, ↓reduceIte, not_true_eq_false, not_false_eq_true, false_implies, true_implies, implies_true, and_true, true_and, and_false, false_and, or_true, true_or, or_false, false_or, Classical.not_not, ite_true, ite_false]
    refine ⟨n, b, i0, hT0, ?_⟩
    rw [← hJ]
    intro Y hF hT
    have t4 := hT.2.2.2.1
    unfold itR at hpost
    refine ⟨fun z => ?_, fun z => ?_⟩
    · rw [cif_f z] at hpost
      have hlt := nodeAt_lt z
      obtain ⟨ht1, ht2⟩ := nodeAt_in z
      rw [t4, add1N]
      refine ⟨n, b, J + 1, hT.set (by omega), fun Z hZ hTZ => ?_⟩
      have f1 := (hF.set (nI (J + 1))).tr hZ
      unfold itR2 at hpost
      have z4 := hTZ.2.2.2.1
      obtain ⟨J2, hJ2⟩ : ∃ q, q = skp n b (n - (J + 1)) (J + 1) := ⟨_, rfl⟩
      rw [← hJ2] at hpost z4 hTZ ⊢
      rw [z4, add1N]
      refine ⟨fun y => ⟨fun x => absurd y x, fun _ => ?_⟩, fun y => ⟨fun x => ⟨fun _ => ?_, fun w => absurd w y⟩, fun x => ?_⟩⟩
      · rw [cif_t y] at hpost
        have hl2 := byA_lt y (by decide)
        refine ⟨n, b, s, J2 + 1, cl (s_nodeAt (byA n b J)), ⟨hTZ.set (by omega), (f1.set _).rs hS, hW, ht2, ht1⟩, fun X' h1 h2 => ?_⟩
        have h3 := hpost X' ((f1.set _).D.tr h1) h2
        exact ⟨fun s' a1 a2 a3 => ⟨bl_1, h3.1 s' a1 a2 (a3.trans ((f1.set (nI (J2 + 1))).2 4 (by omega)))⟩, fun a1 a2 => ⟨bl_0, h3.2 a1 a2⟩⟩
      · rw [cif_f y, cif_t x] at hpost
        have hl2 := byA_lt x (by decide)
        refine ⟨n, b, s, J2 + 1, cl (s_nodeAt (byA n b J)), ⟨hTZ.set (by omega), (f1.set _).rs hS, ht2, ht1⟩, fun X' h1 h2 => ?_⟩
        have h3 := hpost X' ((f1.set _).D.tr h1) h2
        exact ⟨fun s' a1 a2 a3 => ⟨bl_1, h3.1 s' a1 a2 (a3.trans ((f1.set (nI (J2 + 1))).2 4 (by omega)))⟩, fun a1 a2 => ⟨bl_0, h3.2 a1 a2⟩⟩
      · rw [cif_f y, cif_f x] at hpost
        exact ⟨bl_0, (hpost _ (f1.fr34.setF _).D (hTZ.setF _)).2 rfl (by simp [sI_1, upd_a])⟩
    · rw [cif_t z] at hpost
      rw [t4]
      exact ⟨bl_0, (hpost _ (hF.fr34.setF _).D (hT.setF _)).2 rfl (by simp [sI_1, upd_a])⟩
  next => exact hC.elim)
/-- what each reading keeps -/
def okR (n : Nat) (b : Nat → Int32) (i : Nat) (r : Rd) : Prop := r.1 ≤ n ∧ (∀ s', r.2 = some s' → WF s' ∧ i ≤ r.1) ∧ (r.2 = none → skp n b (n - r.1) r.1 = r.1)
theorem okR_no {n : Nat} {b : Nat → Int32} {i p : Nat} (h : p ≤ n) (hp : skp n b (n - p) p = p) : okR n b i (p, none) := ⟨h, (fun s' z => (by cases z)), fun _ => hp⟩
theorem okR_go {n : Nat} {b : Nat → Int32} {i p : Nat} {s : SV} (h : p ≤ n) (hi : i ≤ p) (hw : WF s) : okR n b i (p, some s) := ⟨h, (fun s' z => (by cases z; exact ⟨hw, hi⟩)), (fun z => (by cases z))⟩
theorem okS_N {t : Int32} (h : inR t 0 30) : okS t := by
  obtain ⟨h1, h2, h3⟩ := inR_cl (lo := 0) (hi := 30) (by omega) h
  exact Or.inr (Or.inr ⟨_, h2, h3⟩)
theorem obR_ok {n : Nat} {b : Nat → Int32} {k : Nat} {s : SV} {j : Nat} (hj : j ≤ n) (hf : skp n b (n - j) j = j) (hW : WF s) : okR n b j (obR n b k s j) := by
  unfold obR
  by_cases c : byA n b j = 45
  · rw [cif_t c]
    have := byA_lt c (by decide)
    exact okR_go (by omega) (by omega) (WF_see hW (Or.inl rfl))
  · rw [cif_f c]
    unfold obR2
    by_cases d : (numR n b 0 30 j).2 = -1
    · rw [cif_t d, numR_no (by decide) d]; exact okR_no hj hf
    · rw [cif_f d]
      obtain ⟨a1, a2, a3⟩ := numR_in hj d
      exact okR_go a2 (by omega) (WF_see hW (okS_N a3))
theorem edR_ok {n : Nat} {b : Nat → Int32} {a : Nat} {s : SV} {j : Nat} (hj : j ≤ n) (hf : skp n b (n - j) j = j) (hW : WF s) (ha : a < 8) : okR n b j (edR n b s a j) := by
  unfold edR
  by_cases c1 : noEd s a (s_nodeAt (byA n b j))
  · rw [cif_t c1]; exact okR_no hj hf
  rw [cif_f c1]
  have hne : s_nodeAt (byA n b j) ≠ -1 := fun z => c1 (Or.inl z)
  have hlt := nodeAt_lt hne
  obtain ⟨ht1, ht2⟩ := nodeAt_in hne
  have k1 := skp_at n b (j + 1) (by omega)
  have m1 := skp_idem n b (n - (j + 1)) (j + 1) rfl
  obtain ⟨j2, hj2⟩ : ∃ q, q = skp n b (n - (j + 1)) (j + 1) := ⟨_, rfl⟩
  rw [← hj2] at k1 m1 ⊢
  unfold edR2
  by_cases c2 : byA n b j2 = 42
  · rw [cif_t c2]
    have := byA_lt c2 (by decide)
    have k2 := skp_at n b (j2 + 1) (by omega)
    have m2 := skp_idem n b (n - (j2 + 1)) (j2 + 1) rfl
    obtain ⟨j3, hj3⟩ : ∃ q, q = skp n b (n - (j2 + 1)) (j2 + 1) := ⟨_, rfl⟩
    rw [← hj3] at k2 m2 ⊢
    unfold edR3
    by_cases c3 : (numR n b 0 10 j3).2 = -1
    · rw [cif_t c3, numR_no (by decide) c3]; exact okR_no k2.2 m2
    · rw [cif_f c3]
      obtain ⟨a1, a2, a3⟩ := numR_in k2.2 c3
      obtain ⟨w1, w2, -⟩ := inR_cl (lo := 0) (hi := 10) (by omega) a3
      have k3 := skp_at n b _ a2
      have m3 := skp_idem n b (n - (numR n b 0 10 j3).1) (numR n b 0 10 j3).1 rfl
      obtain ⟨j4, hj4⟩ : ∃ q, q = skp n b (n - (numR n b 0 10 j3).1) (numR n b 0 10 j3).1 := ⟨_, rfl⟩
      rw [← hj4] at k3 m3 ⊢
      unfold edR4
      by_cases c4 : byA n b j4 = 43
      · rw [cif_t c4]
        have := byA_lt c4 (by decide)
        have k4 := skp_at n b (j4 + 1) (by omega)
        have m4 := skp_idem n b (n - (j4 + 1)) (j4 + 1) rfl
        obtain ⟨j5, hj5⟩ : ∃ q, q = skp n b (n - (j4 + 1)) (j4 + 1) := ⟨_, rfl⟩
        rw [← hj5] at k4 m4 ⊢
        unfold edR5
        by_cases c5 : (numR n b 1 5 j5).2 = -1
        · rw [cif_t c5, numR_no (by decide) c5]; exact okR_no k4.2 m4
        · rw [cif_f c5]
          obtain ⟨b1, b2, b3⟩ := numR_in k4.2 c5
          obtain ⟨d1, d2, -⟩ := inR_cl (lo := 1) (hi := 5) (by omega) b3
          refine okR_go b2 (by omega) ?_
          have hn := hW.1
          unfold s_put
          split
          next q hq => exact WF_set hW w2 ⟨d1, d2⟩
          next hq =>
            refine WF_add hW ha ht1 (fun z => c1 (Or.inr (Or.inl ?_))) w2 ⟨d1, d2⟩ ?_ hq
            · rw [z]; exact ht2
            · refine Classical.byContradiction fun h9 => c1 (Or.inr (Or.inr ⟨by omega, hq⟩))
      · rw [cif_f c4]; exact okR_no k3.2 m3
  · rw [cif_f c2]; exact okR_no k1.2 m1
theorem itR_ok {n : Nat} {b : Nat → Int32} {s : SV} {j : Nat} (hj : j ≤ n) (hf : skp n b (n - j) j = j) (hW : WF s) : okR n b (j + 1) (itR n b s j) := by
  unfold itR
  by_cases c1 : s_nodeAt (byA n b j) = -1
  · rw [cif_t c1]; exact okR_no hj hf
  rw [cif_f c1]
  have hlt := nodeAt_lt c1
  obtain ⟨ht1, ht2⟩ := nodeAt_in c1
  have k1 := skp_at n b (j + 1) (by omega)
  have m1 := skp_idem n b (n - (j + 1)) (j + 1) rfl
  obtain ⟨j2, hj2⟩ : ∃ q, q = skp n b (n - (j + 1)) (j + 1) := ⟨_, rfl⟩
  rw [← hj2] at k1 m1 ⊢
  unfold itR2
  have up : ∀ i r, okR n b i r → j + 1 ≤ i → okR n b (j + 1) r := fun i r h hi => ⟨h.1, fun s' z => ⟨(h.2.1 s' z).1, by have := (h.2.1 s' z).2; omega⟩, h.2.2⟩
  by_cases c2 : byA n b j2 = 62
  · rw [cif_t c2]
    have := byA_lt c2 (by decide)
    have k2 := skp_at n b (j2 + 1) (by omega)
    exact up _ _ (edR_ok k2.2 (skp_idem n b (n - (j2 + 1)) (j2 + 1) rfl) hW ht1) (by omega)
  · rw [cif_f c2]
    by_cases c3 : byA n b j2 = 61
    · rw [cif_t c3]
      have := byA_lt c3 (by decide)
      have k2 := skp_at n b (j2 + 1) (by omega)
      exact up _ _ (obR_ok k2.2 (skp_idem n b (n - (j2 + 1)) (j2 + 1) rfl) hW) (by omega)
    · rw [cif_f c3]; exact okR_no k1.2 m1
end TEXTI
