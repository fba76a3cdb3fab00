section MODELB
theorem sh_m : (shp 51 = (4, 0) ∧ shp 52 = (5, 354) ∧ shp 53 = (5, 8) ∧ shp 54 = (6, 8) ∧ shp 55 = (7, 32) ∧ shp 56 = (5, 120) ∧ shp 57 = (7, 64)) ∧ 51 < NC ∧ 52 < NC ∧ 53 < NC ∧ 54 < NC ∧ 55 < NC ∧ 56 < NC ∧ 57 < NC := by decide
theorem vp_cl {a : Int32} {N : Nat} (h : vp_in a N) : cl a < N ∧ a = nI (cl a) := by
  unfold vp_in at h
  obtain ⟨j, hj, rfl⟩ := nI_of (fun z => h (Or.inl z))
  have e : (nI j).toNatClampNeg = j := clampN hj
  rw [e] at h
  rw [show cl (nI j) = j from e]
  exact ⟨Nat.lt_of_not_le (fun z => h (Or.inr z)), rfl⟩
theorem vq_0 : vp_in 0 4 = True := eq_true (by unfold vp_in; decide)
theorem vq_1 : vp_in 1 4 = True := eq_true (by unfold vp_in; decide)
theorem vq_2 : vp_in 2 4 = True := eq_true (by unfold vp_in; decide)
theorem vq_3 : vp_in 3 4 = True := eq_true (by unfold vp_in; decide)
theorem vr_0 : vp_in 0 354 = True := eq_true (by unfold vp_in; decide)
theorem vr_1 : vp_in 1 354 = True := eq_true (by unfold vp_in; decide)
theorem vr_2 : vp_in 2 354 = True := eq_true (by unfold vp_in; decide)
theorem cl_1 : (1 : Int32).toNatClampNeg = 1 := rfl
theorem cl_2 : (2 : Int32).toNatClampNeg = 2 := rfl
theorem cl_3 : (3 : Int32).toNatClampNeg = 3 := rfl
theorem ix_e (e w : Nat) : (3 : Int32) + 4 * nI e + nI w = nI (3 + 4 * e + w) := by
  rw [show (3 : Int32) = nI 3 from rfl, show (4 : Int32) = nI 4 from rfl, pk_mul, nI_add, nI_add]
theorem ix_0 (e : Nat) : (3 : Int32) + 4 * nI e = nI (3 + 4 * e) := by
  rw [show (3 : Int32) = nI 3 from rfl, show (4 : Int32) = nI 4 from rfl, pk_mul, nI_add]
theorem ix_1 (e : Nat) : nI (3 + 4 * e) + 1 = nI (3 + 4 * e + 1) := nI_add _ 1
theorem ix_2 (e : Nat) : nI (3 + 4 * e) + 2 = nI (3 + 4 * e + 2) := nI_add _ 2
theorem ix_3 (e : Nat) : nI (3 + 4 * e) + 3 = nI (3 + 4 * e + 3) := nI_add _ 3
theorem ix_s (e w : Nat) : (59 : Int32) * nI e + nI w = nI (59 * e + w) := by
  rw [show (59 : Int32) = nI 59 from rfl, pk_mul, nI_add]
theorem ix_v (v : Nat) : (51 : Int32) + nI v = nI (51 + v) := by
  rw [show (51 : Int32) = nI 51 from rfl, nI_add]
def RSf (f : Nat → Int32) (s : SV) : Prop := f 0 = nI s.n ∧ f 1 = nI s.H ∧ f 2 = nI s.Q ∧ (∀ e, e < s.n → f (3 + 4 * e) = nI (s.F e) ∧ f (3 + 4 * e + 1) = nI (s.T e) ∧ f (3 + 4 * e + 2) = nI (s.W e) ∧ f (3 + 4 * e + 3) = nI (s.D e)) ∧ ∀ v, v < 8 → f (51 + v) = s.S v
theorem RSf.cg {f f' : Nat → Int32} {s : SV} (h : RSf f s) (hn : s.n ≤ 12) (e : ∀ k, k < 59 → f' k = f k) : RSf f' s := by
  obtain ⟨h1, h2, h3, h4, h5⟩ := h
  refine ⟨by rw [e 0 (by omega)]; exact h1, by rw [e 1 (by omega)]; exact h2, by rw [e 2 (by omega)]; exact h3, fun q hq => ?_, fun v hv => by rw [e _ (by omega)]; exact h5 v hv⟩
  rw [e _ (by omega), e _ (by omega), e _ (by omega), e _ (by omega)]
  exact h4 q hq
def RelM (X : XT) (g : SG) : Prop := okG g ∧ RSf (X.1 52) g.now ∧ X.1 51 1 = nI g.kept ∧ (∀ j, j < g.kept → RSf (fun k => X.1 52 (59 * (j + 1) + k)) (g.hist j)) ∧ X.1 51 7 = nI g.size ∧ (∀ i, i < g.size → X.1 56 i = g.bytes i) ∧ (X.1 51 2 ≠ 0 → ∀ v, v < 8 → X.2.1 54 v = lN (LSt g.now v))
def FrC (X X' : XT) : Prop := (∀ k, k < 51 → X'.1 k = X.1 k ∧ X'.2.1 k = X.2.1 k) ∧ X'.2.2 = X.2.2
theorem FrC.rf (X : XT) : FrC X X := ⟨fun _ _ => ⟨rfl, rfl⟩, rfl⟩
theorem FrC.tr {X Y Z : XT} (h : FrC X Y) (g : FrC Y Z) : FrC X Z := ⟨fun k hk => ⟨(g.1 k hk).1.trans (h.1 k hk).1, (g.1 k hk).2.trans (h.1 k hk).2⟩, g.2.trans h.2⟩
theorem FrC.of {P : Nat → Prop} {X Y : XT} (h : Fr P X Y) (hP : ∀ k, P k → 51 ≤ k) : FrC X Y := ⟨fun k hk => ⟨h.1 k (fun z => by have := hP k z; omega), h.2.1 k (fun z => by have := hP k z; omega)⟩, h.2.2⟩
/-- cells of the model that no call relies on: times, met times, linked; and the reading's places of cell 51 -/
def mscr (k : Nat) : Prop := k = 53 ∨ k = 55 ∨ k = 57
theorem RelM.scrap {X X' : XT} {g : SG} (h : RelM X g) (hF : Fr mscr X X') : RelM X' g := by
  obtain ⟨w, h1, h2, h3, h4, h5, h6⟩ := h
  unfold RelM
  rw [hF.1 52 (fun z => by unfold mscr at z; omega), hF.1 51 (fun z => by unfold mscr at z; omega), hF.1 56 (fun z => by unfold mscr at z; omega), hF.2.1 54 (fun z => by unfold mscr at z; omega)]
  exact ⟨w, h1, h2, h3, h4, h5, h6⟩
def PubMI (sp : SG → Int32 × SG) (X : XT) (K : Option Value → XT → Prop) : Prop := ∃ g, RelM X g ∧ ∀ X', RelM X' (sp g).2 → FrC X X' → K (some (.int (sp g).1)) X'
def PubML (sp : SG → Int64 × SG) (X : XT) (K : Option Value → XT → Prop) : Prop := ∃ g, RelM X g ∧ ∀ X', RelM X' (sp g).2 → FrC X X' → K (some (.long (sp g).1)) X'
theorem pubM_same {sp : SG → Int32 × SG} {X : XT} {K : Option Value → XT → Prop} {g : SG} (hR : RelM X g) (hp : ∀ X', RelM X' (sp g).2 → FrC X X' → K (some (.int (sp g).1)) X') {r : Int32} (h : sp g = (r, g)) : K (some (.int r)) X := by
  have h2 := hp X (by rw [h]; exact hR) (FrC.rf X)
  rw [h] at h2
  exact h2
noncomputable def C_X4_in : CT := fun As X K => match As with
  | [.int v, .int lo, .int hi] => K (some (.int (b2i (inR v lo.toInt hi.toInt)))) X
  | _ => False
set_option maxRecDepth 20000 in
set_option maxHeartbeats 4000000 in
theorem d_X4_in (l : Launch) : Does l yX4_in (wY yX4_in cX4_in 3 (retT 1)) (rmF 0) C_X4_in := does_of (rt := 1) (by decide +kernel) tkX4_in (calls := []) (fun _ h => absurd h List.not_mem_nil) (by
  intro As X post hC
  unfold C_X4_in at hC
  split at hC
  next v lo hi =>
    refine ⟨Nat.le_of_ble_eq_true rfl, fun R hR => ?_⟩
    have p0 : ¬ (lo.toInt ≤ v.toInt ∧ v.toInt ≤ hi.toInt) → post (some (.int 0)) X := fun h => by rw [b2i_f (show ¬ inR v lo.toInt hi.toInt from h)] at hC; exact hC
    have p1 : (lo.toInt ≤ v.toInt ∧ v.toInt ≤ hi.toInt) → post (some (.int 1)) X := fun h => by rw [b2i_t (show inR v lo.toInt hi.toInt from h)] at hC; exact hC
    refine go hR [] 40 ?_
    simp only [lv_args, ↓reduceIte, Nat.reduceEqDiff, Nat.reduceAdd, Nat.reduceLeDiff, reduceCtorEq, and_true, true_and, false_and, and_false, true_or, or_true, or_false, false_or, true_implies, false_implies, implies_true, not_true_eq_false, not_false_eq_true, eq_self, fx_s, ↓run_s, run_0, ↓rs_n, ↓rs_c, as_s, ls_n, ls_c, lc_s, lget_c, fX4_in_0, ↓ex_iload_n, ↓xI_i, ↓xIg_c, fX4_in_1, fX4_in_2, ↓ex_if_icmp_lt, ↓s2I_c, fX4_in_5, fX4_in_6, fX4_in_7, ↓ex_if_icmp_gt, fX4_in_10, ↓ex_iconst, fX4_in_11, ↓ex_goto, fX4_in_14, fX4_in_15, ↓ex_ireturn, ↓rt_i, leI, ltI, ↓reduceIte, not_true_eq_false, not_false_eq_true, false_implies, true_implies, implies_true, and_true, true_and, and_false, false_and, or_true, true_or, or_false, false_or, Classical.not_not, ite_true, ite_false]
    repeat' (first | apply And.intro | intro _)
    all_goals first | exact bl_0 | exact bl_1 | exact p0 (by omega) | exact p1 (by omega)
  next => exact hC.elim)
noncomputable def C_X4_isNode : CT := fun As X K => match As with
  | [.int v] => K (some (.int (b2i (inR v 0 7)))) X
  | _ => False
set_option maxRecDepth 20000 in
set_option maxHeartbeats 4000000 in
theorem d_X4_isNode (l : Launch) : Does l yX4_isNode (wY yX4_isNode cX4_isNode 1 (retT 1)) (rmF 1) C_X4_isNode := does_of (rt := 1) (by decide +kernel) tkX4_isNode (calls := [(42, true, 3, 4, C_X4_in)]) (List.forall_mem_cons.mpr ⟨cr_S (d_X4_in l) (by decide +kernel) (by decide +kernel) ⟨rfl, rfl⟩ ⟨Nat.le_of_ble_eq_true rfl, Nat.le_of_ble_eq_true rfl⟩, fun _ h => absurd h List.not_mem_nil⟩) (by
  intro As X post hC
  unfold C_X4_isNode at hC
  split at hC
  next v =>
    refine ⟨Nat.le_of_ble_eq_true rfl, fun R hR => ?_⟩
    refine go hR [] 40 ?_
    simp only [lv_args, ↓reduceIte, Nat.reduceEqDiff, Nat.reduceAdd, Nat.reduceLeDiff, reduceCtorEq, and_true, true_and, false_and, and_false, true_or, or_true, or_false, false_or, true_implies, false_implies, implies_true, not_true_eq_false, not_false_eq_true, eq_self, fx_s, ↓run_s, run_0, ↓rs_n, ↓rs_c, as_s, ls_n, ls_c, lc_s, lget_c, fX4_isNode_0, ↓ex_iload_n, ↓xI_i, ↓xIg_c, fX4_isNode_1, ↓ex_iconst, fX4_isNode_2, ↓ex_bipush, fX4_isNode_4, ↓ex_invokestatic, ↓xc_0, ↓xc_s, ↓xc_1, ↓pk_s, ↓k_s, ↓k_n, catS_n, catS_c, rOk_c, ct_i, ct_l, ct_r, ↓pk_t, fX4_isNode_7, ↓ex_ireturn, ↓rt_i, ↓C_X4_in, tI_m5, tI_m4, tI_m3, tI_m2, tI_m1, tI_0, tI_1, tI_2, tI_3, tI_4, tI_5, tI_7, tI_8, tI_10, tI_12, tI_30, tI_31, tI_32, tI_47, tI_48, tI_57, tI_59, tI_42, tI_43, tI_45, tI_61, tI_62, tI_100, tI_120, tI_255, tI_1000, ↓reduceIte, not_true_eq_false, not_false_eq_true, false_implies, true_implies, implies_true, and_true, true_and, and_false, false_and, or_true, true_or, or_false, false_or, Classical.not_not, ite_true, ite_false]
    exact ⟨bl_b2i _, hC⟩
  next => exact hC.elim)
noncomputable def C_X4_isStart : CT := fun As X K => match As with
  | [.int v] => K (some (.int (b2i (inR v 1 255)))) X
  | _ => False
set_option maxRecDepth 20000 in
set_option maxHeartbeats 4000000 in
theorem d_X4_isStart (l : Launch) : Does l yX4_isStart (wY yX4_isStart cX4_isStart 1 (retT 1)) (rmF 1) C_X4_isStart := does_of (rt := 1) (by decide +kernel) tkX4_isStart (calls := [(42, true, 3, 4, C_X4_in)]) (List.forall_mem_cons.mpr ⟨cr_S (d_X4_in l) (by decide +kernel) (by decide +kernel) ⟨rfl, rfl⟩ ⟨Nat.le_of_ble_eq_true rfl, Nat.le_of_ble_eq_true rfl⟩, fun _ h => absurd h List.not_mem_nil⟩) (by
  intro As X post hC
  unfold C_X4_isStart at hC
  split at hC
  next v =>
    refine ⟨Nat.le_of_ble_eq_true rfl, fun R hR => ?_⟩
    refine go hR [] 40 ?_
    simp only [lv_args, ↓reduceIte, Nat.reduceEqDiff, Nat.reduceAdd, Nat.reduceLeDiff, reduceCtorEq, and_true, true_and, false_and, and_false, true_or, or_true, or_false, false_or, true_implies, false_implies, implies_true, not_true_eq_false, not_false_eq_true, eq_self, fx_s, ↓run_s, run_0, ↓rs_n, ↓rs_c, as_s, ls_n, ls_c, lc_s, lget_c, fX4_isStart_0, ↓ex_iload_n, ↓xI_i, ↓xIg_c, fX4_isStart_1, ↓ex_iconst, fX4_isStart_2, ↓ex_sipush, fX4_isStart_5, ↓ex_invokestatic, ↓xc_0, ↓xc_s, ↓xc_1, ↓pk_s, ↓k_s, ↓k_n, catS_n, catS_c, rOk_c, ct_i, ct_l, ct_r, ↓pk_t, fX4_isStart_8, ↓ex_ireturn, ↓rt_i, ↓C_X4_in, tI_m5, tI_m4, tI_m3, tI_m2, tI_m1, tI_0, tI_1, tI_2, tI_3, tI_4, tI_5, tI_7, tI_8, tI_10, tI_12, tI_30, tI_31, tI_32, tI_47, tI_48, tI_57, tI_59, tI_42, tI_43, tI_45, tI_61, tI_62, tI_100, tI_120, tI_255, tI_1000, ↓reduceIte, not_true_eq_false, not_false_eq_true, false_implies, true_implies, implies_true, and_true, true_and, and_false, false_and, or_true, true_or, or_false, false_or, Classical.not_not, ite_true, ite_false]
    exact ⟨bl_b2i _, hC⟩
  next => exact hC.elim)
noncomputable def C_X4_isEdge : CT := fun As X K => match As with
  | [.ref r, .int e] => ∃ s : SV, (r = 51 ∧ RSf (X.1 52) s ∧ s.n ≤ 12) ∧ K (some (.int (b2i (0 ≤ e.toInt ∧ e.toInt < s.n)))) X
  | _ => False
set_option maxRecDepth 20000 in
set_option maxHeartbeats 4000000 in
theorem d_X4_isEdge (l : Launch) : Does l yX4_isEdge (wY yX4_isEdge cX4_isEdge 2 (retT 1)) (rmF 1) C_X4_isEdge := does_of (rt := 1) (by decide +kernel) tkX4_isEdge (calls := [(42, true, 3, 4, C_X4_in)]) (List.forall_mem_cons.mpr ⟨cr_S (d_X4_in l) (by decide +kernel) (by decide +kernel) ⟨rfl, rfl⟩ ⟨Nat.le_of_ble_eq_true rfl, Nat.le_of_ble_eq_true rfl⟩, fun _ h => absurd h List.not_mem_nil⟩) (by
  intro As X post hC
  unfold C_X4_isEdge at hC
  split at hC
  next r e =>
    obtain ⟨s, ⟨rfl, h1, hn⟩, hC⟩ := hC
    refine ⟨Nat.le_of_ble_eq_true rfl, fun R hR => ?_⟩
    obtain ⟨⟨p1, p2, p3, p4, p5, p6, p7⟩, q1, q2, q3, q4, q5, q6, q7⟩ := sh_m
    have e1 : (nI s.n - 1).toInt = (s.n : Int) - 1 := pk_sub_toInt (a := s.n) (b := 1) (by omega) (by omega)
    refine go hR [] 40 ?_
    simp only [lv_args, ↓reduceIte, Nat.reduceEqDiff, Nat.reduceAdd, Nat.reduceLeDiff, reduceCtorEq, and_true, true_and, false_and, and_false, true_or, or_true, or_false, false_or, true_implies, false_implies, implies_true, not_true_eq_false, not_false_eq_true, eq_self, fx_s, ↓run_s, run_0, ↓rs_n, ↓rs_c, as_s, ls_n, ls_c, lc_s, lget_c, fX4_isEdge_0, ↓ex_iload_n, ↓xI_i, ↓xIg_c, fX4_isEdge_1, ↓ex_iconst, fX4_isEdge_2, ↓ex_aload_n, ↓xR_r, ↓xRg_c, fX4_isEdge_3, ↓ex_getfield, ↓s1R_c, ↓fv_4_0, fX4_isEdge_6, fX4_isEdge_7, ↓ex_iaload, ↓sRI_c, ↓scrR_n, fX4_isEdge_8, fX4_isEdge_9, ↓ex_isub, ↓s2I_c, fX4_isEdge_10, ↓ex_invokestatic, ↓xc_0, ↓xc_s, ↓xc_1, ↓pk_s, ↓k_s, ↓k_n, catS_n, catS_c, rOk_c, ct_i, ct_l, ct_r, ↓pk_t, fX4_isEdge_13, ↓ex_ireturn, ↓rt_i, p1, p2, q1, q2, ↓C_X4_in, vr_0, clamp0, h1.1, e1, tI_m5, tI_m4, tI_m3, tI_m2, tI_m1, tI_0, tI_1, tI_2, tI_3, tI_4, tI_5, tI_7, tI_8, tI_10, tI_12, tI_30, tI_31, tI_32, tI_47, tI_48, tI_57, tI_59, tI_42, tI_43, tI_45, tI_61, tI_62, tI_100, tI_120, tI_255, tI_1000, ↓reduceIte, not_true_eq_false, not_false_eq_true, false_implies, true_implies, implies_true, and_true, true_and, and_false, false_and, or_true, true_or, or_false, false_or, Classical.not_not, ite_true, ite_false]
    have h2 : b2i (inR e 0 ((s.n : Int) - 1)) = b2i (0 ≤ e.toInt ∧ e.toInt < s.n) := b2i_c (by unfold inR; omega)
    rw [h2]
    exact ⟨bl_b2i _, hC⟩
  next => exact hC.elim)
noncomputable def C_X4_isOutcome : CT := fun As X K => match As with
  | [.ref r, .int o] => ∃ s : SV, (r = 51 ∧ RSf (X.1 52) s ∧ s.n ≤ 12) ∧ K (some (.int (b2i (isO s o)))) X
  | _ => False
set_option maxRecDepth 20000 in
set_option maxHeartbeats 4000000 in
theorem d_X4_isOutcome (l : Launch) : Does l yX4_isOutcome (wY yX4_isOutcome cX4_isOutcome 2 (retT 1)) (rmF 1) C_X4_isOutcome := does_of (rt := 1) (by decide +kernel) tkX4_isOutcome (calls := [(42, true, 3, 4, C_X4_in)]) (List.forall_mem_cons.mpr ⟨cr_S (d_X4_in l) (by decide +kernel) (by decide +kernel) ⟨rfl, rfl⟩ ⟨Nat.le_of_ble_eq_true rfl, Nat.le_of_ble_eq_true rfl⟩, fun _ h => absurd h List.not_mem_nil⟩) (by
  intro As X post hC
  unfold C_X4_isOutcome at hC
  split at hC
  next r o =>
    obtain ⟨s, ⟨rfl, h1, hn⟩, hC⟩ := hC
    refine ⟨Nat.le_of_ble_eq_true rfl, fun R hR => ?_⟩
    obtain ⟨⟨p1, p2, p3, p4, p5, p6, p7⟩, q1, q2, q3, q4, q5, q6, q7⟩ := sh_m
    have h4 := p2_lt hn
    have e1 : (nI (2 ^ s.n) - 1).toInt = ((2 ^ s.n : Nat) : Int) - 1 := pk_sub_toInt (a := 2 ^ s.n) (b := 1) (by omega) (by omega)
    refine go hR [] 40 ?_
    simp only [lv_args, ↓reduceIte, Nat.reduceEqDiff, Nat.reduceAdd, Nat.reduceLeDiff, reduceCtorEq, and_true, true_and, false_and, and_false, true_or, or_true, or_false, false_or, true_implies, false_implies, implies_true, not_true_eq_false, not_false_eq_true, eq_self, fx_s, ↓run_s, run_0, ↓rs_n, ↓rs_c, as_s, ls_n, ls_c, lc_s, lget_c, fX4_isOutcome_0, ↓ex_iload_n, ↓xI_i, ↓xIg_c, fX4_isOutcome_1, ↓ex_iconst, fX4_isOutcome_2, fX4_isOutcome_3, ↓ex_aload_n, ↓xR_r, ↓xRg_c, fX4_isOutcome_4, ↓ex_getfield, ↓s1R_c, ↓fv_4_0, fX4_isOutcome_7, fX4_isOutcome_8, ↓ex_iaload, ↓sRI_c, ↓scrR_n, fX4_isOutcome_9, ↓ex_ishl, ↓s2I_c, fX4_isOutcome_10, fX4_isOutcome_11, ↓ex_isub, fX4_isOutcome_12, ↓ex_invokestatic, ↓xc_0, ↓xc_s, ↓xc_1, ↓pk_s, ↓k_s, ↓k_n, catS_n, catS_c, rOk_c, ct_i, ct_l, ct_r, ↓pk_t, fX4_isOutcome_15, ↓ex_ireturn, ↓rt_i, p1, p2, q1, q2, ↓C_X4_in, vr_0, clamp0, h1.1, shlN (e := s.n) (by omega), e1, tI_m5, tI_m4, tI_m3, tI_m2, tI_m1, tI_0, tI_1, tI_2, tI_3, tI_4, tI_5, tI_7, tI_8, tI_10, tI_12, tI_30, tI_31, tI_32, tI_47, tI_48, tI_57, tI_59, tI_42, tI_43, tI_45, tI_61, tI_62, tI_100, tI_120, tI_255, tI_1000, ↓reduceIte, not_true_eq_false, not_false_eq_true, false_implies, true_implies, implies_true, and_true, true_and, and_false, false_and, or_true, true_or, or_false, false_or, Classical.not_not, ite_true, ite_false]
    have h2 : b2i (inR o 0 (((2 ^ s.n : Nat) : Int) - 1)) = b2i (isO s o) := b2i_c (by unfold inR isO; omega)
    rw [h2]
    exact ⟨bl_b2i _, hC⟩
  next => exact hC.elim)
def C_X4_of : CT := fun As X K => match As with
  | [.ref r, .int e, .int w] => r = 51 ∧ vp_in e 12 ∧ vp_in w 4 ∧ K (some (.int (X.1 52 (3 + 4 * cl e + cl w)))) X
  | _ => False
set_option maxRecDepth 20000 in
set_option maxHeartbeats 4000000 in
theorem d_X4_of (l : Launch) : Does l yX4_of (wY yX4_of cX4_of 3 (retT 0)) (rmF 0) C_X4_of := does_of (rt := 0) (by decide +kernel) tkX4_of (calls := []) (fun _ h => absurd h List.not_mem_nil) (by
  intro As X post hC
  unfold C_X4_of at hC
  split at hC
  next r e w =>
    obtain ⟨rfl, he, hw, hC⟩ := hC
    refine ⟨Nat.le_of_ble_eq_true rfl, fun R hR => ?_⟩
    obtain ⟨⟨p1, p2, p3, p4, p5, p6, p7⟩, q1, q2, q3, q4, q5, q6, q7⟩ := sh_m
    obtain ⟨e1, e2⟩ := vp_cl he
    obtain ⟨w1, w2⟩ := vp_cl hw
    rw [e2, w2]
    refine go hR [] 40 ?_
    simp only [lv_args, ↓reduceIte, Nat.reduceEqDiff, Nat.reduceAdd, Nat.reduceLeDiff, reduceCtorEq, and_true, true_and, false_and, and_false, true_or, or_true, or_false, false_or, true_implies, false_implies, implies_true, not_true_eq_false, not_false_eq_true, eq_self, fx_s, ↓run_s, run_0, ↓rs_n, ↓rs_c, as_s, ls_n, ls_c, lc_s, lget_c, fX4_of_0, ↓ex_aload_n, ↓xR_r, ↓xRg_c, fX4_of_1, ↓ex_getfield, ↓s1R_c, ↓fv_4_0, fX4_of_4, ↓ex_iconst, fX4_of_5, fX4_of_6, ↓ex_iload_n, ↓xI_i, ↓xIg_c, fX4_of_7, ↓ex_imul, ↓s2I_c, fX4_of_8, ↓ex_iadd, fX4_of_9, fX4_of_10, fX4_of_11, ↓ex_iaload, ↓sRI_c, ↓scrR_n, fX4_of_12, ↓ex_ireturn, ↓rt_i, p1, p2, q1, q2, ix_e, clampN (n := 3 + 4 * cl e + cl w) (by omega), ↓reduceIte, not_true_eq_false, not_false_eq_true, false_implies, true_implies, implies_true, and_true, true_and, and_false, false_and, or_true, true_or, or_false, false_or, Classical.not_not, ite_true, ite_false]
    exact ⟨vp_inN (by omega) (by omega), hC⟩
  next => exact hC.elim)
def layX (X : XT) (e : Nat) (a c w d : Int32) : XT := sI (sI (sI (sI X 52 (3 + 4 * e) a) 52 (3 + 4 * e + 1) c) 52 (3 + 4 * e + 2) w) 52 (3 + 4 * e + 3) d
def C_X4_lays : CT := fun As X K => match As with
  | [.ref r, .int e, .int a, .int c, .int w, .int d] => r = 51 ∧ vp_in e 12 ∧ K none (layX X (cl e) a c w d)
  | _ => False
set_option maxRecDepth 20000 in
set_option maxHeartbeats 4000000 in
theorem d_X4_lays (l : Launch) : Does l yX4_lays (wY yX4_lays cX4_lays 6 (retT 3)) (rmF 0) C_X4_lays := does_of (rt := 3) (by decide +kernel) tkX4_lays (calls := []) (fun _ h => absurd h List.not_mem_nil) (by
  intro As X post hC
  unfold C_X4_lays at hC
  split at hC
  next r e a c w d =>
    obtain ⟨rfl, he, hC⟩ := hC
    refine ⟨Nat.le_of_ble_eq_true rfl, fun R hR => ?_⟩
    obtain ⟨⟨p1, p2, p3, p4, p5, p6, p7⟩, q1, q2, q3, q4, q5, q6, q7⟩ := sh_m
    obtain ⟨e1, e2⟩ := vp_cl he
    obtain ⟨q, hq⟩ : ∃ q, q = cl e := ⟨_, rfl⟩
    rw [← hq] at e1 e2 hC
    rw [e2]
    refine go hR [] 8 ?_
    simp only [lv_args, ↓reduceIte, Nat.reduceEqDiff, Nat.reduceAdd, Nat.reduceLeDiff, reduceCtorEq, and_true, true_and, false_and, and_false, true_or, or_true, or_false, false_or, true_implies, false_implies, implies_true, not_true_eq_false, not_false_eq_true, eq_self, fx_s, ↓run_s, run_0, ↓rs_n, ↓rs_c, as_s, ls_n, ls_c, lc_s, lget_c, fX4_lays_0, ↓ex_aload_n, ↓xR_r, ↓xRg_c, fX4_lays_1, ↓ex_getfield, ↓s1R_c, ↓fv_4_0, fX4_lays_4, ↓ex_iconst, fX4_lays_5, fX4_lays_6, ↓ex_iload_n, ↓xI_i, ↓xIg_c, fX4_lays_7, ↓ex_imul, ↓s2I_c, fX4_lays_8, ↓ex_iadd, fX4_lays_9, fX4_lays_10, ↓ex_iastore, ↓sRII_c, fX4_lays_11, fX4_lays_12, fX4_lays_15, fX4_lays_16, fX4_lays_17, fX4_lays_18, fX4_lays_19, fX4_lays_20, fX4_lays_21, fX4_lays_22, fX4_lays_23, fX4_lays_24, fX4_lays_25, fX4_lays_28, fX4_lays_29, fX4_lays_30, fX4_lays_31, fX4_lays_32, fX4_lays_33, fX4_lays_34, fX4_lays_35, ↓ex_iload, fX4_lays_37, fX4_lays_38, fX4_lays_39, fX4_lays_42, fX4_lays_43, fX4_lays_44, fX4_lays_45, fX4_lays_46, fX4_lays_47, fX4_lays_48, fX4_lays_49, fX4_lays_51, fX4_lays_52, ↓ex_return_, ↓rt_v, p1, p2, q1, q2, ix_0, ix_1, ix_2, ix_3, clampN (n := 3 + 4 * q) (by omega), clampN (n := 3 + 4 * q + 1) (by omega), clampN (n := 3 + 4 * q + 2) (by omega), clampN (n := 3 + 4 * q + 3) (by omega), ↓reduceIte, not_true_eq_false, not_false_eq_true, false_implies, true_implies, implies_true, and_true, true_and, and_false, false_and, or_true, true_or, or_false, false_or, Classical.not_not, ite_true, ite_false]
    refine ⟨vp_inN (by omega) (by omega), ?_⟩
    refine go hR [] 10 ?_
    simp only [↓reduceIte, Nat.reduceEqDiff, Nat.reduceAdd, Nat.reduceLeDiff, reduceCtorEq, and_true, true_and, false_and, and_false, true_or, or_true, or_false, false_or, true_implies, false_implies, implies_true, not_true_eq_false, not_false_eq_true, eq_self, fx_s, ↓run_s, run_0, ↓rs_n, ↓rs_c, as_s, ls_n, ls_c, lc_s, lget_c, fX4_lays_0, ↓ex_aload_n, ↓xR_r, ↓xRg_c, fX4_lays_1, ↓ex_getfield, ↓s1R_c, ↓fv_4_0, fX4_lays_4, ↓ex_iconst, fX4_lays_5, fX4_lays_6, ↓ex_iload_n, ↓xI_i, ↓xIg_c, fX4_lays_7, ↓ex_imul, ↓s2I_c, fX4_lays_8, ↓ex_iadd, fX4_lays_9, fX4_lays_10, ↓ex_iastore, ↓sRII_c, fX4_lays_11, fX4_lays_12, fX4_lays_15, fX4_lays_16, fX4_lays_17, fX4_lays_18, fX4_lays_19, fX4_lays_20, fX4_lays_21, fX4_lays_22, fX4_lays_23, fX4_lays_24, fX4_lays_25, fX4_lays_28, fX4_lays_29, fX4_lays_30, fX4_lays_31, fX4_lays_32, fX4_lays_33, fX4_lays_34, fX4_lays_35, ↓ex_iload, fX4_lays_37, fX4_lays_38, fX4_lays_39, fX4_lays_42, fX4_lays_43, fX4_lays_44, fX4_lays_45, fX4_lays_46, fX4_lays_47, fX4_lays_48, fX4_lays_49, fX4_lays_51, fX4_lays_52, ↓ex_return_, ↓rt_v, p1, p2, q1, q2, ix_0, ix_1, ix_2, ix_3, clampN (n := 3 + 4 * q) (by omega), clampN (n := 3 + 4 * q + 1) (by omega), clampN (n := 3 + 4 * q + 2) (by omega), clampN (n := 3 + 4 * q + 3) (by omega), ↓reduceIte, not_true_eq_false, not_false_eq_true, false_implies, true_implies, implies_true, and_true, true_and, and_false, false_and, or_true, true_or, or_false, false_or, Classical.not_not, ite_true, ite_false]
    refine ⟨vp_inN (by omega) (by omega), ?_⟩
    refine go hR [] 10 ?_
    simp only [↓reduceIte, Nat.reduceEqDiff, Nat.reduceAdd, Nat.reduceLeDiff, reduceCtorEq, and_true, true_and, false_and, and_false, true_or, or_true, or_false, false_or, true_implies, false_implies, implies_true, not_true_eq_false, not_false_eq_true, eq_self, fx_s, ↓run_s, run_0, ↓rs_n, ↓rs_c, as_s, ls_n, ls_c, lc_s, lget_c, fX4_lays_0, ↓ex_aload_n, ↓xR_r, ↓xRg_c, fX4_lays_1, ↓ex_getfield, ↓s1R_c, ↓fv_4_0, fX4_lays_4, ↓ex_iconst, fX4_lays_5, fX4_lays_6, ↓ex_iload_n, ↓xI_i, ↓xIg_c, fX4_lays_7, ↓ex_imul, ↓s2I_c, fX4_lays_8, ↓ex_iadd, fX4_lays_9, fX4_lays_10, ↓ex_iastore, ↓sRII_c, fX4_lays_11, fX4_lays_12, fX4_lays_15, fX4_lays_16, fX4_lays_17, fX4_lays_18, fX4_lays_19, fX4_lays_20, fX4_lays_21, fX4_lays_22, fX4_lays_23, fX4_lays_24, fX4_lays_25, fX4_lays_28, fX4_lays_29, fX4_lays_30, fX4_lays_31, fX4_lays_32, fX4_lays_33, fX4_lays_34, fX4_lays_35, ↓ex_iload, fX4_lays_37, fX4_lays_38, fX4_lays_39, fX4_lays_42, fX4_lays_43, fX4_lays_44, fX4_lays_45, fX4_lays_46, fX4_lays_47, fX4_lays_48, fX4_lays_49, fX4_lays_51, fX4_lays_52, ↓ex_return_, ↓rt_v, p1, p2, q1, q2, ix_0, ix_1, ix_2, ix_3, clampN (n := 3 + 4 * q) (by omega), clampN (n := 3 + 4 * q + 1) (by omega), clampN (n := 3 + 4 * q + 2) (by omega), clampN (n := 3 + 4 * q + 3) (by omega), ↓reduceIte, not_true_eq_false, not_false_eq_true, false_implies, true_implies, implies_true, and_true, true_and, and_false, false_and, or_true, true_or, or_false, false_or, Classical.not_not, ite_true, ite_false]
    refine ⟨vp_inN (by omega) (by omega), ?_⟩
    refine go hR [] 10 ?_
    simp only [↓reduceIte, Nat.reduceEqDiff, Nat.reduceAdd, Nat.reduceLeDiff, reduceCtorEq, and_true, true_and, false_and, and_false, true_or, or_true, or_false, false_or, true_implies, false_implies, implies_true, not_true_eq_false, not_false_eq_true, eq_self, fx_s, ↓run_s, run_0, ↓rs_n, ↓rs_c, as_s, ls_n, ls_c, lc_s, lget_c, fX4_lays_0, ↓ex_aload_n, ↓xR_r, ↓xRg_c, fX4_lays_1, ↓ex_getfield, ↓s1R_c, ↓fv_4_0, fX4_lays_4, ↓ex_iconst, fX4_lays_5, fX4_lays_6, ↓ex_iload_n, ↓xI_i, ↓xIg_c, fX4_lays_7, ↓ex_imul, ↓s2I_c, fX4_lays_8, ↓ex_iadd, fX4_lays_9, fX4_lays_10, ↓ex_iastore, ↓sRII_c, fX4_lays_11, fX4_lays_12, fX4_lays_15, fX4_lays_16, fX4_lays_17, fX4_lays_18, fX4_lays_19, fX4_lays_20, fX4_lays_21, fX4_lays_22, fX4_lays_23, fX4_lays_24, fX4_lays_25, fX4_lays_28, fX4_lays_29, fX4_lays_30, fX4_lays_31, fX4_lays_32, fX4_lays_33, fX4_lays_34, fX4_lays_35, ↓ex_iload, fX4_lays_37, fX4_lays_38, fX4_lays_39, fX4_lays_42, fX4_lays_43, fX4_lays_44, fX4_lays_45, fX4_lays_46, fX4_lays_47, fX4_lays_48, fX4_lays_49, fX4_lays_51, fX4_lays_52, ↓ex_return_, ↓rt_v, p1, p2, q1, q2, ix_0, ix_1, ix_2, ix_3, clampN (n := 3 + 4 * q) (by omega), clampN (n := 3 + 4 * q + 1) (by omega), clampN (n := 3 + 4 * q + 2) (by omega), clampN (n := 3 + 4 * q + 3) (by omega), ↓reduceIte, not_true_eq_false, not_false_eq_true, false_implies, true_implies, implies_true, and_true, true_and, and_false, false_and, or_true, true_or, or_false, false_or, Classical.not_not, ite_true, ite_false]
    refine ⟨vp_inN (by omega) (by omega), ?_⟩
    refine go hR [] 40 ?_
    simp only [↓reduceIte, Nat.reduceEqDiff, Nat.reduceAdd, Nat.reduceLeDiff, reduceCtorEq, and_true, true_and, false_and, and_false, true_or, or_true, or_false, false_or, true_implies, false_implies, implies_true, not_true_eq_false, not_false_eq_true, eq_self, fx_s, ↓run_s, run_0, ↓rs_n, ↓rs_c, as_s, ls_n, ls_c, lc_s, lget_c, fX4_lays_0, ↓ex_aload_n, ↓xR_r, ↓xRg_c, fX4_lays_1, ↓ex_getfield, ↓s1R_c, ↓fv_4_0, fX4_lays_4, ↓ex_iconst, fX4_lays_5, fX4_lays_6, ↓ex_iload_n, ↓xI_i, ↓xIg_c, fX4_lays_7, ↓ex_imul, ↓s2I_c, fX4_lays_8, ↓ex_iadd, fX4_lays_9, fX4_lays_10, ↓ex_iastore, ↓sRII_c, fX4_lays_11, fX4_lays_12, fX4_lays_15, fX4_lays_16, fX4_lays_17, fX4_lays_18, fX4_lays_19, fX4_lays_20, fX4_lays_21, fX4_lays_22, fX4_lays_23, fX4_lays_24, fX4_lays_25, fX4_lays_28, fX4_lays_29, fX4_lays_30, fX4_lays_31, fX4_lays_32, fX4_lays_33, fX4_lays_34, fX4_lays_35, ↓ex_iload, fX4_lays_37, fX4_lays_38, fX4_lays_39, fX4_lays_42, fX4_lays_43, fX4_lays_44, fX4_lays_45, fX4_lays_46, fX4_lays_47, fX4_lays_48, fX4_lays_49, fX4_lays_51, fX4_lays_52, ↓ex_return_, ↓rt_v, ↓reduceIte, not_true_eq_false, not_false_eq_true, false_implies, true_implies, implies_true, and_true, true_and, and_false, false_and, or_true, true_or, or_false, false_or, Classical.not_not, ite_true, ite_false]
    exact hC
  next => exact hC.elim)
def C_X4_copies : CT := fun As X K => match As with
  | [.ref r, .int a, .int b] => ∃ i j : Nat, (r = 51 ∧ a = nI i ∧ b = nI j ∧ i ≤ 5 ∧ j ≤ 5 ∧ i ≠ j) ∧ ∀ X', Fr (fun k => k = 52) X X' → (∀ k, k < 59 → X'.1 52 (59 * j + k) = X.1 52 (59 * i + k)) → (∀ p, p < 59 * j ∨ 59 * j + 59 ≤ p → X'.1 52 p = X.1 52 p) → K none X'
  | _ => False
set_option maxRecDepth 20000 in
set_option maxHeartbeats 4000000 in
theorem d_X4_copies (l : Launch) : Does l yX4_copies (wY yX4_copies cX4_copies 4 (retT 3)) (rmF 0) C_X4_copies := does_of (rt := 3) (by decide +kernel) tkX4_copies (calls := []) (fun _ h => absurd h List.not_mem_nil) (by
  intro As X post hC
  unfold C_X4_copies at hC
  split at hC
  next r a b =>
    obtain ⟨i, j, ⟨rfl, rfl, rfl, hi, hj, hij⟩, hpost⟩ := hC
    refine ⟨Nat.le_of_ble_eq_true rfl, fun R hR => ?_⟩
    obtain ⟨⟨p1, p2, p3, p4, p5, p6, p7⟩, q1, q2, q3, q4, q5, q6, q7⟩ := sh_m
    have key : ∀ q k Y, k + q = 59 → Fr (fun k => k = 52) X Y → (∀ u, u < k → Y.1 52 (59 * j + u) = X.1 52 (59 * i + u)) → (∀ p, p < 59 * j ∨ 59 * j + k ≤ p → Y.1 52 p = X.1 52 p) → R 2 [(0, .ref 51), (1, .int (nI i)), (2, .int (nI j)), (3, .int (nI k))] [] Y := by
      intro q
      induction q with
      | zero =>
        intro k Y hk hF h1 h2
        refine go hR [(2, [0, 1, 2, 3])] 60 ?_
        simp only [↓reduceIte, Nat.reduceEqDiff, Nat.reduceAdd, Nat.reduceLeDiff, reduceCtorEq, and_true, true_and, false_and, and_false, true_or, or_true, or_false, false_or, true_implies, false_implies, implies_true, not_true_eq_false, not_false_eq_true, eq_self, fx_s, ↓run_s, run_0, ↓rs_n, ↓rs_c, as_s, ls_n, ls_c, lc_s, lget_c, fX4_copies_0, ↓ex_iconst, fX4_copies_1, ↓ex_istore_n, ↓s1I_c, ↓lsto_e, ↓lrmK_n, ↓lrmK_f, ct_i, ct_l, ct_r, fX4_copies_2, ↓ex_iload_n, ↓xI_i, ↓xIg_c, fX4_copies_3, ↓ex_bipush, fX4_copies_5, ↓ex_if_icmp_ge, ↓s2I_c, fX4_copies_8, ↓ex_aload_n, ↓xR_r, ↓xRg_c, fX4_copies_9, ↓ex_getfield, ↓s1R_c, ↓fv_4_0, fX4_copies_12, fX4_copies_14, fX4_copies_15, ↓ex_imul, fX4_copies_16, fX4_copies_17, ↓ex_iadd, fX4_copies_18, fX4_copies_19, fX4_copies_22, fX4_copies_24, fX4_copies_25, fX4_copies_26, fX4_copies_27, fX4_copies_28, ↓ex_iaload, ↓sRI_c, ↓scrR_n, fX4_copies_29, ↓ex_iastore, ↓sRII_c, fX4_copies_30, ↓ex_iinc, fX4_copies_33, ↓ex_goto, fX4_copies_36, ↓ex_return_, ↓rt_v, leI, nI_toInt (n := k) (by omega), tI_m5, tI_m4, tI_m3, tI_m2, tI_m1, tI_0, tI_1, tI_2, tI_3, tI_4, tI_5, tI_7, tI_8, tI_10, tI_12, tI_30, tI_31, tI_32, tI_47, tI_48, tI_57, tI_59, tI_42, tI_43, tI_45, tI_61, tI_62, tI_100, tI_120, tI_255, tI_1000, ↓reduceIte, not_true_eq_false, not_false_eq_true, false_implies, true_implies, implies_true, and_true, true_and, and_false, false_and, or_true, true_or, or_false, false_or, Classical.not_not, ite_true, ite_false]
        have hk2 : k = 59 := by omega
        subst hk2
        exact ⟨fun _ => hpost Y hF h1 h2, fun z => absurd (by omega) z⟩
      | succ q ih =>
        intro k Y hk hF h1 h2
        refine go hR [(2, [0, 1, 2, 3])] 60 ?_
        simp only [↓reduceIte, Nat.reduceEqDiff, Nat.reduceAdd, Nat.reduceLeDiff, reduceCtorEq, and_true, true_and, false_and, and_false, true_or, or_true, or_false, false_or, true_implies, false_implies, implies_true, not_true_eq_false, not_false_eq_true, eq_self, fx_s, ↓run_s, run_0, ↓rs_n, ↓rs_c, as_s, ls_n, ls_c, lc_s, lget_c, fX4_copies_0, ↓ex_iconst, fX4_copies_1, ↓ex_istore_n, ↓s1I_c, ↓lsto_e, ↓lrmK_n, ↓lrmK_f, ct_i, ct_l, ct_r, fX4_copies_2, ↓ex_iload_n, ↓xI_i, ↓xIg_c, fX4_copies_3, ↓ex_bipush, fX4_copies_5, ↓ex_if_icmp_ge, ↓s2I_c, fX4_copies_8, ↓ex_aload_n, ↓xR_r, ↓xRg_c, fX4_copies_9, ↓ex_getfield, ↓s1R_c, ↓fv_4_0, fX4_copies_12, fX4_copies_14, fX4_copies_15, ↓ex_imul, fX4_copies_16, fX4_copies_17, ↓ex_iadd, fX4_copies_18, fX4_copies_19, fX4_copies_22, fX4_copies_24, fX4_copies_25, fX4_copies_26, fX4_copies_27, fX4_copies_28, ↓ex_iaload, ↓sRI_c, ↓scrR_n, fX4_copies_29, ↓ex_iastore, ↓sRII_c, fX4_copies_30, ↓ex_iinc, fX4_copies_33, ↓ex_goto, fX4_copies_36, ↓ex_return_, ↓rt_v, p1, p2, q1, q2, ix_s, leI, nI_toInt (n := k) (by omega), tI_m5, tI_m4, tI_m3, tI_m2, tI_m1, tI_0, tI_1, tI_2, tI_3, tI_4, tI_5, tI_7, tI_8, tI_10, tI_12, tI_30, tI_31, tI_32, tI_47, tI_48, tI_57, tI_59, tI_42, tI_43, tI_45, tI_61, tI_62, tI_100, tI_120, tI_255, tI_1000, clampN (n := 59 * i + k) (by omega), clampN (n := 59 * j + k) (by omega), add1N, ↓reduceIte, not_true_eq_false, not_false_eq_true, false_implies, true_implies, implies_true, and_true, true_and, and_false, false_and, or_true, true_or, or_false, false_or, Classical.not_not, ite_true, ite_false]
        refine ⟨fun z => absurd z (by omega), fun _ => ⟨vp_inN (by omega) (by omega), vp_inN (by omega) (by omega), ih (k + 1) _ (by omega) (Fr.pI (P := fun k => k = 52) hF rfl _ _) (fun u hu => ?_) (fun p hp => ?_)⟩⟩
        · by_cases e : u = k
          · subst e
            rw [h2 (59 * i + u) (by omega)]
            simp [sI_1, upd_a]
          · rw [sI_1, if_pos rfl, upd_a, if_neg (by omega)]; exact h1 u (by omega)
        · rw [sI_1, if_pos rfl, upd_a, if_neg (by omega)]; exact h2 p (by omega)
    refine go hR [(2, [0, 1, 2, 3])] 60 ?_
    simp only [lv_args, ↓reduceIte, Nat.reduceEqDiff, Nat.reduceAdd, Nat.reduceLeDiff, reduceCtorEq, and_true, true_and, false_and, and_false, true_or, or_true, or_false, false_or, true_implies, false_implies, implies_true, not_true_eq_false, not_false_eq_true, eq_self, fx_s, ↓run_s, run_0, ↓rs_n, ↓rs_c, as_s, ls_n, ls_c, lc_s, lget_c, fX4_copies_0, ↓ex_iconst, fX4_copies_1, ↓ex_istore_n, ↓s1I_c, ↓lsto_e, ↓lrmK_n, ↓lrmK_f, ct_i, ct_l, ct_r, fX4_copies_2, ↓ex_iload_n, ↓xI_i, ↓xIg_c, fX4_copies_3, ↓ex_bipush, fX4_copies_5, ↓ex_if_icmp_ge, ↓s2I_c, fX4_copies_8, ↓ex_aload_n, ↓xR_r, ↓xRg_c, fX4_copies_9, ↓ex_getfield, ↓s1R_c, ↓fv_4_0, fX4_copies_12, fX4_copies_14, fX4_copies_15, ↓ex_imul, fX4_copies_16, fX4_copies_17, ↓ex_iadd, fX4_copies_18, fX4_copies_19, fX4_copies_22, fX4_copies_24, fX4_copies_25, fX4_copies_26, fX4_copies_27, fX4_copies_28, ↓ex_iaload, ↓sRI_c, ↓scrR_n, fX4_copies_29, ↓ex_iastore, ↓sRII_c, fX4_copies_30, ↓ex_iinc, fX4_copies_33, ↓ex_goto, fX4_copies_36, ↓ex_return_, ↓rt_v, ↓reduceIte, not_true_eq_false, not_false_eq_true, false_implies, true_implies, implies_true, and_true, true_and, and_false, false_and, or_true, true_or, or_false, false_or, Classical.not_not, ite_true, ite_false]
    exact key 59 0 X (by omega) (Fr.rf _ _) (fun u hu => absurd hu (by omega)) (fun p _ => rfl)
  next => exact hC.elim)
noncomputable def C_X4_between : CT := fun As X K => match As with
  | [.ref r, .int a, .int c] => ∃ (s : SV) (a' c' : Nat), (r = 51 ∧ RSf (X.1 52) s ∧ WF s ∧ a = nI a' ∧ c = nI c' ∧ a' < 8 ∧ c' < 8) ∧ K (some (.int (oI (fidx s a' c')))) X
  | _ => False
set_option maxRecDepth 20000 in
set_option maxHeartbeats 4000000 in
theorem d_X4_between (l : Launch) : Does l yX4_between (wY yX4_between cX4_between 5 (retT 0)) (rmF 1) C_X4_between := does_of (rt := 0) (by decide +kernel) tkX4_between (calls := [(46, false, 3, 4, C_X4_of)]) (List.forall_mem_cons.mpr ⟨cr_V (d_X4_of l) rfl (by decide +kernel) (by decide +kernel) ⟨rfl, rfl⟩ ⟨Nat.le_of_ble_eq_true rfl, Nat.le_of_ble_eq_true rfl⟩, fun _ h => absurd h List.not_mem_nil⟩) (by
  intro As X post hC
  unfold C_X4_between at hC
  split at hC
  next r a c =>
    obtain ⟨s, a', c', ⟨rfl, hS, hW, rfl, rfl, ha, hc⟩, hpost⟩ := hC
    refine ⟨Nat.le_of_ble_eq_true rfl, fun R hR => ?_⟩
    obtain ⟨⟨p1, p2, p3, p4, p5, p6, p7⟩, q1, q2, q3, q4, q5, q6, q7⟩ := sh_m
    obtain ⟨h1, h2, h3, h4, h5⟩ := id hS
    have hn := hW.1
    have key : ∀ k i v, i + k = s.n → ((v = (-1 : Int32) ∧ ∀ j, j < i → ¬ (s.F j = a' ∧ s.T j = c')) ∨ ∃ j, j < i ∧ (s.F j = a' ∧ s.T j = c') ∧ v = nI j) → R 5 [(0, .ref 51), (1, .int (nI a')), (2, .int (nI c')), (3, .int v), (4, .int (nI i))] [] X := by
      intro k
      induction k with
      | zero =>
        intro i v hi hv
        refine go hR [(5, [0, 1, 2, 3, 4])] 80 ?_
        simp only [↓reduceIte, Nat.reduceEqDiff, Nat.reduceAdd, Nat.reduceLeDiff, reduceCtorEq, and_true, true_and, false_and, and_false, true_or, or_true, or_false, false_or, true_implies, false_implies, implies_true, not_true_eq_false, not_false_eq_true, eq_self, fx_s, ↓run_s, run_0, ↓rs_n, ↓rs_c, as_s, ls_n, ls_c, lc_s, lget_c, fX4_between_0, ↓ex_iconst, fX4_between_1, ↓ex_istore_n, ↓s1I_c, ↓lsto_e, ↓lrmK_n, ↓lrmK_f, ct_i, ct_l, ct_r, fX4_between_2, fX4_between_3, ↓ex_istore, fX4_between_5, ↓ex_iload, ↓xI_i, ↓xIg_c, fX4_between_7, ↓ex_aload_n, ↓xR_r, ↓xRg_c, fX4_between_8, ↓ex_getfield, ↓s1R_c, ↓fv_4_0, fX4_between_11, fX4_between_12, ↓ex_iaload, ↓sRI_c, ↓scrR_n, fX4_between_13, ↓ex_if_icmp_ge, ↓s2I_c, fX4_between_16, fX4_between_17, fX4_between_19, fX4_between_20, ↓ex_invokevirtual, ↓xc_0, ↓xc_s, ↓xc_1, ↓pk_s, ↓k_s, ↓k_n, catS_n, catS_c, rOk_c, ↓pk_f, fX4_between_23, ↓ex_iload_n, fX4_between_24, ↓ex_if_icmp_ne, fX4_between_27, fX4_between_28, fX4_between_30, fX4_between_31, fX4_between_34, fX4_between_35, fX4_between_38, fX4_between_40, ↓ex_goto, fX4_between_43, fX4_between_44, fX4_between_45, ↓ex_iinc, fX4_between_48, fX4_between_51, fX4_between_52, ↓ex_ireturn, ↓rt_i, p1, p2, q1, q2, vr_0, clamp0, h1, leN (a := s.n) (b := i) (by omega) (by omega), ↓reduceIte, not_true_eq_false, not_false_eq_true, false_implies, true_implies, implies_true, and_true, true_and, and_false, false_and, or_true, true_or, or_false, false_or, Classical.not_not, ite_true, ite_false]
        refine ⟨fun _ => ?_, fun z => absurd (by omega) z⟩
        have e : v = oI (fidx s a' c') := by
          cases h : fidx s a' c' with
          | none =>
            rcases hv with ⟨h8, -⟩ | ⟨j, hj, hm, -⟩
            · exact h8
            · exact absurd hm (fidx_none h j (by omega))
          | some q =>
            obtain ⟨g1, g2, g3⟩ := fidx_some h
            rcases hv with ⟨-, h9⟩ | ⟨j, hj, hm, h8⟩
            · exact absurd ⟨g2, g3⟩ (h9 q (by omega))
            · rw [h8, hW.2.2.1 j q (by omega) g1 (by rw [g2, hm.1]) (by rw [g3, hm.2])]; rfl
        rw [e]; exact hpost
      | succ k ih =>
        intro i v hi hv
        obtain ⟨g1, g2, g3, g4⟩ := h4 i (by omega)
        obtain ⟨b1, b2, -⟩ := hW.2.1 i (by omega)
        refine go hR [(5, [0, 1, 2, 3, 4])] 80 ?_
        simp only [↓reduceIte, Nat.reduceEqDiff, Nat.reduceAdd, Nat.reduceLeDiff, reduceCtorEq, and_true, true_and, false_and, and_false, true_or, or_true, or_false, false_or, true_implies, false_implies, implies_true, not_true_eq_false, not_false_eq_true, eq_self, fx_s, ↓run_s, run_0, ↓rs_n, ↓rs_c, as_s, ls_n, ls_c, lc_s, lget_c, fX4_between_0, ↓ex_iconst, fX4_between_1, ↓ex_istore_n, ↓s1I_c, ↓lsto_e, ↓lrmK_n, ↓lrmK_f, ct_i, ct_l, ct_r, fX4_between_2, fX4_between_3, ↓ex_istore, fX4_between_5, ↓ex_iload, ↓xI_i, ↓xIg_c, fX4_between_7, ↓ex_aload_n, ↓xR_r, ↓xRg_c, fX4_between_8, ↓ex_getfield, ↓s1R_c, ↓fv_4_0, fX4_between_11, fX4_between_12, ↓ex_iaload, ↓sRI_c, ↓scrR_n, fX4_between_13, ↓ex_if_icmp_ge, ↓s2I_c, fX4_between_16, fX4_between_17, fX4_between_19, fX4_between_20, ↓ex_invokevirtual, ↓xc_0, ↓xc_s, ↓xc_1, ↓pk_s, ↓k_s, ↓k_n, catS_n, catS_c, rOk_c, ↓pk_f, fX4_between_23, ↓ex_iload_n, fX4_between_24, ↓ex_if_icmp_ne, fX4_between_27, fX4_between_28, fX4_between_30, fX4_between_31, fX4_between_34, fX4_between_35, fX4_between_38, fX4_between_40, ↓ex_goto, fX4_between_43, fX4_between_44, fX4_between_45, ↓ex_iinc, fX4_between_48, fX4_between_51, fX4_between_52, ↓ex_ireturn, ↓rt_i, p1, p2, q1, q2, vr_0, clamp0, cl_1, vq_0, vq_1, h1, ↓C_X4_of, leN (a := s.n) (b := i) (by omega) (by omega), clampN (n := i) (by omega), Nat.add_zero, g1, g2, eqN (a := s.F i) (b := a') (by omega) (by omega), eqN (a := s.T i) (b := c') (by omega) (by omega), add1N, ↓reduceIte, not_true_eq_false, not_false_eq_true, false_implies, true_implies, implies_true, and_true, true_and, and_false, false_and, or_true, true_or, or_false, false_or, Classical.not_not, ite_true, ite_false]
        have no : ¬ (s.F i = a' ∧ s.T i = c') → R 5 [(0, .ref 51), (1, .int (nI a')), (2, .int (nI c')), (3, .int v), (4, .int (nI (i + 1)))] [] X := by
          intro hne
          refine ih (i + 1) v (by omega) ?_
          rcases hv with ⟨h8, h9⟩ | ⟨j, hj, hm, h8⟩
          · refine Or.inl ⟨h8, fun j hj => ?_⟩
            by_cases e : j = i
            · rw [e]; exact hne
            · exact h9 j (by omega)
          · exact Or.inr ⟨j, by omega, hm, h8⟩
        have vi : vp_in (nI i) 12 := vp_inN (by omega) (by omega)
        refine ⟨fun z => absurd z (by omega), fun _ => ⟨vi, fun z => no (fun y => z y.1), fun z => ⟨vi, fun y => no (fun w => y w.2), fun y => ih (i + 1) _ (by omega) (Or.inr ⟨i, by omega, ⟨z, y⟩, rfl⟩)⟩⟩⟩
    refine go hR [(5, [0, 1, 2, 3, 4])] 60 ?_
    simp only [lv_args, ↓reduceIte, Nat.reduceEqDiff, Nat.reduceAdd, Nat.reduceLeDiff, reduceCtorEq, and_true, true_and, false_and, and_false, true_or, or_true, or_false, false_or, true_implies, false_implies, implies_true, not_true_eq_false, not_false_eq_true, eq_self, fx_s, ↓run_s, run_0, ↓rs_n, ↓rs_c, as_s, ls_n, ls_c, lc_s, lget_c, fX4_between_0, ↓ex_iconst, fX4_between_1, ↓ex_istore_n, ↓s1I_c, ↓lsto_e, ↓lrmK_n, ↓lrmK_f, ct_i, ct_l, ct_r, fX4_between_2, fX4_between_3, ↓ex_istore, fX4_between_5, ↓ex_iload, ↓xI_i, ↓xIg_c, fX4_between_7, ↓ex_aload_n, ↓xR_r, ↓xRg_c, fX4_between_8, ↓ex_getfield, ↓s1R_c, ↓fv_4_0, fX4_between_11, fX4_between_12, ↓ex_iaload, ↓sRI_c, ↓scrR_n, fX4_between_13, ↓ex_if_icmp_ge, ↓s2I_c, fX4_between_16, fX4_between_17, fX4_between_19, fX4_between_20, ↓ex_invokevirtual, ↓xc_0, ↓xc_s, ↓xc_1, ↓pk_s, ↓k_s, ↓k_n, catS_n, catS_c, rOk_c, ↓pk_f, fX4_between_23, ↓ex_iload_n, fX4_between_24, ↓ex_if_icmp_ne, fX4_between_27, fX4_between_28, fX4_between_30, fX4_between_31, fX4_between_34, fX4_between_35, fX4_between_38, fX4_between_40, ↓ex_goto, fX4_between_43, fX4_between_44, fX4_between_45, ↓ex_iinc, fX4_between_48, fX4_between_51, fX4_between_52, ↓ex_ireturn, ↓rt_i, ↓reduceIte, not_true_eq_false, not_false_eq_true, false_implies, true_implies, implies_true, and_true, true_and, and_false, false_and, or_true, true_or, or_false, false_or, Classical.not_not, ite_true, ite_false]
    exact key s.n 0 (-1) (by omega) (Or.inl ⟨rfl, fun j hj => absurd hj (by omega)⟩)
  next => exact hC.elim)
end MODELB
