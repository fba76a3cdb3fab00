section SCENE2
def updN (f : Nat → Nat) (k v : Nat) : Nat → Nat := fun j => if j = k then v else f j
theorem updN_a (f : Nat → Nat) (k v j : Nat) : updN f k v j = if j = k then v else f j := rfl
def fndN (F T : Nat → Nat) (a c : Nat) : Nat → Nat → Option Nat
  | 0, _ => none
  | k + 1, i => if F i = a ∧ T i = c then some i else fndN F T a c k (i + 1)
def fidx (s : SV) (a c : Nat) : Option Nat := fndN s.F s.T a c s.n 0
def oI (o : Option Nat) : Int32 := match o with
  | some j => nI j
  | none => -1
theorem findF_N {F T : Nat → Nat} {a c n : Nat} (hF : ∀ e, e < n → F e < 8 ∧ T e < 8) (ha : a < 8) (hc : c < 8) : ∀ k i, i + k = n → findF F T (nI a) (nI c) k i = oI (fndN F T a c k i) := by
  intro k
  induction k with
  | zero => intro i hi; rfl
  | succ k ih =>
    intro i hi
    obtain ⟨h1, h2⟩ := hF i (by omega)
    unfold findF fndN
    have e1 : (nI (F i) = nI a ∧ nI (T i) = nI c) ↔ (F i = a ∧ T i = c) := by rw [eqN (by omega) (by omega), eqN (by omega) (by omega)]
    by_cases h : F i = a ∧ T i = c
    · rw [if_pos h, if_pos (e1.mpr h)]; rfl
    · rw [if_neg h, if_neg (fun z => h (e1.mp z))]; exact ih (i + 1) (by omega)
theorem findS_N {s : SV} {a c : Nat} (hF : ∀ e, e < s.n → s.F e < 8 ∧ s.T e < 8) (ha : a < 8) (hc : c < 8) : findS s (nI a) (nI c) = oI (fidx s a c) := findF_N hF ha hc s.n 0 (by omega)
theorem fndN_some {F T : Nat → Nat} {a c n : Nat} : ∀ k i j, i + k = n → fndN F T a c k i = some j → i ≤ j ∧ j < n ∧ F j = a ∧ T j = c := by
  intro k
  induction k with
  | zero => intro i j hi h; cases h
  | succ k ih =>
    intro i j hi h
    unfold fndN at h
    split at h
    next g => cases h; exact ⟨by omega, by omega, g⟩
    next g =>
      obtain ⟨h1, h2⟩ := ih (i + 1) j (by omega) h
      exact ⟨by omega, h2⟩
theorem fndN_none {F T : Nat → Nat} {a c n : Nat} : ∀ k i, i + k = n → fndN F T a c k i = none → ∀ j, i ≤ j → j < n → ¬ (F j = a ∧ T j = c) := by
  intro k
  induction k with
  | zero => intro i hi h j h1 h2; omega
  | succ k ih =>
    intro i hi h j h1 h2
    unfold fndN at h
    split at h
    next g => cases h
    next g =>
      by_cases e : j = i
      · rw [e]; exact g
      · exact ih (i + 1) (by omega) h j (by omega) h2
theorem fidx_some {s : SV} {a c j : Nat} (h : fidx s a c = some j) : j < s.n ∧ s.F j = a ∧ s.T j = c := (fndN_some s.n 0 j (by omega) h).2
theorem fidx_none {s : SV} {a c : Nat} (h : fidx s a c = none) : ∀ j, j < s.n → ¬ (s.F j = a ∧ s.T j = c) := fun j hj => fndN_none s.n 0 (by omega) h j (by omega) hj
theorem oI_m1 {o : Option Nat} {n : Nat} (h : ∀ j, o = some j → j < n) (hn : n < 2147483648) : oI o = -1 ↔ o = none := by
  cases o with
  | none => exact ⟨fun _ => rfl, fun _ => rfl⟩
  | some j =>
    refine ⟨fun z => ?_, fun z => (by cases z)⟩
    have := h j rfl
    have h2 : (nI j).toInt = j := nI_toInt (by omega)
    have h3 : (nI j).toInt = (-1 : Int32).toInt := by rw [show nI j = -1 from z]
    rw [h2, tI_m1] at h3
    omega
/-- setting, adding, removing an edge -/
def s_set (s : SV) (j w d : Nat) : SV := (s.n, s.F, s.T, updN s.W j w, updN s.D j d, s.H, s.S, s.Q)
def s_add (s : SV) (a c w d : Nat) : SV := (s.n + 1, updN s.F s.n a, updN s.T s.n c, updN s.W s.n w, updN s.D s.n d, s.H, s.S, s.Q)
def s_put (s : SV) (a c w d : Nat) : SV := match fidx s a c with
  | some j => s_set s j w d
  | none => s_add s a c w d
def s_at (s : SV) (a c : Nat) : Nat := (fidx s a c).getD s.n
def dn (f : Nat → Nat) (k : Nat) : Nat → Nat := fun e => if e < k then f e else f (e + 1)
def s_drop (s : SV) (k : Nat) : SV := (s.n - 1, dn s.F k, dn s.T k, dn s.W k, dn s.D k, s.H, s.S, s.Q)
theorem RS_set {X : XT} {b : Nat} {s : SV} (h : RS X b s) (j w d : Nat) : RS (sI (sI X (b + 3) j (nI w)) (b + 4) j (nI d)) b (s_set s j w d) := by
  obtain ⟨h1, h2, h3, h4, h5⟩ := h
  refine ⟨?_, fun e he => ?_, ?_, fun v hv => ?_, ?_⟩
  · simp [sI_1, h1, s_set, SV.n, SV.F, SV.T, SV.W, SV.D, SV.H, SV.S, SV.Q]
  · obtain ⟨g1, g2, g3, g4⟩ := h2 e he
    by_cases e1 : e = j <;> simp [s_set, sI_1, upd_a, updN_a, g1, g2, e1, g3, g4, SV.n, SV.F, SV.T, SV.W, SV.D, SV.H, SV.S, SV.Q] <;> simp [← e1, g1, g2]
  · simp [sI_1, h3, s_set, SV.n, SV.F, SV.T, SV.W, SV.D, SV.H, SV.S, SV.Q]
  · simp [sI_1, h4 v hv, s_set, SV.n, SV.F, SV.T, SV.W, SV.D, SV.H, SV.S, SV.Q]
  · simp [sI_1, h5, s_set, SV.n, SV.F, SV.T, SV.W, SV.D, SV.H, SV.S, SV.Q]
theorem RS_add {X : XT} {b : Nat} {s : SV} (h : RS X b s) (a c w d : Nat) : RS (sI (sI (sI (sI (sI X (b + 1) s.n (nI a)) (b + 2) s.n (nI c)) b 4 (nI (s.n + 1))) (b + 3) s.n (nI w)) (b + 4) s.n (nI d)) b (s_add s a c w d) := by
  obtain ⟨h1, h2, h3, h4, h5⟩ := h
  refine ⟨?_, fun e he => ?_, ?_, fun v hv => ?_, ?_⟩
  · simp [sI_1, upd_a, s_add, SV.n, SV.F, SV.T, SV.W, SV.D, SV.H, SV.S, SV.Q]
  · have he' : e < s.n + 1 := he
    by_cases e1 : e = s.n
    · subst e1
      simp [s_add, sI_1, upd_a, updN_a, SV.n, SV.F, SV.T, SV.W, SV.D, SV.H, SV.S, SV.Q]
    · obtain ⟨g1, g2, g3, g4⟩ := h2 e (by omega)
      have e2 : ¬ e = s.1 := e1
      simp [s_add, sI_1, upd_a, updN_a, g1, g2, e2, g3, g4, SV.n, SV.F, SV.T, SV.W, SV.D, SV.H, SV.S, SV.Q]
  · simp [sI_1, upd_a, h3, s_add, SV.n, SV.F, SV.T, SV.W, SV.D, SV.H, SV.S, SV.Q]
  · simp [sI_1, h4 v hv, s_add, SV.n, SV.F, SV.T, SV.W, SV.D, SV.H, SV.S, SV.Q]
  · simp [sI_1, upd_a, h5, s_add, SV.n, SV.F, SV.T, SV.W, SV.D, SV.H, SV.S, SV.Q]
noncomputable def C_X0_put : CT := fun As X K => match As with
  | [.ref b, .int a, .int c, .int w, .int d] => ∃ (s : SV) (a' c' w' d' : Nat), (isSc b ∧ RS X b s ∧ s.n ≤ 12 ∧ (∀ e, e < s.n → s.F e < 8 ∧ s.T e < 8) ∧ a = nI a' ∧ c = nI c' ∧ w = nI w' ∧ d = nI d' ∧ a' < 8 ∧ c' < 8 ∧ (fidx s a' c' = none → s.n < 12)) ∧ ∀ X', Fr (scn b) X X' → RS X' b (s_put s a' c' w' d') → K (some (.int (nI (s_at s a' c')))) X'
  | _ => False
set_option maxRecDepth 20000 in
set_option maxHeartbeats 4000000 in
theorem d_X0_put (l : Launch) : Does l yX0_put (wY yX0_put cX0_put 6 (retT 0)) (rmF 1) C_X0_put := does_of (rt := 0) (by decide +kernel) tkX0_put (calls := [(37, false, 3, 0, C_X0_find), (41, false, 1, 0, C_X0_isFull), (45, true, 1, 3, C_X3_isNode)]) (List.forall_mem_cons.mpr ⟨cr_V (d_X0_find l) rfl (by decide +kernel) (by decide +kernel) ⟨rfl, rfl⟩ ⟨Nat.le_of_ble_eq_true rfl, Nat.le_of_ble_eq_true rfl⟩, List.forall_mem_cons.mpr ⟨cr_V (d_X0_isFull l) rfl (by decide +kernel) (by decide +kernel) ⟨rfl, rfl⟩ ⟨Nat.le_of_ble_eq_true rfl, Nat.le_of_ble_eq_true rfl⟩, List.forall_mem_cons.mpr ⟨cr_NS (d_X3_isNode l) (by decide +kernel) (by decide +kernel) (by decide +kernel) ⟨rfl, rfl⟩ ⟨Nat.le_of_ble_eq_true rfl, Nat.le_of_ble_eq_true rfl⟩, fun _ h => absurd h List.not_mem_nil⟩⟩⟩) (by
  intro As X post hC
  unfold C_X0_put at hC
  split at hC
  next b a c w d =>
    obtain ⟨b, rfl⟩ : ∃ q : Nat, q = b := ⟨b, rfl⟩
    obtain ⟨s, a', c', w', d', ⟨hb, hRS, hn, hF, rfl, rfl, rfl, rfl, ha, hc, hfull⟩, hpost⟩ := hC
    refine ⟨Nat.le_of_ble_eq_true rfl, fun R hR => ?_⟩
    obtain ⟨s0, s1, s2, s3, s4, s5, -⟩ := isSc_shp hb
    obtain ⟨l0, l1, l2, l3, l4, l5⟩ := isSc_lt hb
    obtain ⟨h1, h2, h3, h4, h5⟩ := id hRS
    have hb0 : scn b b := ⟨by omega, by omega⟩
    have fin : ∀ (j : Nat) (Y : XT), j < 12 → Fr (scn b) X Y → RS (sI (sI Y (b + 3) j (nI w')) (b + 4) j (nI d')) b (s_put s a' c' w' d') → j = s_at s a' c' → R 69 [(0, .ref b), (1, .int (nI a')), (2, .int (nI c')), (3, .int (nI w')), (4, .int (nI d')), (5, .int (nI j))] [] Y := by
      intro j Y hj hY hr hjs
      refine go hR [] 40 ?_
      simp only [↓reduceIte, Nat.reduceEqDiff, Nat.reduceAdd, Nat.reduceLeDiff, reduceCtorEq, and_true, true_and, false_and, and_false, true_or, or_true, or_false, false_or, true_implies, false_implies, implies_true, not_true_eq_false, not_false_eq_true, eq_self, fx_s, ↓run_s, run_0, ↓rs_n, ↓rs_c, as_s, ls_n, ls_c, lc_s, lget_c, fX0_put_0, ↓ex_aload_n, ↓xR_r, ↓xRg_c, fX0_put_1, ↓ex_iload_n, ↓xI_i, ↓xIg_c, fX0_put_2, fX0_put_3, ↓ex_invokevirtual, ↓xc_0, ↓xc_s, ↓xc_1, ↓pk_s, ↓k_s, ↓k_n, catS_n, catS_c, rOk_c, ct_i, ct_l, ct_r, ↓pk_f, fX0_put_6, ↓ex_istore, ↓s1I_c, ↓lsto_e, ↓lrmK_n, ↓lrmK_f, fX0_put_8, ↓ex_iload, fX0_put_10, ↓ex_iconst, fX0_put_11, ↓ex_if_icmp_ne, ↓s2I_c, fX0_put_14, fX0_put_15, fX0_put_18, ↓ex_ifCond_ne, fX0_put_21, fX0_put_22, ↓ex_invokestatic, ↓pk_t, fX0_put_25, ↓ex_ifCond_eq, fX0_put_28, fX0_put_29, fX0_put_32, fX0_put_35, fX0_put_36, ↓ex_ireturn, ↓rt_i, fX0_put_37, fX0_put_38, ↓ex_getfield, ↓s1R_c, ↓fv_0_4, fX0_put_41, fX0_put_43, fX0_put_44, ↓fv_0_0, fX0_put_47, fX0_put_49, fX0_put_50, ↓ex_iastore, ↓sRII_c, fX0_put_51, fX0_put_52, ↓fv_0_1, fX0_put_55, fX0_put_57, fX0_put_58, fX0_put_59, fX0_put_60, ↓ex_dup, fX0_put_61, fX0_put_64, fX0_put_65, ↓ex_iadd, fX0_put_66, ↓ex_putfield, ↓pf_0_4, fX0_put_69, fX0_put_70, ↓fv_0_2, fX0_put_73, fX0_put_75, fX0_put_76, fX0_put_77, fX0_put_78, ↓fv_0_3, fX0_put_81, fX0_put_83, fX0_put_85, fX0_put_86, fX0_put_88, s0, s3, s4, l0, l3, l4, clampN (n := j) (by omega)]
      refine ⟨vp_inN (by omega) (by omega), vp_inN (by omega) (by omega), ?_⟩
      rw [hjs]; rw [hjs] at hr
      exact hpost _ ((hY.pI ⟨by omega, by omega⟩ _ _).pI ⟨by omega, by omega⟩ _ _) hr
    refine go hR [(69, [0, 1, 2, 3, 4, 5])] 60 ?_
    simp only [lv_args, ↓reduceIte, Nat.reduceEqDiff, Nat.reduceAdd, Nat.reduceLeDiff, reduceCtorEq, and_true, true_and, false_and, and_false, true_or, or_true, or_false, false_or, true_implies, false_implies, implies_true, not_true_eq_false, not_false_eq_true, eq_self, fx_s, ↓run_s, run_0, ↓rs_n, ↓rs_c, as_s, ls_n, ls_c, lc_s, lget_c, fX0_put_0, ↓ex_aload_n, ↓xR_r, ↓xRg_c, fX0_put_1, ↓ex_iload_n, ↓xI_i, ↓xIg_c, fX0_put_2, fX0_put_3, ↓ex_invokevirtual, ↓xc_0, ↓xc_s, ↓xc_1, ↓pk_s, ↓k_s, ↓k_n, catS_n, catS_c, rOk_c, ct_i, ct_l, ct_r, ↓pk_f, fX0_put_6, ↓ex_istore, ↓s1I_c, ↓lsto_e, ↓lrmK_n, ↓lrmK_f, fX0_put_8, ↓ex_iload, fX0_put_10, ↓ex_iconst, fX0_put_11, ↓ex_if_icmp_ne, ↓s2I_c, fX0_put_14, fX0_put_15, fX0_put_18, ↓ex_ifCond_ne, fX0_put_21, fX0_put_22, ↓ex_invokestatic, ↓pk_t, fX0_put_25, ↓ex_ifCond_eq, fX0_put_28, fX0_put_29, fX0_put_32, fX0_put_35, fX0_put_36, ↓ex_ireturn, ↓rt_i, fX0_put_37, fX0_put_38, ↓ex_getfield, ↓s1R_c, ↓fv_0_4, fX0_put_41, fX0_put_43, fX0_put_44, ↓fv_0_0, fX0_put_47, fX0_put_49, fX0_put_50, ↓ex_iastore, ↓sRII_c, fX0_put_51, fX0_put_52, ↓fv_0_1, fX0_put_55, fX0_put_57, fX0_put_58, fX0_put_59, fX0_put_60, ↓ex_dup, fX0_put_61, fX0_put_64, fX0_put_65, ↓ex_iadd, fX0_put_66, ↓ex_putfield, ↓pf_0_4, fX0_put_69, fX0_put_70, ↓fv_0_2, fX0_put_73, fX0_put_75, fX0_put_76, fX0_put_77, fX0_put_78, ↓fv_0_3, fX0_put_81, fX0_put_83, fX0_put_85, fX0_put_86, fX0_put_88, s0, s1, s2, l0, l1, l2, ↓C_X0_find, ↓C_X0_isFull, ↓C_X3_isNode, b2i_0]
    refine ⟨s, ⟨hb, hRS, hn⟩, ?_⟩
    rw [findS_N hF ha hc, oI_m1 (fun j h => (fidx_some h).1) (by omega)]
    refine ⟨fun hj => ?_, fun hj => ⟨s, ⟨hb, hRS, hn⟩, ?_⟩⟩
    · obtain ⟨j, hj⟩ := Option.ne_none_iff_exists'.mp hj
      have hjn := (fidx_some hj).1
      rw [hj]
      refine fin j X (by omega) (Fr.rf _ _) ?_ (by unfold s_at; rw [hj]; rfl)
      unfold s_put
      rw [hj]
      exact RS_set hRS j w' d'
    · have hn12 := hfull hj
      have hnode : ∀ q : Nat, q < 8 → inR (nI q) 0 7 := fun q hq => by unfold inR; rw [nI_toInt (by omega)]; omega
      simp only [hnode a' ha, hnode c' hc, clampN (n := s.n) (by omega), sI_1, show ¬ b = b + 1 by omega, show ¬ b = b + 2 by omega, h1, add1N, ↓reduceIte, not_true_eq_false, not_false_eq_true, false_implies, true_implies, implies_true, and_true, true_and, and_false, false_and, or_true, true_or, or_false, false_or, Classical.not_not, ite_true, ite_false]
      refine ⟨fun z => absurd z (by omega), fun _ => ⟨vp_inN (by omega) (by omega), vp_inN (by omega) (by omega), fin s.n _ hn12 (((Fr.rf _ X).pI ⟨by omega, by omega⟩ _ _).pI ⟨by omega, by omega⟩ _ _ |>.pI hb0 _ _) ?_ (by unfold s_at; rw [hj]; rfl)⟩⟩
      unfold s_put
      rw [hj]
      exact RS_add hRS a' c' w' d'
  next => exact hC.elim)
/-- what a drop does up to place i -/
def C_X0_drop : CT := fun As X K => match As with
  | [.ref b, .int a] => ∃ (s : SV) (k : Nat), (isSc b ∧ RS X b s ∧ s.n ≤ 12 ∧ a = nI k ∧ k < s.n) ∧ ∀ X', Fr (scn b) X X' → RS X' b (s_drop s k) → K none X'
  | _ => False
set_option maxRecDepth 20000 in
set_option maxHeartbeats 4000000 in
theorem d_X0_drop (l : Launch) : Does l yX0_drop (wY yX0_drop cX0_drop 3 (retT 3)) (rmF 1) C_X0_drop := does_of (rt := 3) (by decide +kernel) tkX0_drop (calls := [(49, false, 2, 0, C_X0_hasEdge)]) (List.forall_mem_cons.mpr ⟨cr_V (d_X0_hasEdge l) rfl (by decide +kernel) (by decide +kernel) ⟨rfl, rfl⟩ ⟨Nat.le_of_ble_eq_true rfl, Nat.le_of_ble_eq_true rfl⟩, fun _ h => absurd h List.not_mem_nil⟩) (by
  intro As X post hC
  unfold C_X0_drop at hC
  split at hC
  next b a =>
    obtain ⟨b, rfl⟩ : ∃ q : Nat, q = b := ⟨b, rfl⟩
    obtain ⟨s, k, ⟨hb, hRS, hn, rfl, hk⟩, hpost⟩ := hC
    refine ⟨Nat.le_of_ble_eq_true rfl, fun R hR => ?_⟩
    obtain ⟨s0, s1, s2, s3, s4, s5, -⟩ := isSc_shp hb
    obtain ⟨l0, l1, l2, l3, l4, l5⟩ := isSc_lt hb
    obtain ⟨h1, h2, h3, h4, h5⟩ := id hRS
    have hb0 : scn b b := ⟨by omega, by omega⟩
    have key : ∀ q i Y, i + q = s.n - 1 → k ≤ i → Fr (scn b) X Y → Y.1 b 4 = nI (s.n - 1) → Y.1 b 5 = nI s.H → Y.1 b 7 = nI s.Q → (∀ v, v < 8 → Y.1 (b + 5) v = s.S v) →
        (∀ e, e < i → Y.1 (b + 1) e = nI (dn s.F k e) ∧ Y.1 (b + 2) e = nI (dn s.T k e) ∧ Y.1 (b + 3) e = nI (dn s.W k e) ∧ Y.1 (b + 4) e = nI (dn s.D k e)) →
        (∀ e, i < e → e < s.n → Y.1 (b + 1) e = nI (s.F e) ∧ Y.1 (b + 2) e = nI (s.T e) ∧ Y.1 (b + 3) e = nI (s.W e) ∧ Y.1 (b + 4) e = nI (s.D e)) → R 21 [(0, .ref b), (2, .int (nI i))] [] Y := by
      intro q
      induction q with
      | zero =>
        intro i Y hi hki hF y4 y5 y7 hS hlo hhi
        refine go hR [(21, [0, 2])] 100 ?_
        simp only [↓reduceIte, Nat.reduceEqDiff, Nat.reduceAdd, Nat.reduceLeDiff, reduceCtorEq, and_true, true_and, false_and, and_false, true_or, or_true, or_false, false_or, true_implies, false_implies, implies_true, not_true_eq_false, not_false_eq_true, eq_self, fx_s, ↓run_s, run_0, ↓rs_n, ↓rs_c, as_s, ls_n, ls_c, lc_s, lget_c, fX0_drop_0, ↓ex_aload_n, ↓xR_r, ↓xRg_c, fX0_drop_1, ↓ex_iload_n, ↓xI_i, ↓xIg_c, fX0_drop_2, ↓ex_invokevirtual, ↓xc_0, ↓xc_s, ↓xc_1, ↓pk_s, ↓k_s, ↓k_n, catS_n, catS_c, rOk_c, ct_i, ct_l, ct_r, ↓pk_f, fX0_drop_5, ↓ex_ifCond_ne, ↓s1I_c, fX0_drop_8, ↓ex_return_, ↓rt_v, fX0_drop_9, fX0_drop_10, ↓ex_dup, fX0_drop_11, ↓ex_getfield, ↓s1R_c, ↓fv_0_4, fX0_drop_14, ↓ex_iconst, fX0_drop_15, ↓ex_isub, ↓s2I_c, fX0_drop_16, ↓ex_putfield, ↓pf_0_4, fX0_drop_19, fX0_drop_20, ↓ex_istore_n, ↓lsto_e, ↓lrmK_n, ↓lrmK_f, fX0_drop_21, fX0_drop_22, fX0_drop_23, fX0_drop_26, ↓ex_if_icmp_ge, fX0_drop_29, fX0_drop_30, ↓fv_0_0, fX0_drop_33, fX0_drop_34, fX0_drop_35, fX0_drop_38, fX0_drop_39, fX0_drop_40, ↓ex_iadd, fX0_drop_41, ↓ex_iaload, ↓sRI_c, ↓scrR_n, fX0_drop_42, ↓ex_iastore, ↓sRII_c, fX0_drop_43, fX0_drop_44, ↓fv_0_1, fX0_drop_47, fX0_drop_48, fX0_drop_49, fX0_drop_52, fX0_drop_53, fX0_drop_54, fX0_drop_55, fX0_drop_56, fX0_drop_57, fX0_drop_58, ↓fv_0_2, fX0_drop_61, fX0_drop_62, fX0_drop_63, fX0_drop_66, fX0_drop_67, fX0_drop_68, fX0_drop_69, fX0_drop_70, fX0_drop_71, fX0_drop_72, ↓fv_0_3, fX0_drop_75, fX0_drop_76, fX0_drop_77, fX0_drop_80, fX0_drop_81, fX0_drop_82, fX0_drop_83, fX0_drop_84, fX0_drop_85, ↓ex_iinc, fX0_drop_88, ↓ex_goto, fX0_drop_91, s0, l0, y4, leN (a := s.n - 1) (b := i) (by omega) (by omega)]
        refine ⟨fun _ => hpost Y hF ⟨y4, fun e he => hlo e ?_, y5, hS, y7⟩, fun z => absurd (by omega) z⟩
        have : e < s.n - 1 := he
        omega
      | succ q ih =>
        intro i Y hi hki hF y4 y5 y7 hS hlo hhi
        refine go hR [(21, [0, 2])] 100 ?_
        obtain ⟨g1, g2, g3, g4⟩ := hhi (i + 1) (by omega) (by omega)
        simp only [↓reduceIte, Nat.reduceEqDiff, Nat.reduceAdd, Nat.reduceLeDiff, reduceCtorEq, and_true, true_and, false_and, and_false, true_or, or_true, or_false, false_or, true_implies, false_implies, implies_true, not_true_eq_false, not_false_eq_true, eq_self, fx_s, ↓run_s, run_0, ↓rs_n, ↓rs_c, as_s, ls_n, ls_c, lc_s, lget_c, fX0_drop_0, ↓ex_aload_n, ↓xR_r, ↓xRg_c, fX0_drop_1, ↓ex_iload_n, ↓xI_i, ↓xIg_c, fX0_drop_2, ↓ex_invokevirtual, ↓xc_0, ↓xc_s, ↓xc_1, ↓pk_s, ↓k_s, ↓k_n, catS_n, catS_c, rOk_c, ct_i, ct_l, ct_r, ↓pk_f, fX0_drop_5, ↓ex_ifCond_ne, ↓s1I_c, fX0_drop_8, ↓ex_return_, ↓rt_v, fX0_drop_9, fX0_drop_10, ↓ex_dup, fX0_drop_11, ↓ex_getfield, ↓s1R_c, ↓fv_0_4, fX0_drop_14, ↓ex_iconst, fX0_drop_15, ↓ex_isub, ↓s2I_c, fX0_drop_16, ↓ex_putfield, ↓pf_0_4, fX0_drop_19, fX0_drop_20, ↓ex_istore_n, ↓lsto_e, ↓lrmK_n, ↓lrmK_f, fX0_drop_21, fX0_drop_22, fX0_drop_23, fX0_drop_26, ↓ex_if_icmp_ge, fX0_drop_29, fX0_drop_30, ↓fv_0_0, fX0_drop_33, fX0_drop_34, fX0_drop_35, fX0_drop_38, fX0_drop_39, fX0_drop_40, ↓ex_iadd, fX0_drop_41, ↓ex_iaload, ↓sRI_c, ↓scrR_n, fX0_drop_42, ↓ex_iastore, ↓sRII_c, fX0_drop_43, fX0_drop_44, ↓fv_0_1, fX0_drop_47, fX0_drop_48, fX0_drop_49, fX0_drop_52, fX0_drop_53, fX0_drop_54, fX0_drop_55, fX0_drop_56, fX0_drop_57, fX0_drop_58, ↓fv_0_2, fX0_drop_61, fX0_drop_62, fX0_drop_63, fX0_drop_66, fX0_drop_67, fX0_drop_68, fX0_drop_69, fX0_drop_70, fX0_drop_71, fX0_drop_72, ↓fv_0_3, fX0_drop_75, fX0_drop_76, fX0_drop_77, fX0_drop_80, fX0_drop_81, fX0_drop_82, fX0_drop_83, fX0_drop_84, fX0_drop_85, ↓ex_iinc, fX0_drop_88, ↓ex_goto, fX0_drop_91, s0, s1, s2, s3, s4, l0, l1, l2, l3, l4, y4, leN (a := s.n - 1) (b := i) (by omega) (by omega), add1N, clampN (n := i) (by omega), clampN (n := i + 1) (by omega), sI_1, g1, g2, g3, g4, ↓reduceIte, not_true_eq_false, not_false_eq_true, false_implies, true_implies, implies_true, and_true, true_and, and_false, false_and, or_true, true_or, or_false, false_or, Classical.not_not, ite_true, ite_false]
        have v1 : vp_in (nI i) 12 := vp_inN (by omega) (by omega)
        have v2 : vp_in (nI (i + 1)) 12 := vp_inN (by omega) (by omega)
        refine ⟨fun z => absurd z (by omega), fun _ => ⟨v2, v1, v2, v1, v2, v1, v2, v1, ih (i + 1) _ (by omega) (by omega) ((((hF.pI ⟨by omega, by omega⟩ _ _).pI ⟨by omega, by omega⟩ _ _).pI ⟨by omega, by omega⟩ _ _).pI ⟨by omega, by omega⟩ _ _) ?_ ?_ ?_ (fun v hv => ?_) (fun e he => ?_) (fun e he he2 => ?_)⟩⟩
        · simp [sI_1, y4]
        · simp [sI_1, y5]
        · simp [sI_1, y7]
        · simp [sI_1, hS v hv]
        · by_cases e1 : e = i
          · subst e1
            have d1 : ¬ e < k := by omega
            simp [sI_1, upd_a, dn, d1, g1, g2, g3, g4]
          · obtain ⟨a1, a2, a3, a4⟩ := hlo e (by omega)
            simp [sI_1, upd_a, e1, a1, a2, a3, a4]
        · have e1 : ¬ e = i := by omega
          obtain ⟨a1, a2, a3, a4⟩ := hhi e (by omega) he2
          simp [sI_1, upd_a, e1, a1, a2, a3, a4]
    refine go hR [(21, [0, 2])] 100 ?_
    have e1 : nI s.n - 1 = nI (s.n - 1) := pk_sub (a := s.n) (b := 1) (by omega)
    have e2 : (0 ≤ (nI k).toInt ∧ (nI k).toInt < (s.n : Int)) := by rw [nI_toInt (by omega)]; omega
    simp only [lv_args, ↓reduceIte, Nat.reduceEqDiff, Nat.reduceAdd, Nat.reduceLeDiff, reduceCtorEq, and_true, true_and, false_and, and_false, true_or, or_true, or_false, false_or, true_implies, false_implies, implies_true, not_true_eq_false, not_false_eq_true, eq_self, fx_s, ↓run_s, run_0, ↓rs_n, ↓rs_c, as_s, ls_n, ls_c, lc_s, lget_c, fX0_drop_0, ↓ex_aload_n, ↓xR_r, ↓xRg_c, fX0_drop_1, ↓ex_iload_n, ↓xI_i, ↓xIg_c, fX0_drop_2, ↓ex_invokevirtual, ↓xc_0, ↓xc_s, ↓xc_1, ↓pk_s, ↓k_s, ↓k_n, catS_n, catS_c, rOk_c, ct_i, ct_l, ct_r, ↓pk_f, fX0_drop_5, ↓ex_ifCond_ne, ↓s1I_c, fX0_drop_8, ↓ex_return_, ↓rt_v, fX0_drop_9, fX0_drop_10, ↓ex_dup, fX0_drop_11, ↓ex_getfield, ↓s1R_c, ↓fv_0_4, fX0_drop_14, ↓ex_iconst, fX0_drop_15, ↓ex_isub, ↓s2I_c, fX0_drop_16, ↓ex_putfield, ↓pf_0_4, fX0_drop_19, fX0_drop_20, ↓ex_istore_n, ↓lsto_e, ↓lrmK_n, ↓lrmK_f, fX0_drop_21, fX0_drop_22, fX0_drop_23, fX0_drop_26, ↓ex_if_icmp_ge, fX0_drop_29, fX0_drop_30, ↓fv_0_0, fX0_drop_33, fX0_drop_34, fX0_drop_35, fX0_drop_38, fX0_drop_39, fX0_drop_40, ↓ex_iadd, fX0_drop_41, ↓ex_iaload, ↓sRI_c, ↓scrR_n, fX0_drop_42, ↓ex_iastore, ↓sRII_c, fX0_drop_43, fX0_drop_44, ↓fv_0_1, fX0_drop_47, fX0_drop_48, fX0_drop_49, fX0_drop_52, fX0_drop_53, fX0_drop_54, fX0_drop_55, fX0_drop_56, fX0_drop_57, fX0_drop_58, ↓fv_0_2, fX0_drop_61, fX0_drop_62, fX0_drop_63, fX0_drop_66, fX0_drop_67, fX0_drop_68, fX0_drop_69, fX0_drop_70, fX0_drop_71, fX0_drop_72, ↓fv_0_3, fX0_drop_75, fX0_drop_76, fX0_drop_77, fX0_drop_80, fX0_drop_81, fX0_drop_82, fX0_drop_83, fX0_drop_84, fX0_drop_85, ↓ex_iinc, fX0_drop_88, ↓ex_goto, fX0_drop_91, s0, l0, ↓C_X0_hasEdge, b2i_0, h1, e1]
    refine ⟨s, ⟨hb, hRS, hn⟩, fun _ => ?_, fun z => absurd e2 z⟩
    refine key (s.n - 1 - k) k _ (by omega) (by omega) ((Fr.rf _ X).pI hb0 _ _) ?_ ?_ ?_ (fun v hv => ?_) (fun e he => ?_) (fun e he he2 => ?_)
    · simp [sI_1, upd_a]
    · simp [sI_1, upd_a, h3]
    · simp [sI_1, upd_a, h5]
    · simp [sI_1, h4 v hv]
    · obtain ⟨a1, a2, a3, a4⟩ := h2 e (by omega)
      simp [sI_1, dn, he, a1, a2, a3, a4]
    · obtain ⟨a1, a2, a3, a4⟩ := h2 e he2
      simp [sI_1, a1, a2, a3, a4]
  next => exact hC.elim)
end SCENE2
