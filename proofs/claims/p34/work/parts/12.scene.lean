section SCENE
/-- the first edge from a to c, out of k from i on -/
def findF (F T : Nat → Nat) (a c : Int32) : Nat → Nat → Int32
  | 0, _ => -1
  | k + 1, i => if nI (F i) = a ∧ nI (T i) = c then nI i else findF F T a c k (i + 1)
def findS (s : SV) (a c : Int32) : Int32 := findF s.F s.T a c s.n 0
def C_X0_find : CT := fun As X K => match As with
  | [.ref b, .int a, .int c] => ∃ s : SV, (isSc b ∧ RS X b s ∧ s.n ≤ 12) ∧ K (some (.int (findS s a c))) X
  | _ => False
set_option maxRecDepth 20000 in
set_option maxHeartbeats 4000000 in
theorem d_X0_find (l : Launch) : Does l yX0_find (wY yX0_find cX0_find 4 (retT 0)) (rmF 0) C_X0_find := does_of (rt := 0) (by decide +kernel) tkX0_find (calls := []) (fun _ h => absurd h List.not_mem_nil) (by
  intro As X post hC
  unfold C_X0_find at hC
  split at hC
  next b a c =>
    obtain ⟨s, ⟨hb, ⟨h1, h2, -⟩, hn⟩, hpost⟩ := hC
    refine ⟨Nat.le_of_ble_eq_true rfl, fun R hR => ?_⟩
    obtain ⟨s0, s1, s2, -⟩ := isSc_shp hb
    obtain ⟨l0, l1, l2, -⟩ := isSc_lt hb
    have key : ∀ k i, i + k = s.n → post (some (.int (findF s.F s.T a c k i))) X → R 2 [(0, .ref b), (1, .int a), (2, .int c), (3, .int (nI i))] [] X := by
      intro k
      induction k with
      | zero =>
        intro i hi hp
        refine go hR [(2, [0, 1, 2, 3])] 40 ?_
        simp only [↓reduceIte, Nat.reduceEqDiff, Nat.reduceAdd, Nat.reduceLeDiff, reduceCtorEq, and_true, true_and, false_and, and_false, true_or, or_true, or_false, false_or, true_implies, false_implies, implies_true, not_true_eq_false, not_false_eq_true, eq_self, fx_s, ↓run_s, run_0, ↓rs_n, ↓rs_c, as_s, ls_n, ls_c, lc_s, lget_c, fX0_find_0, ↓ex_iconst, fX0_find_1, ↓ex_istore_n, ↓s1I_c, ↓lsto_e, ↓lrmK_n, ↓lrmK_f, ct_i, ct_l, ct_r, fX0_find_2, ↓ex_iload_n, ↓xI_i, ↓xIg_c, fX0_find_3, ↓ex_aload_n, ↓xR_r, ↓xRg_c, fX0_find_4, ↓ex_getfield, ↓s1R_c, ↓fv_0_4, fX0_find_7, ↓ex_if_icmp_ge, ↓s2I_c, fX0_find_10, fX0_find_11, ↓fv_0_0, fX0_find_14, fX0_find_15, ↓ex_iaload, ↓sRI_c, ↓scrR_n, fX0_find_16, fX0_find_17, ↓ex_if_icmp_ne, fX0_find_20, fX0_find_21, ↓fv_0_1, fX0_find_24, fX0_find_25, fX0_find_26, fX0_find_27, fX0_find_30, fX0_find_31, ↓ex_ireturn, ↓rt_i, fX0_find_32, ↓ex_iinc, fX0_find_35, ↓ex_goto, fX0_find_38, fX0_find_39, s0, s1, s2, l0, l1, l2, h1, leN (a := s.n) (b := i) (by omega) (by omega)]
        exact ⟨fun _ => hp, fun h => absurd (by omega) h⟩
      | succ k ih =>
        intro i hi hp
        refine go hR [(2, [0, 1, 2, 3])] 40 ?_
        obtain ⟨e1, e2, -⟩ := h2 i (by omega)
        simp only [↓reduceIte, Nat.reduceEqDiff, Nat.reduceAdd, Nat.reduceLeDiff, reduceCtorEq, and_true, true_and, false_and, and_false, true_or, or_true, or_false, false_or, true_implies, false_implies, implies_true, not_true_eq_false, not_false_eq_true, eq_self, fx_s, ↓run_s, run_0, ↓rs_n, ↓rs_c, as_s, ls_n, ls_c, lc_s, lget_c, fX0_find_0, ↓ex_iconst, fX0_find_1, ↓ex_istore_n, ↓s1I_c, ↓lsto_e, ↓lrmK_n, ↓lrmK_f, ct_i, ct_l, ct_r, fX0_find_2, ↓ex_iload_n, ↓xI_i, ↓xIg_c, fX0_find_3, ↓ex_aload_n, ↓xR_r, ↓xRg_c, fX0_find_4, ↓ex_getfield, ↓s1R_c, ↓fv_0_4, fX0_find_7, ↓ex_if_icmp_ge, ↓s2I_c, fX0_find_10, fX0_find_11, ↓fv_0_0, fX0_find_14, fX0_find_15, ↓ex_iaload, ↓sRI_c, ↓scrR_n, fX0_find_16, fX0_find_17, ↓ex_if_icmp_ne, fX0_find_20, fX0_find_21, ↓fv_0_1, fX0_find_24, fX0_find_25, fX0_find_26, fX0_find_27, fX0_find_30, fX0_find_31, ↓ex_ireturn, ↓rt_i, fX0_find_32, ↓ex_iinc, fX0_find_35, ↓ex_goto, fX0_find_38, fX0_find_39, s0, s1, s2, l0, l1, l2, h1, leN (a := s.n) (b := i) (by omega) (by omega), clampN (n := i) (by omega), e1, e2, add1N]
        refine ⟨fun h => absurd h (by omega), fun _ => ⟨vp_inN (by omega) (by omega), fun g1 => ih (i + 1) (by omega) ?_, fun g1 => ⟨vp_inN (by omega) (by omega), fun g2 => ih (i + 1) (by omega) ?_, fun g2 => ?_⟩⟩⟩
        · unfold findF at hp; rw [if_neg (fun z => g1 z.1)] at hp; exact hp
        · unfold findF at hp; rw [if_neg (fun z => g2 z.2)] at hp; exact hp
        · unfold findF at hp; rw [if_pos ⟨g1, g2⟩] at hp; exact hp
    refine go hR [(2, [0, 1, 2, 3])] 40 ?_
    simp only [lv_args, ↓reduceIte, Nat.reduceEqDiff, Nat.reduceAdd, Nat.reduceLeDiff, reduceCtorEq, and_true, true_and, false_and, and_false, true_or, or_true, or_false, false_or, true_implies, false_implies, implies_true, not_true_eq_false, not_false_eq_true, eq_self, fx_s, ↓run_s, run_0, ↓rs_n, ↓rs_c, as_s, ls_n, ls_c, lc_s, lget_c, fX0_find_0, ↓ex_iconst, fX0_find_1, ↓ex_istore_n, ↓s1I_c, ↓lsto_e, ↓lrmK_n, ↓lrmK_f, ct_i, ct_l, ct_r, fX0_find_2, ↓ex_iload_n, ↓xI_i, ↓xIg_c, fX0_find_3, ↓ex_aload_n, ↓xR_r, ↓xRg_c, fX0_find_4, ↓ex_getfield, ↓s1R_c, ↓fv_0_4, fX0_find_7, ↓ex_if_icmp_ge, ↓s2I_c, fX0_find_10, fX0_find_11, ↓fv_0_0, fX0_find_14, fX0_find_15, ↓ex_iaload, ↓sRI_c, ↓scrR_n, fX0_find_16, fX0_find_17, ↓ex_if_icmp_ne, fX0_find_20, fX0_find_21, ↓fv_0_1, fX0_find_24, fX0_find_25, fX0_find_26, fX0_find_27, fX0_find_30, fX0_find_31, ↓ex_ireturn, ↓rt_i, fX0_find_32, ↓ex_iinc, fX0_find_35, ↓ex_goto, fX0_find_38, fX0_find_39]
    exact key s.n 0 (by omega) hpost
  next => exact hC.elim)
noncomputable def C_X0_hasEdge : CT := fun As X K => match As with
  | [.ref b, .int a] => ∃ s : SV, (isSc b ∧ RS X b s ∧ s.n ≤ 12) ∧ K (some (.int (b2i (0 ≤ a.toInt ∧ a.toInt < s.n)))) X
  | _ => False
set_option maxRecDepth 20000 in
set_option maxHeartbeats 4000000 in
theorem d_X0_hasEdge (l : Launch) : Does l yX0_hasEdge (wY yX0_hasEdge cX0_hasEdge 2 (retT 1)) (rmF 0) C_X0_hasEdge := does_of (rt := 1) (by decide +kernel) tkX0_hasEdge (calls := []) (fun _ h => absurd h List.not_mem_nil) (by
  intro As X post hC
  unfold C_X0_hasEdge at hC
  split at hC
  next b a =>
    obtain ⟨s, ⟨hb, ⟨h1, -⟩, hn⟩, hC⟩ := hC
    refine ⟨Nat.le_of_ble_eq_true rfl, fun R hR => ?_⟩
    obtain ⟨s0, -⟩ := isSc_shp hb
    obtain ⟨l0, -⟩ := isSc_lt hb
    have p0 : ¬ (0 ≤ a.toInt ∧ a.toInt < s.n) → post (some (.int 0)) X := fun h => by rw [b2i_f h] at hC; exact hC
    have p1 : (0 ≤ a.toInt ∧ a.toInt < s.n) → post (some (.int 1)) X := fun h => by rw [b2i_t h] at hC; exact hC
    have e1 : (nI s.n).toInt = s.n := nI_toInt (by omega)
    refine go hR [] 40 ?_
    simp only [lv_args, ↓reduceIte, Nat.reduceEqDiff, Nat.reduceAdd, Nat.reduceLeDiff, reduceCtorEq, and_true, true_and, false_and, and_false, true_or, or_true, or_false, false_or, true_implies, false_implies, implies_true, not_true_eq_false, not_false_eq_true, eq_self, fx_s, ↓run_s, run_0, ↓rs_n, ↓rs_c, as_s, ls_n, ls_c, lc_s, lget_c, fX0_hasEdge_0, ↓ex_iload_n, ↓xI_i, ↓xIg_c, fX0_hasEdge_1, ↓ex_ifCond_lt, ↓s1I_c, fX0_hasEdge_4, fX0_hasEdge_5, ↓ex_aload_n, ↓xR_r, ↓xRg_c, fX0_hasEdge_6, ↓ex_getfield, ↓s1R_c, ↓fv_0_4, fX0_hasEdge_9, ↓ex_if_icmp_ge, ↓s2I_c, fX0_hasEdge_12, ↓ex_iconst, fX0_hasEdge_13, ↓ex_goto, fX0_hasEdge_16, fX0_hasEdge_17, ↓ex_ireturn, ↓rt_i, s0, l0, h1, leI, ltI, tI_m5, tI_m4, tI_m3, tI_m2, tI_m1, tI_0, tI_1, tI_2, tI_3, tI_4, tI_5, tI_7, tI_8, tI_10, tI_12, tI_30, tI_31, tI_32, tI_47, tI_48, tI_57, tI_59, tI_42, tI_43, tI_45, tI_61, tI_62, tI_100, tI_120, tI_255, tI_1000, e1]
    repeat' (first | apply And.intro | intro _)
    all_goals first | exact bl_0 | exact bl_1 | exact p0 (by omega) | exact p1 (by omega)
  next => exact hC.elim)
noncomputable def C_X0_isFull : CT := fun As X K => match As with
  | [.ref b] => ∃ s : SV, (isSc b ∧ RS X b s ∧ s.n ≤ 12) ∧ K (some (.int (b2i (s.n = 12)))) X
  | _ => False
set_option maxRecDepth 20000 in
set_option maxHeartbeats 4000000 in
theorem d_X0_isFull (l : Launch) : Does l yX0_isFull (wY yX0_isFull cX0_isFull 1 (retT 1)) (rmF 0) C_X0_isFull := does_of (rt := 1) (by decide +kernel) tkX0_isFull (calls := []) (fun _ h => absurd h List.not_mem_nil) (by
  intro As X post hC
  unfold C_X0_isFull at hC
  split at hC
  next b =>
    obtain ⟨s, ⟨hb, ⟨h1, -⟩, hn⟩, hC⟩ := hC
    refine ⟨Nat.le_of_ble_eq_true rfl, fun R hR => ?_⟩
    obtain ⟨s0, -⟩ := isSc_shp hb
    obtain ⟨l0, -⟩ := isSc_lt hb
    have p0 : ¬ (s.n = 12) → post (some (.int 0)) X := fun h => by rw [b2i_f h] at hC; exact hC
    have p1 : (s.n = 12) → post (some (.int 1)) X := fun h => by rw [b2i_t h] at hC; exact hC
    have e1 : (nI s.n).toInt = s.n := nI_toInt (by omega)
    refine go hR [] 40 ?_
    simp only [lv_args, ↓reduceIte, Nat.reduceEqDiff, Nat.reduceAdd, Nat.reduceLeDiff, reduceCtorEq, and_true, true_and, false_and, and_false, true_or, or_true, or_false, false_or, true_implies, false_implies, implies_true, not_true_eq_false, not_false_eq_true, eq_self, fx_s, ↓run_s, run_0, ↓rs_n, ↓rs_c, as_s, ls_n, ls_c, lc_s, lget_c, fX0_isFull_0, ↓ex_aload_n, ↓xR_r, ↓xRg_c, fX0_isFull_1, ↓ex_getfield, ↓s1R_c, ↓fv_0_4, fX0_isFull_4, ↓ex_bipush, fX0_isFull_6, ↓ex_if_icmp_lt, ↓s2I_c, fX0_isFull_9, ↓ex_iconst, fX0_isFull_10, ↓ex_goto, fX0_isFull_13, fX0_isFull_14, ↓ex_ireturn, ↓rt_i, s0, l0, h1, leI, ltI, tI_m5, tI_m4, tI_m3, tI_m2, tI_m1, tI_0, tI_1, tI_2, tI_3, tI_4, tI_5, tI_7, tI_8, tI_10, tI_12, tI_30, tI_31, tI_32, tI_47, tI_48, tI_57, tI_59, tI_42, tI_43, tI_45, tI_61, tI_62, tI_100, tI_120, tI_255, tI_1000, e1]
    repeat' (first | apply And.intro | intro _)
    all_goals first | exact bl_0 | exact bl_1 | exact p0 (by omega) | exact p1 (by omega)
  next => exact hC.elim)
/-- copyFrom: b becomes what o is -/
def C_X0_copyFrom : CT := fun As X K => match As with
  | [.ref b, .ref o] => ∃ s : SV, (isSc b ∧ isSc o ∧ b ≠ o ∧ RS X o s ∧ s.n ≤ 12) ∧ ∀ X', Fr (scn b) X X' → RS X' b s → K none X'
  | _ => False
set_option maxRecDepth 20000 in
set_option maxHeartbeats 4000000 in
theorem d_X0_copyFrom (l : Launch) : Does l yX0_copyFrom (wY yX0_copyFrom cX0_copyFrom 3 (retT 3)) (rmF 0) C_X0_copyFrom := does_of (rt := 3) (by decide +kernel) tkX0_copyFrom (calls := []) (fun _ h => absurd h List.not_mem_nil) (by
  intro As X post hC
  unfold C_X0_copyFrom at hC
  split at hC
  next b o =>
    obtain ⟨b, rfl⟩ : ∃ q : Nat, q = b := ⟨b, rfl⟩; obtain ⟨o, rfl⟩ : ∃ q : Nat, q = o := ⟨o, rfl⟩
    obtain ⟨s, ⟨hb, ho, hbo, ⟨h1, h2, h3, h4, h5⟩, hn⟩, hpost⟩ := hC
    refine ⟨Nat.le_of_ble_eq_true rfl, fun R hR => ?_⟩
    obtain ⟨s0, s1, s2, s3, s4, s5, -⟩ := isSc_shp hb
    obtain ⟨l0, l1, l2, l3, l4, l5⟩ := isSc_lt hb
    obtain ⟨t0, t1, t2, t3, t4, t5, -⟩ := isSc_shp ho
    obtain ⟨m0, m1, m2, m3, m4, m5⟩ := isSc_lt ho
    have hd := isSc_ne hb ho hbo
    have key2 : ∀ k i Y, i + k = 8 → Fr (scn b) X Y → (∀ e, e < 12 → Y.1 (b + 1) e = X.1 (o + 1) e ∧ Y.1 (b + 2) e = X.1 (o + 2) e ∧ Y.1 (b + 3) e = X.1 (o + 3) e ∧ Y.1 (b + 4) e = X.1 (o + 4) e) → (∀ v, v < i → Y.1 (b + 5) v = X.1 (o + 5) v) → R 64 [(0, .ref b), (1, .ref o), (2, .int (nI i))] [] Y := by
      intro k
      induction k with
      | zero =>
        intro i Y hi hF hE hV
        refine go hR [(64, [0, 1, 2])] 60 ?_
        have q0 : Y.1 o = X.1 o := hF.1 o (fun z => by unfold scn at z; omega)
        simp only [↓reduceIte, Nat.reduceEqDiff, Nat.reduceAdd, Nat.reduceLeDiff, reduceCtorEq, and_true, true_and, false_and, and_false, true_or, or_true, or_false, false_or, true_implies, false_implies, implies_true, not_true_eq_false, not_false_eq_true, eq_self, fx_s, ↓run_s, run_0, ↓rs_n, ↓rs_c, as_s, ls_n, ls_c, lc_s, lget_c, fX0_copyFrom_0, ↓ex_iconst, fX0_copyFrom_1, ↓ex_istore_n, ↓s1I_c, ↓lsto_e, ↓lrmK_n, ↓lrmK_f, ct_i, ct_l, ct_r, fX0_copyFrom_2, ↓ex_iload_n, ↓xI_i, ↓xIg_c, fX0_copyFrom_3, ↓ex_bipush, fX0_copyFrom_5, ↓ex_if_icmp_ge, ↓s2I_c, fX0_copyFrom_8, ↓ex_aload_n, ↓xR_r, ↓xRg_c, fX0_copyFrom_9, ↓ex_getfield, ↓s1R_c, ↓fv_0_0, fX0_copyFrom_12, fX0_copyFrom_13, fX0_copyFrom_14, fX0_copyFrom_17, fX0_copyFrom_18, ↓ex_iaload, ↓sRI_c, ↓scrR_n, fX0_copyFrom_19, ↓ex_iastore, ↓sRII_c, fX0_copyFrom_20, fX0_copyFrom_21, ↓fv_0_1, fX0_copyFrom_24, fX0_copyFrom_25, fX0_copyFrom_26, fX0_copyFrom_29, fX0_copyFrom_30, fX0_copyFrom_31, fX0_copyFrom_32, fX0_copyFrom_33, ↓fv_0_2, fX0_copyFrom_36, fX0_copyFrom_37, fX0_copyFrom_38, fX0_copyFrom_41, fX0_copyFrom_42, fX0_copyFrom_43, fX0_copyFrom_44, fX0_copyFrom_45, ↓fv_0_3, fX0_copyFrom_48, fX0_copyFrom_49, fX0_copyFrom_50, fX0_copyFrom_53, fX0_copyFrom_54, fX0_copyFrom_55, fX0_copyFrom_56, ↓ex_iinc, fX0_copyFrom_59, ↓ex_goto, fX0_copyFrom_62, fX0_copyFrom_63, fX0_copyFrom_64, fX0_copyFrom_65, fX0_copyFrom_67, fX0_copyFrom_70, fX0_copyFrom_71, ↓fv_0_6, fX0_copyFrom_74, fX0_copyFrom_75, fX0_copyFrom_76, fX0_copyFrom_79, fX0_copyFrom_80, fX0_copyFrom_81, fX0_copyFrom_82, fX0_copyFrom_85, fX0_copyFrom_88, fX0_copyFrom_89, fX0_copyFrom_90, ↓fv_0_4, fX0_copyFrom_93, ↓ex_putfield, ↓pf_0_4, fX0_copyFrom_96, fX0_copyFrom_97, fX0_copyFrom_98, ↓fv_0_5, fX0_copyFrom_101, ↓pf_0_5, fX0_copyFrom_104, fX0_copyFrom_105, fX0_copyFrom_106, ↓fv_0_7, fX0_copyFrom_109, ↓pf_0_7, fX0_copyFrom_112, ↓ex_return_, ↓rt_v, s0, s5, l0, l5, t0, t5, m0, m5, leI, ltI, tI_m5, tI_m4, tI_m3, tI_m2, tI_m1, tI_0, tI_1, tI_2, tI_3, tI_4, tI_5, tI_7, tI_8, tI_10, tI_12, tI_30, tI_31, tI_32, tI_47, tI_48, tI_57, tI_59, tI_42, tI_43, tI_45, tI_61, tI_62, tI_100, tI_120, tI_255, tI_1000, nI_toInt (n := i) (by omega), sI_1, q0, show ¬ o = b from fun z => hbo z.symm]
        refine ⟨fun _ => hpost _ ?_ ?_, fun h => absurd (by omega) h⟩
        · exact ((hF.pI (show scn b b from ⟨by omega, by omega⟩) 4 _).pI (show scn b b from ⟨by omega, by omega⟩) 5 _).pI (show scn b b from ⟨by omega, by omega⟩) 7 _
        · refine ⟨?_, fun e he => ?_, ?_, fun v hv => ?_, ?_⟩
          · simp [sI_1, upd_a, h1]
          · obtain ⟨a1, a2, a3, a4⟩ := hE e (by omega)
            obtain ⟨b1, b2, b3, b4⟩ := h2 e he
            simp [sI_1, a1, a2, a3, a4, b1, b2, b3, b4]
          · simp [sI_1, upd_a, h3]
          · simp [sI_1, hV v (by omega), h4 v hv]
          · simp [sI_1, upd_a, h5]
      | succ k ih =>
        intro i Y hi hF hE hV
        refine go hR [(64, [0, 1, 2])] 60 ?_
        have q0 : Y.1 (o + 5) = X.1 (o + 5) := hF.1 _ (fun z => by unfold scn at z; omega)
        simp only [↓reduceIte, Nat.reduceEqDiff, Nat.reduceAdd, Nat.reduceLeDiff, reduceCtorEq, and_true, true_and, false_and, and_false, true_or, or_true, or_false, false_or, true_implies, false_implies, implies_true, not_true_eq_false, not_false_eq_true, eq_self, fx_s, ↓run_s, run_0, ↓rs_n, ↓rs_c, as_s, ls_n, ls_c, lc_s, lget_c, fX0_copyFrom_0, ↓ex_iconst, fX0_copyFrom_1, ↓ex_istore_n, ↓s1I_c, ↓lsto_e, ↓lrmK_n, ↓lrmK_f, ct_i, ct_l, ct_r, fX0_copyFrom_2, ↓ex_iload_n, ↓xI_i, ↓xIg_c, fX0_copyFrom_3, ↓ex_bipush, fX0_copyFrom_5, ↓ex_if_icmp_ge, ↓s2I_c, fX0_copyFrom_8, ↓ex_aload_n, ↓xR_r, ↓xRg_c, fX0_copyFrom_9, ↓ex_getfield, ↓s1R_c, ↓fv_0_0, fX0_copyFrom_12, fX0_copyFrom_13, fX0_copyFrom_14, fX0_copyFrom_17, fX0_copyFrom_18, ↓ex_iaload, ↓sRI_c, ↓scrR_n, fX0_copyFrom_19, ↓ex_iastore, ↓sRII_c, fX0_copyFrom_20, fX0_copyFrom_21, ↓fv_0_1, fX0_copyFrom_24, fX0_copyFrom_25, fX0_copyFrom_26, fX0_copyFrom_29, fX0_copyFrom_30, fX0_copyFrom_31, fX0_copyFrom_32, fX0_copyFrom_33, ↓fv_0_2, fX0_copyFrom_36, fX0_copyFrom_37, fX0_copyFrom_38, fX0_copyFrom_41, fX0_copyFrom_42, fX0_copyFrom_43, fX0_copyFrom_44, fX0_copyFrom_45, ↓fv_0_3, fX0_copyFrom_48, fX0_copyFrom_49, fX0_copyFrom_50, fX0_copyFrom_53, fX0_copyFrom_54, fX0_copyFrom_55, fX0_copyFrom_56, ↓ex_iinc, fX0_copyFrom_59, ↓ex_goto, fX0_copyFrom_62, fX0_copyFrom_63, fX0_copyFrom_64, fX0_copyFrom_65, fX0_copyFrom_67, fX0_copyFrom_70, fX0_copyFrom_71, ↓fv_0_6, fX0_copyFrom_74, fX0_copyFrom_75, fX0_copyFrom_76, fX0_copyFrom_79, fX0_copyFrom_80, fX0_copyFrom_81, fX0_copyFrom_82, fX0_copyFrom_85, fX0_copyFrom_88, fX0_copyFrom_89, fX0_copyFrom_90, ↓fv_0_4, fX0_copyFrom_93, ↓ex_putfield, ↓pf_0_4, fX0_copyFrom_96, fX0_copyFrom_97, fX0_copyFrom_98, ↓fv_0_5, fX0_copyFrom_101, ↓pf_0_5, fX0_copyFrom_104, fX0_copyFrom_105, fX0_copyFrom_106, ↓fv_0_7, fX0_copyFrom_109, ↓pf_0_7, fX0_copyFrom_112, ↓ex_return_, ↓rt_v, s0, s5, l0, l5, t0, t5, m0, m5, leI, ltI, tI_m5, tI_m4, tI_m3, tI_m2, tI_m1, tI_0, tI_1, tI_2, tI_3, tI_4, tI_5, tI_7, tI_8, tI_10, tI_12, tI_30, tI_31, tI_32, tI_47, tI_48, tI_57, tI_59, tI_42, tI_43, tI_45, tI_61, tI_62, tI_100, tI_120, tI_255, tI_1000, nI_toInt (n := i) (by omega), clampN (n := i) (by omega), add1N, q0]
        refine ⟨fun h => absurd h (by omega), fun _ => ⟨vp_inN (by omega) (by omega), vp_inN (by omega) (by omega), ih (i + 1) _ (by omega) (hF.pI ⟨by omega, by omega⟩ _ _) (fun e he => ?_) (fun v hv => ?_)⟩⟩
        · obtain ⟨a1, a2, a3, a4⟩ := hE e he
          simp [sI_1, a1, a2, a3, a4]
        · by_cases e : v = i
          · subst e; simp [sI_1, upd_a]
          · simp [sI_1, upd_a, e, hV v (by omega)]
    have key1 : ∀ k i Y, i + k = 12 → Fr (scn b) X Y → (∀ e, e < i → Y.1 (b + 1) e = X.1 (o + 1) e ∧ Y.1 (b + 2) e = X.1 (o + 2) e ∧ Y.1 (b + 3) e = X.1 (o + 3) e ∧ Y.1 (b + 4) e = X.1 (o + 4) e) → R 2 [(0, .ref b), (1, .ref o), (2, .int (nI i))] [] Y := by
      intro k
      induction k with
      | zero =>
        intro i Y hi hF hE
        refine go hR [(2, [0, 1, 2]), (64, [0, 1, 2])] 60 ?_
        simp only [↓reduceIte, Nat.reduceEqDiff, Nat.reduceAdd, Nat.reduceLeDiff, reduceCtorEq, and_true, true_and, false_and, and_false, true_or, or_true, or_false, false_or, true_implies, false_implies, implies_true, not_true_eq_false, not_false_eq_true, eq_self, fx_s, ↓run_s, run_0, ↓rs_n, ↓rs_c, as_s, ls_n, ls_c, lc_s, lget_c, fX0_copyFrom_0, ↓ex_iconst, fX0_copyFrom_1, ↓ex_istore_n, ↓s1I_c, ↓lsto_e, ↓lrmK_n, ↓lrmK_f, ct_i, ct_l, ct_r, fX0_copyFrom_2, ↓ex_iload_n, ↓xI_i, ↓xIg_c, fX0_copyFrom_3, ↓ex_bipush, fX0_copyFrom_5, ↓ex_if_icmp_ge, ↓s2I_c, fX0_copyFrom_8, ↓ex_aload_n, ↓xR_r, ↓xRg_c, fX0_copyFrom_9, ↓ex_getfield, ↓s1R_c, ↓fv_0_0, fX0_copyFrom_12, fX0_copyFrom_13, fX0_copyFrom_14, fX0_copyFrom_17, fX0_copyFrom_18, ↓ex_iaload, ↓sRI_c, ↓scrR_n, fX0_copyFrom_19, ↓ex_iastore, ↓sRII_c, fX0_copyFrom_20, fX0_copyFrom_21, ↓fv_0_1, fX0_copyFrom_24, fX0_copyFrom_25, fX0_copyFrom_26, fX0_copyFrom_29, fX0_copyFrom_30, fX0_copyFrom_31, fX0_copyFrom_32, fX0_copyFrom_33, ↓fv_0_2, fX0_copyFrom_36, fX0_copyFrom_37, fX0_copyFrom_38, fX0_copyFrom_41, fX0_copyFrom_42, fX0_copyFrom_43, fX0_copyFrom_44, fX0_copyFrom_45, ↓fv_0_3, fX0_copyFrom_48, fX0_copyFrom_49, fX0_copyFrom_50, fX0_copyFrom_53, fX0_copyFrom_54, fX0_copyFrom_55, fX0_copyFrom_56, ↓ex_iinc, fX0_copyFrom_59, ↓ex_goto, fX0_copyFrom_62, fX0_copyFrom_63, fX0_copyFrom_64, fX0_copyFrom_65, fX0_copyFrom_67, fX0_copyFrom_70, fX0_copyFrom_71, ↓fv_0_6, fX0_copyFrom_74, fX0_copyFrom_75, fX0_copyFrom_76, fX0_copyFrom_79, fX0_copyFrom_80, fX0_copyFrom_81, fX0_copyFrom_82, fX0_copyFrom_85, fX0_copyFrom_88, fX0_copyFrom_89, fX0_copyFrom_90, ↓fv_0_4, fX0_copyFrom_93, ↓ex_putfield, ↓pf_0_4, fX0_copyFrom_96, fX0_copyFrom_97, fX0_copyFrom_98, ↓fv_0_5, fX0_copyFrom_101, ↓pf_0_5, fX0_copyFrom_104, fX0_copyFrom_105, fX0_copyFrom_106, ↓fv_0_7, fX0_copyFrom_109, ↓pf_0_7, fX0_copyFrom_112, ↓ex_return_, ↓rt_v, leI, ltI, tI_m5, tI_m4, tI_m3, tI_m2, tI_m1, tI_0, tI_1, tI_2, tI_3, tI_4, tI_5, tI_7, tI_8, tI_10, tI_12, tI_30, tI_31, tI_32, tI_47, tI_48, tI_57, tI_59, tI_42, tI_43, tI_45, tI_61, tI_62, tI_100, tI_120, tI_255, tI_1000, nI_toInt (n := i) (by omega)]
        refine ⟨fun _ => key2 8 0 Y (by omega) hF (fun e he => hE e (by omega)) (fun v hv => absurd hv (by omega)), fun h => absurd (by omega) h⟩
      | succ k ih =>
        intro i Y hi hF hE
        refine go hR [(2, [0, 1, 2]), (64, [0, 1, 2])] 60 ?_
        have q : ∀ j, j ≤ 5 → Y.1 (o + j) = X.1 (o + j) := fun j hj => hF.1 _ (fun z => by unfold scn at z; omega)
        simp only [↓reduceIte, Nat.reduceEqDiff, Nat.reduceAdd, Nat.reduceLeDiff, reduceCtorEq, and_true, true_and, false_and, and_false, true_or, or_true, or_false, false_or, true_implies, false_implies, implies_true, not_true_eq_false, not_false_eq_true, eq_self, fx_s, ↓run_s, run_0, ↓rs_n, ↓rs_c, as_s, ls_n, ls_c, lc_s, lget_c, fX0_copyFrom_0, ↓ex_iconst, fX0_copyFrom_1, ↓ex_istore_n, ↓s1I_c, ↓lsto_e, ↓lrmK_n, ↓lrmK_f, ct_i, ct_l, ct_r, fX0_copyFrom_2, ↓ex_iload_n, ↓xI_i, ↓xIg_c, fX0_copyFrom_3, ↓ex_bipush, fX0_copyFrom_5, ↓ex_if_icmp_ge, ↓s2I_c, fX0_copyFrom_8, ↓ex_aload_n, ↓xR_r, ↓xRg_c, fX0_copyFrom_9, ↓ex_getfield, ↓s1R_c, ↓fv_0_0, fX0_copyFrom_12, fX0_copyFrom_13, fX0_copyFrom_14, fX0_copyFrom_17, fX0_copyFrom_18, ↓ex_iaload, ↓sRI_c, ↓scrR_n, fX0_copyFrom_19, ↓ex_iastore, ↓sRII_c, fX0_copyFrom_20, fX0_copyFrom_21, ↓fv_0_1, fX0_copyFrom_24, fX0_copyFrom_25, fX0_copyFrom_26, fX0_copyFrom_29, fX0_copyFrom_30, fX0_copyFrom_31, fX0_copyFrom_32, fX0_copyFrom_33, ↓fv_0_2, fX0_copyFrom_36, fX0_copyFrom_37, fX0_copyFrom_38, fX0_copyFrom_41, fX0_copyFrom_42, fX0_copyFrom_43, fX0_copyFrom_44, fX0_copyFrom_45, ↓fv_0_3, fX0_copyFrom_48, fX0_copyFrom_49, fX0_copyFrom_50, fX0_copyFrom_53, fX0_copyFrom_54, fX0_copyFrom_55, fX0_copyFrom_56, ↓ex_iinc, fX0_copyFrom_59, ↓ex_goto, fX0_copyFrom_62, fX0_copyFrom_63, fX0_copyFrom_64, fX0_copyFrom_65, fX0_copyFrom_67, fX0_copyFrom_70, fX0_copyFrom_71, ↓fv_0_6, fX0_copyFrom_74, fX0_copyFrom_75, fX0_copyFrom_76, fX0_copyFrom_79, fX0_copyFrom_80, fX0_copyFrom_81, fX0_copyFrom_82, fX0_copyFrom_85, fX0_copyFrom_88, fX0_copyFrom_89, fX0_copyFrom_90, ↓fv_0_4, fX0_copyFrom_93, ↓ex_putfield, ↓pf_0_4, fX0_copyFrom_96, fX0_copyFrom_97, fX0_copyFrom_98, ↓fv_0_5, fX0_copyFrom_101, ↓pf_0_5, fX0_copyFrom_104, fX0_copyFrom_105, fX0_copyFrom_106, ↓fv_0_7, fX0_copyFrom_109, ↓pf_0_7, fX0_copyFrom_112, ↓ex_return_, ↓rt_v, s0, s1, s2, s3, s4, l0, l1, l2, l3, l4, t0, t1, t2, t3, t4, m0, m1, m2, m3, m4, leI, ltI, tI_m5, tI_m4, tI_m3, tI_m2, tI_m1, tI_0, tI_1, tI_2, tI_3, tI_4, tI_5, tI_7, tI_8, tI_10, tI_12, tI_30, tI_31, tI_32, tI_47, tI_48, tI_57, tI_59, tI_42, tI_43, tI_45, tI_61, tI_62, tI_100, tI_120, tI_255, tI_1000, nI_toInt (n := i) (by omega), clampN (n := i) (by omega), add1N, sI_1,
          q 1 (by omega), q 2 (by omega), q 3 (by omega), q 4 (by omega), show ¬ o + 1 = b by omega, show ¬ o + 2 = b by omega, show ¬ o + 3 = b by omega]
        have vi : vp_in (nI i) 12 := vp_inN (by omega) (by omega)
        refine ⟨fun h => absurd h (by omega), fun _ => ⟨vi, vi, vi, vi, vi, vi, vi, vi, ih (i + 1) _ (by omega) ((((hF.pI ⟨by omega, by omega⟩ _ _).pI ⟨by omega, by omega⟩ _ _).pI ⟨by omega, by omega⟩ _ _).pI ⟨by omega, by omega⟩ _ _) (fun e he => ?_)⟩⟩
        by_cases e' : e = i
        · subst e'; simp [sI_1, upd_a]
        · obtain ⟨a1, a2, a3, a4⟩ := hE e (by omega)
          simp [sI_1, upd_a, e', a1, a2, a3, a4]
    refine go hR [(2, [0, 1, 2])] 40 ?_
    simp only [lv_args, ↓reduceIte, Nat.reduceEqDiff, Nat.reduceAdd, Nat.reduceLeDiff, reduceCtorEq, and_true, true_and, false_and, and_false, true_or, or_true, or_false, false_or, true_implies, false_implies, implies_true, not_true_eq_false, not_false_eq_true, eq_self, fx_s, ↓run_s, run_0, ↓rs_n, ↓rs_c, as_s, ls_n, ls_c, lc_s, lget_c, fX0_copyFrom_0, ↓ex_iconst, fX0_copyFrom_1, ↓ex_istore_n, ↓s1I_c, ↓lsto_e, ↓lrmK_n, ↓lrmK_f, ct_i, ct_l, ct_r, fX0_copyFrom_2, ↓ex_iload_n, ↓xI_i, ↓xIg_c, fX0_copyFrom_3, ↓ex_bipush, fX0_copyFrom_5, ↓ex_if_icmp_ge, ↓s2I_c, fX0_copyFrom_8, ↓ex_aload_n, ↓xR_r, ↓xRg_c, fX0_copyFrom_9, ↓ex_getfield, ↓s1R_c, ↓fv_0_0, fX0_copyFrom_12, fX0_copyFrom_13, fX0_copyFrom_14, fX0_copyFrom_17, fX0_copyFrom_18, ↓ex_iaload, ↓sRI_c, ↓scrR_n, fX0_copyFrom_19, ↓ex_iastore, ↓sRII_c, fX0_copyFrom_20, fX0_copyFrom_21, ↓fv_0_1, fX0_copyFrom_24, fX0_copyFrom_25, fX0_copyFrom_26, fX0_copyFrom_29, fX0_copyFrom_30, fX0_copyFrom_31, fX0_copyFrom_32, fX0_copyFrom_33, ↓fv_0_2, fX0_copyFrom_36, fX0_copyFrom_37, fX0_copyFrom_38, fX0_copyFrom_41, fX0_copyFrom_42, fX0_copyFrom_43, fX0_copyFrom_44, fX0_copyFrom_45, ↓fv_0_3, fX0_copyFrom_48, fX0_copyFrom_49, fX0_copyFrom_50, fX0_copyFrom_53, fX0_copyFrom_54, fX0_copyFrom_55, fX0_copyFrom_56, ↓ex_iinc, fX0_copyFrom_59, ↓ex_goto, fX0_copyFrom_62, fX0_copyFrom_63, fX0_copyFrom_64, fX0_copyFrom_65, fX0_copyFrom_67, fX0_copyFrom_70, fX0_copyFrom_71, ↓fv_0_6, fX0_copyFrom_74, fX0_copyFrom_75, fX0_copyFrom_76, fX0_copyFrom_79, fX0_copyFrom_80, fX0_copyFrom_81, fX0_copyFrom_82, fX0_copyFrom_85, fX0_copyFrom_88, fX0_copyFrom_89, fX0_copyFrom_90, ↓fv_0_4, fX0_copyFrom_93, ↓ex_putfield, ↓pf_0_4, fX0_copyFrom_96, fX0_copyFrom_97, fX0_copyFrom_98, ↓fv_0_5, fX0_copyFrom_101, ↓pf_0_5, fX0_copyFrom_104, fX0_copyFrom_105, fX0_copyFrom_106, ↓fv_0_7, fX0_copyFrom_109, ↓pf_0_7, fX0_copyFrom_112, ↓ex_return_, ↓rt_v]
    exact key1 12 0 X (by omega) (Fr.rf _ _) (fun e he => absurd he (by omega))
  next => exact hC.elim)
end SCENE
