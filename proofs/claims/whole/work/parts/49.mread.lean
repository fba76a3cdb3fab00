section MREAD
theorem fidx_iff {s : SV} {a c : Nat} : fidx s a c = none ↔ ∀ j, j < s.n → ¬ (s.F j = a ∧ s.T j = c) := by
  constructor
  · exact fun h => fidx_none h
  · intro h
    cases e : fidx s a c with
    | none => rfl
    | some j =>
      obtain ⟨g1, g2, g3⟩ := fidx_some e
      exact absurd ⟨g2, g3⟩ (h j g1)
theorem fidx_put {s : SV} {a t w d u v : Nat} : fidx (s_put s a t w d) u v = none ↔ (fidx s u v = none ∧ ¬ (u = a ∧ v = t)) := by
  rw [fidx_iff, fidx_iff]
  unfold s_put
  cases e : fidx s a t with
  | some j =>
    obtain ⟨g1, g2, g3⟩ := fidx_some e
    show (∀ j, j < s.n → ¬ (s.F j = u ∧ s.T j = v)) ↔ _
    refine ⟨fun h => ⟨h, fun z => h j g1 ⟨by rw [g2, z.1], by rw [g3, z.2]⟩⟩, fun h => h.1⟩
  | none =>
    show (∀ j, j < s.n + 1 → ¬ (updN s.F s.n a j = u ∧ updN s.T s.n t j = v)) ↔ _
    constructor
    · intro h
      refine ⟨fun j hj => ?_, fun z => ?_⟩
      · have := h j (by omega)
        rw [updN_a, updN_a, if_neg (by omega), if_neg (by omega)] at this
        exact this
      · have := h s.n (by omega)
        rw [updN_a, updN_a, if_pos rfl, if_pos rfl] at this
        exact this ⟨z.1.symm, z.2.symm⟩
    · intro h j hj
      rw [updN_a, updN_a]
      by_cases z : j = s.n
      · rw [if_pos z, if_pos z]
        exact fun y => h.2 ⟨y.1.symm, y.2.symm⟩
      · rw [if_neg z, if_neg z]
        exact h.1 j (by omega)
/-- the links laid are those of s -/
def LKs (X : XT) (s : SV) : Prop := X.1 51 10 = nI s.n ∧ ∀ u v, u < 8 → v < 8 → X.1 57 (8 * u + v) = b2i (¬ fidx s u v = none)
def frT (real : Int32) (X X' : XT) : Prop := Fr (fun k => k = 51 ∨ k = 52 ∨ k = 57) X X' ∧ (∀ p, p ≠ 8 → p ≠ 10 → X'.1 51 p = X.1 51 p) ∧ (∀ p, 59 ≤ p → X'.1 52 p = X.1 52 p) ∧ (real = 0 → ∀ p, X'.1 52 p = X.1 52 p)
theorem frT.rf (real : Int32) (X : XT) : frT real X X := ⟨Fr.rf _ _, fun _ _ _ => rfl, fun _ _ => rfl, fun _ _ => rfl⟩
theorem frT.tr {real : Int32} {X Y Z : XT} (h : frT real X Y) (g : frT real Y Z) : frT real X Z := ⟨h.1.tr g.1, fun p hp hq => (g.2.1 p hp hq).trans (h.2.1 p hp hq), fun p hp => (g.2.2.1 p hp).trans (h.2.2.1 p hp), fun z p => (g.2.2.2 z p).trans (h.2.2.2 z p)⟩
theorem fr8.T {X X' : XT} (h : fr8 X X') (real : Int32) : frT real X X' := ⟨h.1.mono (fun _ z => Or.inl z), fun p hp _ => h.2 p hp, fun p _ => by rw [h.1.1 52 (by decide)], fun _ p => by rw [h.1.1 52 (by decide)]⟩
theorem frT.set8 {real : Int32} {X Y : XT} (h : frT real X Y) (v : Int32) : frT real X (sI Y 51 8 v) := h.tr (((fr8.rf Y).set v).T real)
theorem fr8.row {X X' : XT} (h : fr8 X X') : X'.1 52 = X.1 52 := h.1.1 52 (by decide)
theorem fr8.lk {X X' : XT} (h : fr8 X X') {s : SV} (hs : LKs X s) : LKs X' s := ⟨by rw [h.2 10 (by decide)]; exact hs.1, fun u v hu hv => by rw [h.1.1 57 (by decide)]; exact hs.2 u v hu hv⟩
/-- what holds behind a reading r of the model's -/
def RdM (n : Nat) (b : Nat → Int32) (real : Int32) (r : Rd) (X : XT) (K : Option Value → XT → Prop) : Prop := ∀ X', frT real X X' → TXm X' n b r.1 →
  (∀ s', r.2 = some s' → LKs X' s' → (real = 1 → RSf (X'.1 52) s') → K (some (.int 1)) X') ∧ (r.2 = none → K (some (.int 0)) X')
theorem ix_l (a t : Nat) : (8 : Int32) * nI a + nI t = nI (8 * a + t) := by
  rw [show (8 : Int32) = nI 8 from rfl, pk_mul, nI_add]
noncomputable def C_X4_readsEdge : CT := fun As X K => match As with
  | [.ref r, .int v, .int real] => ∃ (n : Nat) (b : Nat → Int32) (s : SV) (i a : Nat), (r = 51 ∧ TXm X n b i ∧ LKs X s ∧ (real = 1 → RSf (X.1 52) s) ∧ WF s ∧ v = nI a ∧ a < 8 ∧ (real = 0 ∨ real = 1)) ∧ RdM n b real (edR n b s a (skp n b (n - i) i)) X K
  | _ => False
set_option maxRecDepth 20000 in
set_option maxHeartbeats 4000000 in
theorem d_X4_readsEdge (l : Launch) : Does l yX4_readsEdge (wY yX4_readsEdge cX4_readsEdge 8 (retT 1)) (rmF 2) C_X4_readsEdge := does_of (rt := 1) (by decide +kernel) tkX4_readsEdge (calls := [(111, false, 1, 4, C_X4_here), (50, true, 1, 4, C_X4_isNode), (118, false, 2, 4, C_X4_sign), (121, false, 3, 4, C_X4_number), (54, false, 3, 4, C_X4_between), (60, false, 6, 4, C_X4_lays)]) (List.forall_mem_cons.mpr ⟨cr_V (d_X4_here l) rfl (by decide +kernel) (by decide +kernel) ⟨rfl, rfl⟩ ⟨Nat.le_of_ble_eq_true rfl, Nat.le_of_ble_eq_true rfl⟩, List.forall_mem_cons.mpr ⟨cr_S (d_X4_isNode l) (by decide +kernel) (by decide +kernel) ⟨rfl, rfl⟩ ⟨Nat.le_of_ble_eq_true rfl, Nat.le_of_ble_eq_true rfl⟩, List.forall_mem_cons.mpr ⟨cr_V (d_X4_sign l) rfl (by decide +kernel) (by decide +kernel) ⟨rfl, rfl⟩ ⟨Nat.le_of_ble_eq_true rfl, Nat.le_of_ble_eq_true rfl⟩, List.forall_mem_cons.mpr ⟨cr_V (d_X4_number l) rfl (by decide +kernel) (by decide +kernel) ⟨rfl, rfl⟩ ⟨Nat.le_of_ble_eq_true rfl, Nat.le_of_ble_eq_true rfl⟩, List.forall_mem_cons.mpr ⟨cr_V (d_X4_between l) rfl (by decide +kernel) (by decide +kernel) ⟨rfl, rfl⟩ ⟨Nat.le_of_ble_eq_true rfl, Nat.le_of_ble_eq_true rfl⟩, List.forall_mem_cons.mpr ⟨cr_V (d_X4_lays l) rfl (by decide +kernel) (by decide +kernel) ⟨rfl, rfl⟩ ⟨Nat.le_of_ble_eq_true rfl, Nat.le_of_ble_eq_true rfl⟩, fun _ h => absurd h List.not_mem_nil⟩⟩⟩⟩⟩⟩) (by
  intro As X post hC
  unfold C_X4_readsEdge at hC
  split at hC
  next r v real =>
    obtain ⟨n, b, s, i0, a, ⟨rfl, hT0, hL, hS, hW, rfl, ha, hreal⟩, hpost⟩ := hC
    refine ⟨Nat.le_of_ble_eq_true rfl, fun R hR => ?_⟩
    obtain ⟨⟨p1, p2, p3, p4, p5, p6, p7⟩, q1, q2, q3, q4, q5, q6, q7⟩ := sh_m
    have e := skp_idem n b (n - i0) i0 rfl
    have hj := skp_at n b i0 hT0.2.1
    obtain ⟨J, hJ⟩ : ∃ J, J = skp n b (n - i0) i0 := ⟨_, rfl⟩
    rw [← hJ] at hpost e hj
    have hn := hW.1
    -- where it can't stand
    have bad : ∀ Y, fr8 X Y → TXm Y n b J → noEd s a (s_nodeAt (byA n b J)) → post (some (.int 0)) Y := by
      intro Y hF hT hno
      unfold edR at hpost
      rw [cif_t hno] at hpost
      exact (hpost Y (hF.T real) hT).2 rfl
    have rest : ∀ Y t, fr8 X Y → TXm Y n b J → s_nodeAt (byA n b J) = nI t → t < 8 → ¬ noEd s a (nI t) → R 57 [(0, .ref 51), (1, .int (nI a)), (2, .int real), (3, .int (nI t))] [] Y := by
      intro Y t hF hT hto ht hno
      unfold edR at hpost
      rw [hto, cif_f hno, show cl (nI t) = t from clampN (by omega)] at hpost
      have hlt : J < n := nodeAt_lt (b := b) (fun z => hno (Or.inl (by rw [← hto]; exact z)))
      have hLY := hF.lk hL
      have t4 := hT.2.2.2.1
      have hla := hLY.2 a t ha ht
      have vl : vp_in (nI (8 * a + t)) 64 := vp_inN (by omega) (by omega)
      have hfull : fidx s a t = none → s.n < 12 := fun h0 => by
        refine Classical.byContradiction fun h9 => hno (Or.inr (Or.inr ⟨by omega, ?_⟩))
        rw [show cl (nI t) = t from clampN (by omega)]; exact h0
      have hFT : ∀ e, e < s.n → s.F e < 8 ∧ s.T e < 8 := fun e he => ⟨(hW.2.1 e he).1, (hW.2.1 e he).2.1⟩
      obtain ⟨m, hm⟩ : ∃ m : Nat, m = (if fidx s a t = none then s.n + 1 else s.n) := ⟨_, rfl⟩
      obtain ⟨Y3, hY3⟩ : ∃ Y3 : XT, Y3 = sI (sI (sI Y 51 8 (nI (J + 1))) 51 10 (nI m)) 57 (8 * a + t) 1 := ⟨_, rfl⟩
      have f3 : frT real X Y3 := by
        refine ((hF.T real).set8 (nI (J + 1))).tr ?_
        rw [hY3]
        refine ⟨(Fr.rf _ _).pI (Or.inl rfl) _ _ |>.pI (Or.inr (Or.inr rfl)) _ _, fun p hp hq => ?_, fun p _ => ?_, fun _ p => ?_⟩
        · rw [sI_1, if_neg (by decide), sI_1, if_pos rfl, upd_a, if_neg hq]
        · rw [sI_1, if_neg (by decide), sI_1, if_neg (by decide)]
        · rw [sI_1, if_neg (by decide), sI_1, if_neg (by decide)]
      have T3 : TXm Y3 n b (J + 1) := by
        obtain ⟨u1, u2, u3, u4, u5⟩ := hT.set (j := J + 1) (by omega)
        rw [hY3]
        refine ⟨u1, u2, ?_, ?_, fun k hk => ?_⟩
        · rw [sI_1, if_neg (by decide), sI_1, if_pos rfl, upd_a, if_neg (by decide)]; exact u3
        · rw [sI_1, if_neg (by decide), sI_1, if_pos rfl, upd_a, if_neg (by decide)]; exact u4
        · rw [sI_1, if_neg (by decide), sI_1, if_neg (by decide)]; exact u5 k hk
      have r3 : Y3.1 52 = X.1 52 := by
        rw [hY3, sI_1, if_neg (by decide), sI_1, if_neg (by decide), sI_1, if_neg (by decide)]; exact hF.row
      have L3 : ∀ w d, LKs Y3 (s_put s a t w d) := by
        intro w d
        rw [hY3]
        refine ⟨?_, fun u v hu hv => ?_⟩
        · rw [sI_1, if_neg (by decide), sI_1, if_pos rfl, upd_a, if_pos rfl, hm]
          unfold s_put
          cases h : fidx s a t with
          | none => rw [if_pos rfl]; rfl
          | some j => rw [if_neg (fun z => by cases z)]; rfl
        · rw [sI_1, if_pos rfl, upd_a]
          by_cases c : 8 * u + v = 8 * a + t
          · have c1 : u = a := by omega
            have c2 : v = t := by omega
            rw [if_pos c, b2i_t (fun z => (fidx_put.mp z).2 ⟨c1, c2⟩)]
          · rw [if_neg c, sI_1, if_neg (by decide), sI_1, if_neg (by decide), hLY.2 u v hu hv]
            refine b2i_c ?_
            rw [fidx_put]
            exact ⟨fun z y => z y.1, fun z y => z ⟨y, fun x => c (by rw [x.1, x.2])⟩⟩
      -- the edge laid, if it is real
      have last : ∀ (w d : Nat) p Z, (∀ X', frT real X X' → TXm X' n b p → LKs X' (s_put s a t w d) → (real = 1 → RSf (X'.1 52) (s_put s a t w d)) → post (some (.int 1)) X') → frT real X Z → TXm Z n b p → LKs Z (s_put s a t w d) → Z.1 52 = X.1 52 → R 160 [(0, .ref 51), (1, .int (nI a)), (2, .int real), (3, .int (nI t)), (5, .int (nI w)), (6, .int (nI d))] [] Z := by
        intro w d p Z hp hZ hTZ hLZ z52
        rcases hreal with rfl | rfl
        · refine go hR [] 60 ?_
          simp only [↓reduceIte, Nat.reduceEqDiff, Nat.reduceAdd, Nat.reduceLeDiff, reduceCtorEq, and_true, true_and, false_and, and_false, true_or, or_true, or_false, false_or, true_implies, false_implies, implies_true, not_true_eq_false, not_false_eq_true, eq_self, fx_s, ↓run_s, run_0, ↓rs_n, ↓rs_c, as_s, ls_n, ls_c, lc_s, lget_c, fX4_readsEdge_0, ↓ex_aload_n, ↓xR_r, ↓xRg_c, fX4_readsEdge_1, ↓ex_invokevirtual, ↓xc_0, ↓xc_s, ↓xc_1, ↓pk_s, ↓k_s, ↓k_n, catS_n, catS_c, rOk_c, ct_i, ct_l, ct_r, ↓pk_f, fX4_readsEdge_4, ↓ex_bipush, fX4_readsEdge_6, ↓ex_isub, ↓s2I_c, fX4_readsEdge_7, ↓ex_istore_n, ↓s1I_c, ↓lsto_e, ↓lrmK_n, ↓lrmK_f, fX4_readsEdge_8, ↓ex_iload_n, ↓xI_i, ↓xIg_c, fX4_readsEdge_9, ↓ex_invokestatic, ↓pk_t, fX4_readsEdge_12, ↓ex_ifCond_eq, fX4_readsEdge_15, fX4_readsEdge_16, fX4_readsEdge_17, ↓ex_if_icmp_eq, fX4_readsEdge_20, fX4_readsEdge_21, ↓ex_getfield, ↓s1R_c, ↓fv_4_9, fX4_readsEdge_24, fX4_readsEdge_26, fX4_readsEdge_27, ↓ex_imul, fX4_readsEdge_28, fX4_readsEdge_29, ↓ex_iadd, fX4_readsEdge_30, ↓ex_baload, ↓sRI_c, fX4_readsEdge_31, ↓ex_ifCond_ne, fX4_readsEdge_34, fX4_readsEdge_35, ↓fv_4_10, fX4_readsEdge_38, fX4_readsEdge_40, ↓ex_if_icmp_ge, fX4_readsEdge_43, ↓ex_iconst, fX4_readsEdge_44, ↓ex_goto, fX4_readsEdge_47, fX4_readsEdge_48, ↓ex_istore, fX4_readsEdge_50, ↓ex_iload, fX4_readsEdge_52, fX4_readsEdge_55, fX4_readsEdge_56, ↓ex_ireturn, ↓rt_i, fX4_readsEdge_57, fX4_readsEdge_58, ↓ex_dup, fX4_readsEdge_59, ↓fv_4_8, fX4_readsEdge_62, fX4_readsEdge_63, fX4_readsEdge_64, ↓ex_putfield, ↓pf_4_8, fX4_readsEdge_67, fX4_readsEdge_68, fX4_readsEdge_69, fX4_readsEdge_72, fX4_readsEdge_73, fX4_readsEdge_76, fX4_readsEdge_78, fX4_readsEdge_79, fX4_readsEdge_80, fX4_readsEdge_81, fX4_readsEdge_82, fX4_readsEdge_83, fX4_readsEdge_86, fX4_readsEdge_87, fX4_readsEdge_90, fX4_readsEdge_91, fX4_readsEdge_92, ↓pf_4_10, fX4_readsEdge_95, fX4_readsEdge_96, fX4_readsEdge_99, fX4_readsEdge_101, fX4_readsEdge_102, fX4_readsEdge_103, fX4_readsEdge_104, fX4_readsEdge_105, fX4_readsEdge_106, ↓ex_bastore, ↓sRII_c, fX4_readsEdge_107, fX4_readsEdge_108, fX4_readsEdge_110, fX4_readsEdge_113, fX4_readsEdge_116, fX4_readsEdge_117, fX4_readsEdge_118, fX4_readsEdge_119, fX4_readsEdge_120, fX4_readsEdge_122, fX4_readsEdge_125, fX4_readsEdge_127, fX4_readsEdge_129, fX4_readsEdge_130, fX4_readsEdge_133, fX4_readsEdge_134, fX4_readsEdge_136, fX4_readsEdge_139, fX4_readsEdge_142, fX4_readsEdge_143, fX4_readsEdge_144, fX4_readsEdge_145, fX4_readsEdge_146, fX4_readsEdge_147, fX4_readsEdge_150, fX4_readsEdge_152, fX4_readsEdge_154, fX4_readsEdge_155, ↓ex_if_icmp_ne, fX4_readsEdge_158, fX4_readsEdge_159, fX4_readsEdge_160, fX4_readsEdge_161, fX4_readsEdge_164, fX4_readsEdge_165, fX4_readsEdge_166, fX4_readsEdge_167, fX4_readsEdge_170, fX4_readsEdge_172, fX4_readsEdge_173, fX4_readsEdge_175, fX4_readsEdge_176, fX4_readsEdge_179, fX4_readsEdge_180, ↓fv_4_0, fX4_readsEdge_183, fX4_readsEdge_184, ↓ex_iaload, ↓scrR_n, fX4_readsEdge_185, fX4_readsEdge_188, fX4_readsEdge_190, fX4_readsEdge_191, fX4_readsEdge_192, fX4_readsEdge_194, fX4_readsEdge_196, fX4_readsEdge_199, fX4_readsEdge_200, fX4_readsEdge_203, fX4_readsEdge_204, ↓ex_dup2, fX4_readsEdge_205, fX4_readsEdge_206, fX4_readsEdge_208, fX4_readsEdge_209, fX4_readsEdge_212, fX4_readsEdge_213, fX4_readsEdge_216, fX4_readsEdge_217, fX4_readsEdge_218, ↓ex_iastore, fX4_readsEdge_219, fX4_readsEdge_220, ↓reduceIte, not_true_eq_false, not_false_eq_true, false_implies, true_implies, implies_true, and_true, true_and, and_false, false_and, or_true, true_or, or_false, false_or, Classical.not_not, ite_true, ite_false]
          exact ⟨bl_1, hp Z hZ hTZ hLZ (fun z => absurd z (by decide))⟩
        · have hSX := hS rfl
          have hSZ : RSf (Z.1 52) s := by rw [z52]; exact hSX
          refine go hR [(172, [0, 1, 3, 5, 6, 7])] 60 ?_
          simp only [↓reduceIte, Nat.reduceEqDiff, Nat.reduceAdd, Nat.reduceLeDiff, reduceCtorEq, and_true, true_and, false_and, and_false, true_or, or_true, or_false, false_or, true_implies, false_implies, implies_true, not_true_eq_false, not_false_eq_true, eq_self, fx_s, ↓run_s, run_0, ↓rs_n, ↓rs_c, as_s, ls_n, ls_c, lc_s, lget_c, fX4_readsEdge_0, ↓ex_aload_n, ↓xR_r, ↓xRg_c, fX4_readsEdge_1, ↓ex_invokevirtual, ↓xc_0, ↓xc_s, ↓xc_1, ↓pk_s, ↓k_s, ↓k_n, catS_n, catS_c, rOk_c, ct_i, ct_l, ct_r, ↓pk_f, fX4_readsEdge_4, ↓ex_bipush, fX4_readsEdge_6, ↓ex_isub, ↓s2I_c, fX4_readsEdge_7, ↓ex_istore_n, ↓s1I_c, ↓lsto_e, ↓lrmK_n, ↓lrmK_f, fX4_readsEdge_8, ↓ex_iload_n, ↓xI_i, ↓xIg_c, fX4_readsEdge_9, ↓ex_invokestatic, ↓pk_t, fX4_readsEdge_12, ↓ex_ifCond_eq, fX4_readsEdge_15, fX4_readsEdge_16, fX4_readsEdge_17, ↓ex_if_icmp_eq, fX4_readsEdge_20, fX4_readsEdge_21, ↓ex_getfield, ↓s1R_c, ↓fv_4_9, fX4_readsEdge_24, fX4_readsEdge_26, fX4_readsEdge_27, ↓ex_imul, fX4_readsEdge_28, fX4_readsEdge_29, ↓ex_iadd, fX4_readsEdge_30, ↓ex_baload, ↓sRI_c, fX4_readsEdge_31, ↓ex_ifCond_ne, fX4_readsEdge_34, fX4_readsEdge_35, ↓fv_4_10, fX4_readsEdge_38, fX4_readsEdge_40, ↓ex_if_icmp_ge, fX4_readsEdge_43, ↓ex_iconst, fX4_readsEdge_44, ↓ex_goto, fX4_readsEdge_47, fX4_readsEdge_48, ↓ex_istore, fX4_readsEdge_50, ↓ex_iload, fX4_readsEdge_52, fX4_readsEdge_55, fX4_readsEdge_56, ↓ex_ireturn, ↓rt_i, fX4_readsEdge_57, fX4_readsEdge_58, ↓ex_dup, fX4_readsEdge_59, ↓fv_4_8, fX4_readsEdge_62, fX4_readsEdge_63, fX4_readsEdge_64, ↓ex_putfield, ↓pf_4_8, fX4_readsEdge_67, fX4_readsEdge_68, fX4_readsEdge_69, fX4_readsEdge_72, fX4_readsEdge_73, fX4_readsEdge_76, fX4_readsEdge_78, fX4_readsEdge_79, fX4_readsEdge_80, fX4_readsEdge_81, fX4_readsEdge_82, fX4_readsEdge_83, fX4_readsEdge_86, fX4_readsEdge_87, fX4_readsEdge_90, fX4_readsEdge_91, fX4_readsEdge_92, ↓pf_4_10, fX4_readsEdge_95, fX4_readsEdge_96, fX4_readsEdge_99, fX4_readsEdge_101, fX4_readsEdge_102, fX4_readsEdge_103, fX4_readsEdge_104, fX4_readsEdge_105, fX4_readsEdge_106, ↓ex_bastore, ↓sRII_c, fX4_readsEdge_107, fX4_readsEdge_108, fX4_readsEdge_110, fX4_readsEdge_113, fX4_readsEdge_116, fX4_readsEdge_117, fX4_readsEdge_118, fX4_readsEdge_119, fX4_readsEdge_120, fX4_readsEdge_122, fX4_readsEdge_125, fX4_readsEdge_127, fX4_readsEdge_129, fX4_readsEdge_130, fX4_readsEdge_133, fX4_readsEdge_134, fX4_readsEdge_136, fX4_readsEdge_139, fX4_readsEdge_142, fX4_readsEdge_143, fX4_readsEdge_144, fX4_readsEdge_145, fX4_readsEdge_146, fX4_readsEdge_147, fX4_readsEdge_150, fX4_readsEdge_152, fX4_readsEdge_154, fX4_readsEdge_155, ↓ex_if_icmp_ne, fX4_readsEdge_158, fX4_readsEdge_159, fX4_readsEdge_160, fX4_readsEdge_161, fX4_readsEdge_164, fX4_readsEdge_165, fX4_readsEdge_166, fX4_readsEdge_167, fX4_readsEdge_170, fX4_readsEdge_172, fX4_readsEdge_173, fX4_readsEdge_175, fX4_readsEdge_176, fX4_readsEdge_179, fX4_readsEdge_180, ↓fv_4_0, fX4_readsEdge_183, fX4_readsEdge_184, ↓ex_iaload, ↓scrR_n, fX4_readsEdge_185, fX4_readsEdge_188, fX4_readsEdge_190, fX4_readsEdge_191, fX4_readsEdge_192, fX4_readsEdge_194, fX4_readsEdge_196, fX4_readsEdge_199, fX4_readsEdge_200, fX4_readsEdge_203, fX4_readsEdge_204, ↓ex_dup2, fX4_readsEdge_205, fX4_readsEdge_206, fX4_readsEdge_208, fX4_readsEdge_209, fX4_readsEdge_212, fX4_readsEdge_213, fX4_readsEdge_216, fX4_readsEdge_217, fX4_readsEdge_218, ↓ex_iastore, fX4_readsEdge_219, fX4_readsEdge_220, p1, q1, ↓C_X4_between, i10, ↓reduceIte, not_true_eq_false, not_false_eq_true, false_implies, true_implies, implies_true, and_true, true_and, and_false, false_and, or_true, true_or, or_false, false_or, Classical.not_not, ite_true, ite_false]
          refine ⟨s, a, t, ⟨hSZ, hW, rfl, rfl, ha, ht⟩, ?_⟩
          have stay : ∀ V, Fr (fun k => k = 52) Z V → (∀ p, 59 ≤ p → V.1 52 p = Z.1 52 p) → RSf (V.1 52) (s_put s a t w d) → post (some (.int 1)) V := by
            intro V hV h59 hSV
            have e51 := hV.1 51 (by decide)
            have e56 := hV.1 56 (by decide)
            have e57 := hV.1 57 (by decide)
            refine hp V (hZ.tr ⟨hV.mono (fun _ z => Or.inr (Or.inl z)), fun p _ _ => by rw [e51], h59, fun z => absurd z (by decide)⟩) ?_ ⟨by rw [e51]; exact hLZ.1, fun u v hu hv => by rw [e57]; exact hLZ.2 u v hu hv⟩ (fun _ => hSV)
            obtain ⟨u1, u2, u3, u4, u5⟩ := hTZ
            exact ⟨u1, u2, by rw [e51]; exact u3, by rw [e51]; exact u4, fun k hk => by rw [e56]; exact u5 k hk⟩
          cases h : fidx s a t with
          | none =>
            have hn12 := hfull h
            have hadd := RSf_add hSZ hn12 a t w d
            have hcn : (nI s.n).toNatClampNeg = s.n := clampN (by omega)
            refine go hR [] 80 ?_
            simp only [↓reduceIte, Nat.reduceEqDiff, Nat.reduceAdd, Nat.reduceLeDiff, reduceCtorEq, and_true, true_and, false_and, and_false, true_or, or_true, or_false, false_or, true_implies, false_implies, implies_true, not_true_eq_false, not_false_eq_true, eq_self, fx_s, ↓run_s, run_0, ↓rs_n, ↓rs_c, as_s, ls_n, ls_c, lc_s, lget_c, fX4_readsEdge_0, ↓ex_aload_n, ↓xR_r, ↓xRg_c, fX4_readsEdge_1, ↓ex_invokevirtual, ↓xc_0, ↓xc_s, ↓xc_1, ↓pk_s, ↓k_s, ↓k_n, catS_n, catS_c, rOk_c, ct_i, ct_l, ct_r, ↓pk_f, fX4_readsEdge_4, ↓ex_bipush, fX4_readsEdge_6, ↓ex_isub, ↓s2I_c, fX4_readsEdge_7, ↓ex_istore_n, ↓s1I_c, ↓lsto_e, ↓lrmK_n, ↓lrmK_f, fX4_readsEdge_8, ↓ex_iload_n, ↓xI_i, ↓xIg_c, fX4_readsEdge_9, ↓ex_invokestatic, ↓pk_t, fX4_readsEdge_12, ↓ex_ifCond_eq, fX4_readsEdge_15, fX4_readsEdge_16, fX4_readsEdge_17, ↓ex_if_icmp_eq, fX4_readsEdge_20, fX4_readsEdge_21, ↓ex_getfield, ↓s1R_c, ↓fv_4_9, fX4_readsEdge_24, fX4_readsEdge_26, fX4_readsEdge_27, ↓ex_imul, fX4_readsEdge_28, fX4_readsEdge_29, ↓ex_iadd, fX4_readsEdge_30, ↓ex_baload, ↓sRI_c, fX4_readsEdge_31, ↓ex_ifCond_ne, fX4_readsEdge_34, fX4_readsEdge_35, ↓fv_4_10, fX4_readsEdge_38, fX4_readsEdge_40, ↓ex_if_icmp_ge, fX4_readsEdge_43, ↓ex_iconst, fX4_readsEdge_44, ↓ex_goto, fX4_readsEdge_47, fX4_readsEdge_48, ↓ex_istore, fX4_readsEdge_50, ↓ex_iload, fX4_readsEdge_52, fX4_readsEdge_55, fX4_readsEdge_56, ↓ex_ireturn, ↓rt_i, fX4_readsEdge_57, fX4_readsEdge_58, ↓ex_dup, fX4_readsEdge_59, ↓fv_4_8, fX4_readsEdge_62, fX4_readsEdge_63, fX4_readsEdge_64, ↓ex_putfield, ↓pf_4_8, fX4_readsEdge_67, fX4_readsEdge_68, fX4_readsEdge_69, fX4_readsEdge_72, fX4_readsEdge_73, fX4_readsEdge_76, fX4_readsEdge_78, fX4_readsEdge_79, fX4_readsEdge_80, fX4_readsEdge_81, fX4_readsEdge_82, fX4_readsEdge_83, fX4_readsEdge_86, fX4_readsEdge_87, fX4_readsEdge_90, fX4_readsEdge_91, fX4_readsEdge_92, ↓pf_4_10, fX4_readsEdge_95, fX4_readsEdge_96, fX4_readsEdge_99, fX4_readsEdge_101, fX4_readsEdge_102, fX4_readsEdge_103, fX4_readsEdge_104, fX4_readsEdge_105, fX4_readsEdge_106, ↓ex_bastore, ↓sRII_c, fX4_readsEdge_107, fX4_readsEdge_108, fX4_readsEdge_110, fX4_readsEdge_113, fX4_readsEdge_116, fX4_readsEdge_117, fX4_readsEdge_118, fX4_readsEdge_119, fX4_readsEdge_120, fX4_readsEdge_122, fX4_readsEdge_125, fX4_readsEdge_127, fX4_readsEdge_129, fX4_readsEdge_130, fX4_readsEdge_133, fX4_readsEdge_134, fX4_readsEdge_136, fX4_readsEdge_139, fX4_readsEdge_142, fX4_readsEdge_143, fX4_readsEdge_144, fX4_readsEdge_145, fX4_readsEdge_146, fX4_readsEdge_147, fX4_readsEdge_150, fX4_readsEdge_152, fX4_readsEdge_154, fX4_readsEdge_155, ↓ex_if_icmp_ne, fX4_readsEdge_158, fX4_readsEdge_159, fX4_readsEdge_160, fX4_readsEdge_161, fX4_readsEdge_164, fX4_readsEdge_165, fX4_readsEdge_166, fX4_readsEdge_167, fX4_readsEdge_170, fX4_readsEdge_172, fX4_readsEdge_173, fX4_readsEdge_175, fX4_readsEdge_176, fX4_readsEdge_179, fX4_readsEdge_180, ↓fv_4_0, fX4_readsEdge_183, fX4_readsEdge_184, ↓ex_iaload, ↓scrR_n, fX4_readsEdge_185, fX4_readsEdge_188, fX4_readsEdge_190, fX4_readsEdge_191, fX4_readsEdge_192, fX4_readsEdge_194, fX4_readsEdge_196, fX4_readsEdge_199, fX4_readsEdge_200, fX4_readsEdge_203, fX4_readsEdge_204, ↓ex_dup2, fX4_readsEdge_205, fX4_readsEdge_206, fX4_readsEdge_208, fX4_readsEdge_209, fX4_readsEdge_212, fX4_readsEdge_213, fX4_readsEdge_216, fX4_readsEdge_217, fX4_readsEdge_218, ↓ex_iastore, fX4_readsEdge_219, fX4_readsEdge_220, p1, p2, q1, q2, vr_0, clamp0, ↓C_X4_lays, show oI none = (-1 : Int32) from rfl, hSZ.1, hcn, layX_52, layF_lo (Z.1 52) s.n (nI a) (nI t) (nI w) (nI d) (p := 0) (by omega), add1N, ↓reduceIte, not_true_eq_false, not_false_eq_true, false_implies, true_implies, implies_true, and_true, true_and, and_false, false_and, or_true, true_or, or_false, false_or, Classical.not_not, ite_true, ite_false]
            refine ⟨vp_inN (by omega) (by omega), bl_1, stay _ ((layX_fr _ _ _ _ _ _).tr (fr_52 _ _ _)) (fun p hp => ?_) ?_⟩
            · rw [sI_1, if_pos rfl, upd_a, if_neg (by omega), layX_52, layF_hi _ _ _ _ _ _ (by omega)]
            · rw [sI_1, if_pos rfl, layX_52]
              unfold s_put
              rw [h]
              exact hadd
          | some j =>
            obtain ⟨g1, g2, g3⟩ := fidx_some h
            have hset := RSf_set hSZ g1 hn w d
            rw [g2, g3] at hset
            have hcn : (nI j).toNatClampNeg = j := clampN (by omega)
            have hj1 : (nI j = (-1 : Int32)) = False := eq_false (fun z => by rw [eqI, nI_toInt (by omega), tI_m1] at z; omega)
            refine go hR [] 80 ?_
            simp only [↓reduceIte, Nat.reduceEqDiff, Nat.reduceAdd, Nat.reduceLeDiff, reduceCtorEq, and_true, true_and, false_and, and_false, true_or, or_true, or_false, false_or, true_implies, false_implies, implies_true, not_true_eq_false, not_false_eq_true, eq_self, fx_s, ↓run_s, run_0, ↓rs_n, ↓rs_c, as_s, ls_n, ls_c, lc_s, lget_c, fX4_readsEdge_0, ↓ex_aload_n, ↓xR_r, ↓xRg_c, fX4_readsEdge_1, ↓ex_invokevirtual, ↓xc_0, ↓xc_s, ↓xc_1, ↓pk_s, ↓k_s, ↓k_n, catS_n, catS_c, rOk_c, ct_i, ct_l, ct_r, ↓pk_f, fX4_readsEdge_4, ↓ex_bipush, fX4_readsEdge_6, ↓ex_isub, ↓s2I_c, fX4_readsEdge_7, ↓ex_istore_n, ↓s1I_c, ↓lsto_e, ↓lrmK_n, ↓lrmK_f, fX4_readsEdge_8, ↓ex_iload_n, ↓xI_i, ↓xIg_c, fX4_readsEdge_9, ↓ex_invokestatic, ↓pk_t, fX4_readsEdge_12, ↓ex_ifCond_eq, fX4_readsEdge_15, fX4_readsEdge_16, fX4_readsEdge_17, ↓ex_if_icmp_eq, fX4_readsEdge_20, fX4_readsEdge_21, ↓ex_getfield, ↓s1R_c, ↓fv_4_9, fX4_readsEdge_24, fX4_readsEdge_26, fX4_readsEdge_27, ↓ex_imul, fX4_readsEdge_28, fX4_readsEdge_29, ↓ex_iadd, fX4_readsEdge_30, ↓ex_baload, ↓sRI_c, fX4_readsEdge_31, ↓ex_ifCond_ne, fX4_readsEdge_34, fX4_readsEdge_35, ↓fv_4_10, fX4_readsEdge_38, fX4_readsEdge_40, ↓ex_if_icmp_ge, fX4_readsEdge_43, ↓ex_iconst, fX4_readsEdge_44, ↓ex_goto, fX4_readsEdge_47, fX4_readsEdge_48, ↓ex_istore, fX4_readsEdge_50, ↓ex_iload, fX4_readsEdge_52, fX4_readsEdge_55, fX4_readsEdge_56, ↓ex_ireturn, ↓rt_i, fX4_readsEdge_57, fX4_readsEdge_58, ↓ex_dup, fX4_readsEdge_59, ↓fv_4_8, fX4_readsEdge_62, fX4_readsEdge_63, fX4_readsEdge_64, ↓ex_putfield, ↓pf_4_8, fX4_readsEdge_67, fX4_readsEdge_68, fX4_readsEdge_69, fX4_readsEdge_72, fX4_readsEdge_73, fX4_readsEdge_76, fX4_readsEdge_78, fX4_readsEdge_79, fX4_readsEdge_80, fX4_readsEdge_81, fX4_readsEdge_82, fX4_readsEdge_83, fX4_readsEdge_86, fX4_readsEdge_87, fX4_readsEdge_90, fX4_readsEdge_91, fX4_readsEdge_92, ↓pf_4_10, fX4_readsEdge_95, fX4_readsEdge_96, fX4_readsEdge_99, fX4_readsEdge_101, fX4_readsEdge_102, fX4_readsEdge_103, fX4_readsEdge_104, fX4_readsEdge_105, fX4_readsEdge_106, ↓ex_bastore, ↓sRII_c, fX4_readsEdge_107, fX4_readsEdge_108, fX4_readsEdge_110, fX4_readsEdge_113, fX4_readsEdge_116, fX4_readsEdge_117, fX4_readsEdge_118, fX4_readsEdge_119, fX4_readsEdge_120, fX4_readsEdge_122, fX4_readsEdge_125, fX4_readsEdge_127, fX4_readsEdge_129, fX4_readsEdge_130, fX4_readsEdge_133, fX4_readsEdge_134, fX4_readsEdge_136, fX4_readsEdge_139, fX4_readsEdge_142, fX4_readsEdge_143, fX4_readsEdge_144, fX4_readsEdge_145, fX4_readsEdge_146, fX4_readsEdge_147, fX4_readsEdge_150, fX4_readsEdge_152, fX4_readsEdge_154, fX4_readsEdge_155, ↓ex_if_icmp_ne, fX4_readsEdge_158, fX4_readsEdge_159, fX4_readsEdge_160, fX4_readsEdge_161, fX4_readsEdge_164, fX4_readsEdge_165, fX4_readsEdge_166, fX4_readsEdge_167, fX4_readsEdge_170, fX4_readsEdge_172, fX4_readsEdge_173, fX4_readsEdge_175, fX4_readsEdge_176, fX4_readsEdge_179, fX4_readsEdge_180, ↓fv_4_0, fX4_readsEdge_183, fX4_readsEdge_184, ↓ex_iaload, ↓scrR_n, fX4_readsEdge_185, fX4_readsEdge_188, fX4_readsEdge_190, fX4_readsEdge_191, fX4_readsEdge_192, fX4_readsEdge_194, fX4_readsEdge_196, fX4_readsEdge_199, fX4_readsEdge_200, fX4_readsEdge_203, fX4_readsEdge_204, ↓ex_dup2, fX4_readsEdge_205, fX4_readsEdge_206, fX4_readsEdge_208, fX4_readsEdge_209, fX4_readsEdge_212, fX4_readsEdge_213, fX4_readsEdge_216, fX4_readsEdge_217, fX4_readsEdge_218, ↓ex_iastore, fX4_readsEdge_219, fX4_readsEdge_220, p1, p2, q1, q2, vr_0, clamp0, ↓C_X4_lays, show oI (some j) = nI j from rfl, hj1, hcn, layX_52, layF_lo (Z.1 52) j (nI a) (nI t) (nI w) (nI d) (p := 0) (by omega), hSZ.1, add0N, ↓reduceIte, not_true_eq_false, not_false_eq_true, false_implies, true_implies, implies_true, and_true, true_and, and_false, false_and, or_true, true_or, or_false, false_or, Classical.not_not, ite_true, ite_false]
            refine ⟨vp_inN (by omega) (by omega), bl_1, stay _ ((layX_fr _ _ _ _ _ _).tr (fr_52 _ _ _)) (fun p hp => ?_) ?_⟩
            · rw [sI_1, if_pos rfl, upd_a, if_neg (by omega), layX_52, layF_hi _ _ _ _ _ _ (by omega)]
            · rw [sI_1, if_pos rfl, layX_52]
              unfold s_put
              rw [h]
              refine hset.cg hn (fun k _ => ?_)
              rw [upd_a]
              by_cases z : k = 0
              · rw [if_pos z, z, layF_lo _ _ _ _ _ _ (by omega), hSZ.1]
              · rw [if_neg z]
      have r107 : R 107 [(0, .ref 51), (1, .int (nI a)), (2, .int real), (3, .int (nI t))] [] Y3 := by
        refine go hR [(160, [0, 1, 2, 3, 5, 6])] 80 ?_
        simp only [↓reduceIte, Nat.reduceEqDiff, Nat.reduceAdd, Nat.reduceLeDiff, reduceCtorEq, and_true, true_and, false_and, and_false, true_or, or_true, or_false, false_or, true_implies, false_implies, implies_true, not_true_eq_false, not_false_eq_true, eq_self, fx_s, ↓run_s, run_0, ↓rs_n, ↓rs_c, as_s, ls_n, ls_c, lc_s, lget_c, fX4_readsEdge_0, ↓ex_aload_n, ↓xR_r, ↓xRg_c, fX4_readsEdge_1, ↓ex_invokevirtual, ↓xc_0, ↓xc_s, ↓xc_1, ↓pk_s, ↓k_s, ↓k_n, catS_n, catS_c, rOk_c, ct_i, ct_l, ct_r, ↓pk_f, fX4_readsEdge_4, ↓ex_bipush, fX4_readsEdge_6, ↓ex_isub, ↓s2I_c, fX4_readsEdge_7, ↓ex_istore_n, ↓s1I_c, ↓lsto_e, ↓lrmK_n, ↓lrmK_f, fX4_readsEdge_8, ↓ex_iload_n, ↓xI_i, ↓xIg_c, fX4_readsEdge_9, ↓ex_invokestatic, ↓pk_t, fX4_readsEdge_12, ↓ex_ifCond_eq, fX4_readsEdge_15, fX4_readsEdge_16, fX4_readsEdge_17, ↓ex_if_icmp_eq, fX4_readsEdge_20, fX4_readsEdge_21, ↓ex_getfield, ↓s1R_c, ↓fv_4_9, fX4_readsEdge_24, fX4_readsEdge_26, fX4_readsEdge_27, ↓ex_imul, fX4_readsEdge_28, fX4_readsEdge_29, ↓ex_iadd, fX4_readsEdge_30, ↓ex_baload, ↓sRI_c, fX4_readsEdge_31, ↓ex_ifCond_ne, fX4_readsEdge_34, fX4_readsEdge_35, ↓fv_4_10, fX4_readsEdge_38, fX4_readsEdge_40, ↓ex_if_icmp_ge, fX4_readsEdge_43, ↓ex_iconst, fX4_readsEdge_44, ↓ex_goto, fX4_readsEdge_47, fX4_readsEdge_48, ↓ex_istore, fX4_readsEdge_50, ↓ex_iload, fX4_readsEdge_52, fX4_readsEdge_55, fX4_readsEdge_56, ↓ex_ireturn, ↓rt_i, fX4_readsEdge_57, fX4_readsEdge_58, ↓ex_dup, fX4_readsEdge_59, ↓fv_4_8, fX4_readsEdge_62, fX4_readsEdge_63, fX4_readsEdge_64, ↓ex_putfield, ↓pf_4_8, fX4_readsEdge_67, fX4_readsEdge_68, fX4_readsEdge_69, fX4_readsEdge_72, fX4_readsEdge_73, fX4_readsEdge_76, fX4_readsEdge_78, fX4_readsEdge_79, fX4_readsEdge_80, fX4_readsEdge_81, fX4_readsEdge_82, fX4_readsEdge_83, fX4_readsEdge_86, fX4_readsEdge_87, fX4_readsEdge_90, fX4_readsEdge_91, fX4_readsEdge_92, ↓pf_4_10, fX4_readsEdge_95, fX4_readsEdge_96, fX4_readsEdge_99, fX4_readsEdge_101, fX4_readsEdge_102, fX4_readsEdge_103, fX4_readsEdge_104, fX4_readsEdge_105, fX4_readsEdge_106, ↓ex_bastore, ↓sRII_c, fX4_readsEdge_107, fX4_readsEdge_108, fX4_readsEdge_110, fX4_readsEdge_113, fX4_readsEdge_116, fX4_readsEdge_117, fX4_readsEdge_118, fX4_readsEdge_119, fX4_readsEdge_120, fX4_readsEdge_122, fX4_readsEdge_125, fX4_readsEdge_127, fX4_readsEdge_129, fX4_readsEdge_130, fX4_readsEdge_133, fX4_readsEdge_134, fX4_readsEdge_136, fX4_readsEdge_139, fX4_readsEdge_142, fX4_readsEdge_143, fX4_readsEdge_144, fX4_readsEdge_145, fX4_readsEdge_146, fX4_readsEdge_147, fX4_readsEdge_150, fX4_readsEdge_152, fX4_readsEdge_154, fX4_readsEdge_155, ↓ex_if_icmp_ne, fX4_readsEdge_158, fX4_readsEdge_159, fX4_readsEdge_160, fX4_readsEdge_161, fX4_readsEdge_164, fX4_readsEdge_165, fX4_readsEdge_166, fX4_readsEdge_167, fX4_readsEdge_170, fX4_readsEdge_172, fX4_readsEdge_173, fX4_readsEdge_175, fX4_readsEdge_176, fX4_readsEdge_179, fX4_readsEdge_180, ↓fv_4_0, fX4_readsEdge_183, fX4_readsEdge_184, ↓ex_iaload, ↓scrR_n, fX4_readsEdge_185, fX4_readsEdge_188, fX4_readsEdge_190, fX4_readsEdge_191, fX4_readsEdge_192, fX4_readsEdge_194, fX4_readsEdge_196, fX4_readsEdge_199, fX4_readsEdge_200, fX4_readsEdge_203, fX4_readsEdge_204, ↓ex_dup2, fX4_readsEdge_205, fX4_readsEdge_206, fX4_readsEdge_208, fX4_readsEdge_209, fX4_readsEdge_212, fX4_readsEdge_213, fX4_readsEdge_216, fX4_readsEdge_217, fX4_readsEdge_218, ↓ex_iastore, fX4_readsEdge_219, fX4_readsEdge_220, p1, q1, ↓C_X4_sign, ↓C_X4_number, i10, ↓reduceIte, not_true_eq_false, not_false_eq_true, false_implies, true_implies, implies_true, and_true, true_and, and_false, false_and, or_true, true_or, or_false, false_or, Classical.not_not, ite_true, ite_false]
        refine ⟨n, b, J + 1, ⟨T3, by decide⟩, fun z Z hZ hTZ => ?_, fun z Z hZ hTZ => ?_⟩
        · unfold edR2 at hpost
          rw [cif_t z] at hpost
          have g1 := f3.tr (hZ.T real)
          refine ⟨n, b, _, ⟨hTZ, by decide⟩, ?_⟩
          have hle := (skp_at n b _ hTZ.2.1).2
          obtain ⟨r, hr⟩ : ∃ r, r = numR n b 0 10 (skp n b (n - (skp n b (n - (J + 1)) (J + 1) + 1)) (skp n b (n - (J + 1)) (J + 1) + 1)) := ⟨_, rfl⟩
          rw [← hr] at hpost ⊢
          intro U hU hTU
          have g2 := g1.tr (hU.T real)
          unfold edR3 at hpost
          refine ⟨fun y => ?_, fun y => ?_⟩
          · rw [cif_t y] at hpost
            exact ⟨bl_0, (hpost _ g2 hTU).2 rfl⟩
          · rw [cif_f y] at hpost
            unfold edR4 at hpost
            refine ⟨n, b, r.1, ⟨hTU, by decide⟩, fun z2 V hV hTV => ?_, fun z2 V hV hTV => ?_⟩
            · rw [cif_t z2] at hpost
              have g3 := g2.tr (hV.T real)
              have hle2 := (skp_at n b _ hTV.2.1).2
              refine ⟨n, b, _, ⟨hTV, by decide⟩, ?_⟩
              obtain ⟨q, hq⟩ : ∃ q, q = numR n b 1 5 (skp n b (n - (skp n b (n - r.1) r.1 + 1)) (skp n b (n - r.1) r.1 + 1)) := ⟨_, rfl⟩
              rw [← hq] at hpost ⊢
              intro W hW' hTW
              have g4 := g3.tr (hW'.T real)
              unfold edR5 at hpost
              refine ⟨fun x => ?_, fun x => ?_⟩
              · rw [cif_f x] at hpost
                have i1 : inR r.2 0 10 := by
                  have := (numR_in (lo := 0) (hi := 10) (b := b) hle (by rw [← hr]; exact y)).2.2
                  rw [← hr] at this; exact this
                have i2 : inR q.2 1 5 := by
                  have := (numR_in (lo := 1) (hi := 5) (b := b) hle2 (by rw [← hq]; exact x)).2.2
                  rw [← hq] at this; exact this
                obtain ⟨c1, c2, c3⟩ := inR_cl (lo := 0) (hi := 10) (by omega) i1
                obtain ⟨d1, d2, d3⟩ := inR_cl (lo := 1) (hi := 5) (by omega) i2
                rw [c3, d3]
                refine last (cl r.2) (cl q.2) q.1 W (fun X' h1 h2 h3 h4 => (hpost X' h1 h2).1 _ rfl h3 h4) g4 hTW ?_ ?_
                · exact hW'.lk (hV.lk (hU.lk (hZ.lk (L3 _ _))))
                · rw [hW'.row, hV.row, hU.row, hZ.row, r3]
              · rw [cif_t x] at hpost
                exact ⟨bl_0, (hpost _ g4 hTW).2 rfl⟩
            · rw [cif_f z2] at hpost
              exact ⟨bl_0, (hpost _ (g2.tr (hV.T real)) hTV).2 rfl⟩
        · unfold edR2 at hpost
          rw [cif_f z] at hpost
          exact ⟨bl_0, (hpost _ (f3.tr (hZ.T real)) hTZ).2 rfl⟩
      refine go hR [(107, [0, 1, 2, 3])] 60 ?_
      simp only [↓reduceIte, Nat.reduceEqDiff, Nat.reduceAdd, Nat.reduceLeDiff, reduceCtorEq, and_true, true_and, false_and, and_false, true_or, or_true, or_false, false_or, true_implies, false_implies, implies_true, not_true_eq_false, not_false_eq_true, eq_self, fx_s, ↓run_s, run_0, ↓rs_n, ↓rs_c, as_s, ls_n, ls_c, lc_s, lget_c, fX4_readsEdge_0, ↓ex_aload_n, ↓xR_r, ↓xRg_c, fX4_readsEdge_1, ↓ex_invokevirtual, ↓xc_0, ↓xc_s, ↓xc_1, ↓pk_s, ↓k_s, ↓k_n, catS_n, catS_c, rOk_c, ct_i, ct_l, ct_r, ↓pk_f, fX4_readsEdge_4, ↓ex_bipush, fX4_readsEdge_6, ↓ex_isub, ↓s2I_c, fX4_readsEdge_7, ↓ex_istore_n, ↓s1I_c, ↓lsto_e, ↓lrmK_n, ↓lrmK_f, fX4_readsEdge_8, ↓ex_iload_n, ↓xI_i, ↓xIg_c, fX4_readsEdge_9, ↓ex_invokestatic, ↓pk_t, fX4_readsEdge_12, ↓ex_ifCond_eq, fX4_readsEdge_15, fX4_readsEdge_16, fX4_readsEdge_17, ↓ex_if_icmp_eq, fX4_readsEdge_20, fX4_readsEdge_21, ↓ex_getfield, ↓s1R_c, ↓fv_4_9, fX4_readsEdge_24, fX4_readsEdge_26, fX4_readsEdge_27, ↓ex_imul, fX4_readsEdge_28, fX4_readsEdge_29, ↓ex_iadd, fX4_readsEdge_30, ↓ex_baload, ↓sRI_c, fX4_readsEdge_31, ↓ex_ifCond_ne, fX4_readsEdge_34, fX4_readsEdge_35, ↓fv_4_10, fX4_readsEdge_38, fX4_readsEdge_40, ↓ex_if_icmp_ge, fX4_readsEdge_43, ↓ex_iconst, fX4_readsEdge_44, ↓ex_goto, fX4_readsEdge_47, fX4_readsEdge_48, ↓ex_istore, fX4_readsEdge_50, ↓ex_iload, fX4_readsEdge_52, fX4_readsEdge_55, fX4_readsEdge_56, ↓ex_ireturn, ↓rt_i, fX4_readsEdge_57, fX4_readsEdge_58, ↓ex_dup, fX4_readsEdge_59, ↓fv_4_8, fX4_readsEdge_62, fX4_readsEdge_63, fX4_readsEdge_64, ↓ex_putfield, ↓pf_4_8, fX4_readsEdge_67, fX4_readsEdge_68, fX4_readsEdge_69, fX4_readsEdge_72, fX4_readsEdge_73, fX4_readsEdge_76, fX4_readsEdge_78, fX4_readsEdge_79, fX4_readsEdge_80, fX4_readsEdge_81, fX4_readsEdge_82, fX4_readsEdge_83, fX4_readsEdge_86, fX4_readsEdge_87, fX4_readsEdge_90, fX4_readsEdge_91, fX4_readsEdge_92, ↓pf_4_10, fX4_readsEdge_95, fX4_readsEdge_96, fX4_readsEdge_99, fX4_readsEdge_101, fX4_readsEdge_102, fX4_readsEdge_103, fX4_readsEdge_104, fX4_readsEdge_105, fX4_readsEdge_106, ↓ex_bastore, ↓sRII_c, fX4_readsEdge_107, fX4_readsEdge_108, fX4_readsEdge_110, fX4_readsEdge_113, fX4_readsEdge_116, fX4_readsEdge_117, fX4_readsEdge_118, fX4_readsEdge_119, fX4_readsEdge_120, fX4_readsEdge_122, fX4_readsEdge_125, fX4_readsEdge_127, fX4_readsEdge_129, fX4_readsEdge_130, fX4_readsEdge_133, fX4_readsEdge_134, fX4_readsEdge_136, fX4_readsEdge_139, fX4_readsEdge_142, fX4_readsEdge_143, fX4_readsEdge_144, fX4_readsEdge_145, fX4_readsEdge_146, fX4_readsEdge_147, fX4_readsEdge_150, fX4_readsEdge_152, fX4_readsEdge_154, fX4_readsEdge_155, ↓ex_if_icmp_ne, fX4_readsEdge_158, fX4_readsEdge_159, fX4_readsEdge_160, fX4_readsEdge_161, fX4_readsEdge_164, fX4_readsEdge_165, fX4_readsEdge_166, fX4_readsEdge_167, fX4_readsEdge_170, fX4_readsEdge_172, fX4_readsEdge_173, fX4_readsEdge_175, fX4_readsEdge_176, fX4_readsEdge_179, fX4_readsEdge_180, ↓fv_4_0, fX4_readsEdge_183, fX4_readsEdge_184, ↓ex_iaload, ↓scrR_n, fX4_readsEdge_185, fX4_readsEdge_188, fX4_readsEdge_190, fX4_readsEdge_191, fX4_readsEdge_192, fX4_readsEdge_194, fX4_readsEdge_196, fX4_readsEdge_199, fX4_readsEdge_200, fX4_readsEdge_203, fX4_readsEdge_204, ↓ex_dup2, fX4_readsEdge_205, fX4_readsEdge_206, fX4_readsEdge_208, fX4_readsEdge_209, fX4_readsEdge_212, fX4_readsEdge_213, fX4_readsEdge_216, fX4_readsEdge_217, fX4_readsEdge_218, ↓ex_iastore, fX4_readsEdge_219, fX4_readsEdge_220, p1, p7, q1, q7, ix_l, t4, hLY.1, clampN (n := 8 * a + t) (by omega), hla, b2i_0, Classical.not_not, sI_1, upd_a, add1N, add0N, i10, ↓reduceIte, not_true_eq_false, not_false_eq_true, false_implies, true_implies, implies_true, and_true, true_and, and_false, false_and, or_true, true_or, or_false, false_or, Classical.not_not, ite_true, ite_false]
      refine ⟨vl, fun z => ?_, fun z => ?_⟩
      · rw [if_pos z] at hm
        rw [hY3, hm] at r107
        exact ⟨⟨vl, bl_1⟩, r107⟩
      · rw [if_neg z] at hm
        rw [hY3, hm] at r107
        exact ⟨⟨vl, bl_1⟩, r107⟩
    refine go hR [(57, [0, 1, 2, 3])] 80 ?_
    simp only [lv_args, ↓reduceIte, Nat.reduceEqDiff, Nat.reduceAdd, Nat.reduceLeDiff, reduceCtorEq, and_true, true_and, false_and, and_false, true_or, or_true, or_false, false_or, true_implies, false_implies, implies_true, not_true_eq_false, not_false_eq_true, eq_self, fx_s, ↓run_s, run_0, ↓rs_n, ↓rs_c, as_s, ls_n, ls_c, lc_s, lget_c, fX4_readsEdge_0, ↓ex_aload_n, ↓xR_r, ↓xRg_c, fX4_readsEdge_1, ↓ex_invokevirtual, ↓xc_0, ↓xc_s, ↓xc_1, ↓pk_s, ↓k_s, ↓k_n, catS_n, catS_c, rOk_c, ct_i, ct_l, ct_r, ↓pk_f, fX4_readsEdge_4, ↓ex_bipush, fX4_readsEdge_6, ↓ex_isub, ↓s2I_c, fX4_readsEdge_7, ↓ex_istore_n, ↓s1I_c, ↓lsto_e, ↓lrmK_n, ↓lrmK_f, fX4_readsEdge_8, ↓ex_iload_n, ↓xI_i, ↓xIg_c, fX4_readsEdge_9, ↓ex_invokestatic, ↓pk_t, fX4_readsEdge_12, ↓ex_ifCond_eq, fX4_readsEdge_15, fX4_readsEdge_16, fX4_readsEdge_17, ↓ex_if_icmp_eq, fX4_readsEdge_20, fX4_readsEdge_21, ↓ex_getfield, ↓s1R_c, ↓fv_4_9, fX4_readsEdge_24, fX4_readsEdge_26, fX4_readsEdge_27, ↓ex_imul, fX4_readsEdge_28, fX4_readsEdge_29, ↓ex_iadd, fX4_readsEdge_30, ↓ex_baload, ↓sRI_c, fX4_readsEdge_31, ↓ex_ifCond_ne, fX4_readsEdge_34, fX4_readsEdge_35, ↓fv_4_10, fX4_readsEdge_38, fX4_readsEdge_40, ↓ex_if_icmp_ge, fX4_readsEdge_43, ↓ex_iconst, fX4_readsEdge_44, ↓ex_goto, fX4_readsEdge_47, fX4_readsEdge_48, ↓ex_istore, fX4_readsEdge_50, ↓ex_iload, fX4_readsEdge_52, fX4_readsEdge_55, fX4_readsEdge_56, ↓ex_ireturn, ↓rt_i, fX4_readsEdge_57, fX4_readsEdge_58, ↓ex_dup, fX4_readsEdge_59, ↓fv_4_8, fX4_readsEdge_62, fX4_readsEdge_63, fX4_readsEdge_64, ↓ex_putfield, ↓pf_4_8, fX4_readsEdge_67, fX4_readsEdge_68, fX4_readsEdge_69, fX4_readsEdge_72, fX4_readsEdge_73, fX4_readsEdge_76, fX4_readsEdge_78, fX4_readsEdge_79, fX4_readsEdge_80, fX4_readsEdge_81, fX4_readsEdge_82, fX4_readsEdge_83, fX4_readsEdge_86, fX4_readsEdge_87, fX4_readsEdge_90, fX4_readsEdge_91, fX4_readsEdge_92, ↓pf_4_10, fX4_readsEdge_95, fX4_readsEdge_96, fX4_readsEdge_99, fX4_readsEdge_101, fX4_readsEdge_102, fX4_readsEdge_103, fX4_readsEdge_104, fX4_readsEdge_105, fX4_readsEdge_106, ↓ex_bastore, ↓sRII_c, fX4_readsEdge_107, fX4_readsEdge_108, fX4_readsEdge_110, fX4_readsEdge_113, fX4_readsEdge_116, fX4_readsEdge_117, fX4_readsEdge_118, fX4_readsEdge_119, fX4_readsEdge_120, fX4_readsEdge_122, fX4_readsEdge_125, fX4_readsEdge_127, fX4_readsEdge_129, fX4_readsEdge_130, fX4_readsEdge_133, fX4_readsEdge_134, fX4_readsEdge_136, fX4_readsEdge_139, fX4_readsEdge_142, fX4_readsEdge_143, fX4_readsEdge_144, fX4_readsEdge_145, fX4_readsEdge_146, fX4_readsEdge_147, fX4_readsEdge_150, fX4_readsEdge_152, fX4_readsEdge_154, fX4_readsEdge_155, ↓ex_if_icmp_ne, fX4_readsEdge_158, fX4_readsEdge_159, fX4_readsEdge_160, fX4_readsEdge_161, fX4_readsEdge_164, fX4_readsEdge_165, fX4_readsEdge_166, fX4_readsEdge_167, fX4_readsEdge_170, fX4_readsEdge_172, fX4_readsEdge_173, fX4_readsEdge_175, fX4_readsEdge_176, fX4_readsEdge_179, fX4_readsEdge_180, ↓fv_4_0, fX4_readsEdge_183, fX4_readsEdge_184, ↓ex_iaload, ↓scrR_n, fX4_readsEdge_185, fX4_readsEdge_188, fX4_readsEdge_190, fX4_readsEdge_191, fX4_readsEdge_192, fX4_readsEdge_194, fX4_readsEdge_196, fX4_readsEdge_199, fX4_readsEdge_200, fX4_readsEdge_203, fX4_readsEdge_204, ↓ex_dup2, fX4_readsEdge_205, fX4_readsEdge_206, fX4_readsEdge_208, fX4_readsEdge_209, fX4_readsEdge_212, fX4_readsEdge_213, fX4_readsEdge_216, fX4_readsEdge_217, fX4_readsEdge_218, ↓ex_iastore, fX4_readsEdge_219, fX4_readsEdge_220, p1, p7, q1, q7, ↓C_X4_here, ↓C_X4_isNode, b2i_0, Classical.not_not, i10, ↓reduceIte, not_true_eq_false, not_false_eq_true, false_implies, true_implies, implies_true, and_true, true_and, and_false, false_and, or_true, true_or, or_false, false_or, Classical.not_not, ite_true, ite_false]
    refine ⟨n, b, i0, hT0, ?_⟩
    rw [← hJ]
    intro Y hF hT
    have hc : s_nodeAt (byA n b J) = cif (inR (byA n b J - 48) 0 7) (byA n b J - 48) (-1) := rfl
    refine ⟨fun z => ⟨bl_0, bad Y hF hT (Or.inl (by rw [hc, cif_f z]))⟩, fun z => ?_⟩
    rw [cif_t z] at hc
    obtain ⟨-, t2, t3⟩ := inR_cl (lo := 0) (hi := 7) (by omega) z
    obtain ⟨t, ht⟩ : ∃ t, t = cl (byA n b J - 48) := ⟨_, rfl⟩
    rw [← ht] at t2 t3
    rw [t3] at hc ⊢
    have hLY := hF.lk hL
    have vl : vp_in (nI (8 * a + t)) 64 := vp_inN (by omega) (by omega)
    refine ⟨fun y => ⟨bl_0, bad Y hF hT (Or.inr (Or.inl (by rw [hc]; exact y)))⟩, fun y => ?_⟩
    have hla := hLY.2 a t ha (by omega)
    have hnt : (nI t : Int32) ≠ -1 := fun w => by rw [eqI, nI_toInt (by omega), tI_m1] at w; omega
    rw [ix_l, clampN (n := 8 * a + t) (by omega), hla, hLY.1, b2i_0, Classical.not_not]
    refine ⟨vl, fun x => rest Y t hF hT hc (by omega) (fun w => ?_), fun x => ⟨fun w => ⟨bl_0, bad Y hF hT ?_⟩, fun w => rest Y t hF hT hc (by omega) (fun u => ?_)⟩⟩
    · rcases w with w | w | w
      · exact hnt w
      · exact y w
      · rw [show cl (nI t) = t from clampN (by omega)] at w
        exact x w.2
    · rw [leI, tI_12, nI_toInt (n := s.n) (by omega)] at w
      rw [hc]
      refine Or.inr (Or.inr ⟨by omega, ?_⟩)
      rw [show cl (nI t) = t from clampN (by omega)]; exact Classical.not_not.mp x
    · rw [leI, tI_12, nI_toInt (n := s.n) (by omega)] at w
      rcases u with u | u | u
      · exact hnt u
      · exact y u
      · omega
  next => exact hC.elim)
noncomputable def C_X4_readsItem : CT := fun As X K => match As with
  | [.ref r, .int real] => ∃ (n : Nat) (b : Nat → Int32) (s : SV) (i : Nat), (r = 51 ∧ TXm X n b i ∧ LKs X s ∧ (real = 1 → RSf (X.1 52) s) ∧ WF s ∧ (real = 0 ∨ real = 1)) ∧ RdM n b real (itR n b s (skp n b (n - i) i)) X K
  | _ => False
theorem fr8.sf {X X' : XT} (h : fr8 X X') {s : SV} {real : Int32} (hS : real = 1 → RSf (X.1 52) s) : real = 1 → RSf (X'.1 52) s := fun z => by rw [h.row]; exact hS z
set_option maxRecDepth 20000 in
set_option maxHeartbeats 4000000 in
theorem d_X4_readsItem (l : Launch) : Does l yX4_readsItem (wY yX4_readsItem cX4_readsItem 5 (retT 1)) (rmF 3) C_X4_readsItem := does_of (rt := 1) (by decide +kernel) tkX4_readsItem (calls := [(111, false, 1, 4, C_X4_here), (50, true, 1, 4, C_X4_isNode), (118, false, 2, 4, C_X4_sign), (124, false, 3, 4, C_X4_readsEdge), (121, false, 3, 4, C_X4_number)]) (List.forall_mem_cons.mpr ⟨cr_V (d_X4_here l) rfl (by decide +kernel) (by decide +kernel) ⟨rfl, rfl⟩ ⟨Nat.le_of_ble_eq_true rfl, Nat.le_of_ble_eq_true rfl⟩, List.forall_mem_cons.mpr ⟨cr_S (d_X4_isNode l) (by decide +kernel) (by decide +kernel) ⟨rfl, rfl⟩ ⟨Nat.le_of_ble_eq_true rfl, Nat.le_of_ble_eq_true rfl⟩, List.forall_mem_cons.mpr ⟨cr_V (d_X4_sign l) rfl (by decide +kernel) (by decide +kernel) ⟨rfl, rfl⟩ ⟨Nat.le_of_ble_eq_true rfl, Nat.le_of_ble_eq_true rfl⟩, List.forall_mem_cons.mpr ⟨cr_V (d_X4_readsEdge l) rfl (by decide +kernel) (by decide +kernel) ⟨rfl, rfl⟩ ⟨Nat.le_of_ble_eq_true rfl, Nat.le_of_ble_eq_true rfl⟩, List.forall_mem_cons.mpr ⟨cr_V (d_X4_number l) rfl (by decide +kernel) (by decide +kernel) ⟨rfl, rfl⟩ ⟨Nat.le_of_ble_eq_true rfl, Nat.le_of_ble_eq_true rfl⟩, fun _ h => absurd h List.not_mem_nil⟩⟩⟩⟩⟩) (by
  intro As X post hC
  unfold C_X4_readsItem at hC
  split at hC
  next r real =>
    obtain ⟨n, b, s, i0, ⟨rfl, hT0, hL, hS, hW, hreal⟩, hpost⟩ := hC
    refine ⟨Nat.le_of_ble_eq_true rfl, fun R hR => ?_⟩
    obtain ⟨⟨p1, p2, p3, p4, p5, p6, p7⟩, q1, q2, q3, q4, q5, q6, q7⟩ := sh_m
    have e := skp_idem n b (n - i0) i0 rfl
    have hj := skp_at n b i0 hT0.2.1
    obtain ⟨J, hJ⟩ : ∃ J, J = skp n b (n - i0) i0 := ⟨_, rfl⟩
    rw [← hJ] at hpost e hj
    have hc : s_nodeAt (byA n b J) = cif (inR (byA n b J - 48) 0 7) (byA n b J - 48) (-1) := rfl
    unfold itR at hpost
    refine go hR [(17, [0, 1, 2])] 60 ?_
    simp only [lv_args, ↓reduceIte, Nat.reduceEqDiff, Nat.reduceAdd, Nat.reduceLeDiff, reduceCtorEq, and_true, true_and, false_and, and_false, true_or, or_true, or_false, false_or, true_implies, false_implies, implies_true, not_true_eq_false, not_false_eq_true, eq_self, fx_s, ↓run_s, run_0, ↓rs_n, ↓rs_c, as_s, ls_n, ls_c, lc_s, lget_c, fX4_readsItem_0, ↓ex_aload_n, ↓xR_r, ↓xRg_c, fX4_readsItem_1, ↓ex_invokevirtual, ↓xc_0, ↓xc_s, ↓xc_1, ↓pk_s, ↓k_s, ↓k_n, catS_n, catS_c, rOk_c, ct_i, ct_l, ct_r, ↓pk_f, fX4_readsItem_4, ↓ex_bipush, fX4_readsItem_6, ↓ex_isub, ↓s2I_c, fX4_readsItem_7, ↓ex_istore_n, ↓s1I_c, ↓lsto_e, ↓lrmK_n, ↓lrmK_f, fX4_readsItem_8, ↓ex_iload_n, ↓xI_i, ↓xIg_c, fX4_readsItem_9, ↓ex_invokestatic, ↓pk_t, fX4_readsItem_12, ↓ex_ifCond_ne, fX4_readsItem_15, ↓ex_iconst, fX4_readsItem_16, ↓ex_ireturn, ↓rt_i, fX4_readsItem_17, fX4_readsItem_18, ↓ex_dup, fX4_readsItem_19, ↓ex_getfield, ↓s1R_c, ↓fv_4_8, fX4_readsItem_22, fX4_readsItem_23, ↓ex_iadd, fX4_readsItem_24, ↓ex_putfield, ↓pf_4_8, fX4_readsItem_27, fX4_readsItem_28, fX4_readsItem_30, fX4_readsItem_33, ↓ex_ifCond_eq, fX4_readsItem_36, fX4_readsItem_37, fX4_readsItem_38, fX4_readsItem_39, fX4_readsItem_42, fX4_readsItem_43, fX4_readsItem_44, fX4_readsItem_46, fX4_readsItem_49, fX4_readsItem_52, fX4_readsItem_53, fX4_readsItem_54, fX4_readsItem_55, fX4_readsItem_57, fX4_readsItem_60, fX4_readsItem_61, fX4_readsItem_62, fX4_readsItem_65, fX4_readsItem_66, ↓ex_goto, fX4_readsItem_69, fX4_readsItem_70, fX4_readsItem_71, fX4_readsItem_73, fX4_readsItem_76, ↓ex_istore, fX4_readsItem_78, fX4_readsItem_79, fX4_readsItem_82, ↓ex_iload, fX4_readsItem_84, fX4_readsItem_85, ↓ex_if_icmp_ne, fX4_readsItem_88, fX4_readsItem_89, fX4_readsItem_90, fX4_readsItem_91, ↓fv_4_0, fX4_readsItem_94, fX4_readsItem_96, fX4_readsItem_97, fX4_readsItem_98, fX4_readsItem_99, fX4_readsItem_102, fX4_readsItem_104, fX4_readsItem_107, fX4_readsItem_108, fX4_readsItem_111, fX4_readsItem_113, fX4_readsItem_114, fX4_readsItem_115, ↓ex_iaload, ↓sRI_c, ↓scrR_n, fX4_readsItem_116, ↓ex_iastore, ↓sRII_c, fX4_readsItem_117, fX4_readsItem_118, p1, q1, ↓C_X4_here, ↓C_X4_isNode, b2i_0, Classical.not_not, ↓reduceIte, not_true_eq_false, not_false_eq_true, false_implies, true_implies, implies_true, and_true, true_and, and_false, false_and, or_true, true_or, or_false, false_or, Classical.not_not, ite_true, ite_false]
    refine ⟨n, b, i0, hT0, ?_⟩
    rw [← hJ]
    intro Y hF hT
    by_cases z : inR (byA n b J - 48) 0 7
    case neg =>
      rw [cif_f z] at hc
      rw [hc, cif_t rfl] at hpost
      simp only [z, ↓reduceIte, not_true_eq_false, not_false_eq_true, false_implies, true_implies, implies_true, and_true, true_and, and_false, false_and, or_true, true_or, or_false, false_or, Classical.not_not, ite_true, ite_false]
      exact ⟨bl_0, (hpost Y (hF.T real) hT).2 rfl⟩
    rw [cif_t z] at hc
    obtain ⟨-, t2, t3⟩ := inR_cl (lo := 0) (hi := 7) (by omega) z
    obtain ⟨t, ht⟩ : ∃ t, t = cl (byA n b J - 48) := ⟨_, rfl⟩
    rw [← ht] at t2 t3
    simp only [z, ↓reduceIte, not_true_eq_false, not_false_eq_true, false_implies, true_implies, implies_true, and_true, true_and, and_false, false_and, or_true, true_or, or_false, false_or, Classical.not_not, ite_true, ite_false]
    rw [t3] at hc ⊢
    have hnt : (nI t : Int32) ≠ -1 := fun w => by rw [eqI, nI_toInt (by omega), tI_m1] at w; omega
    rw [hc, cif_f hnt, show cl (nI t) = t from clampN (by omega)] at hpost
    have hlt : J < n := nodeAt_lt (b := b) (by rw [hc]; exact hnt)
    have t4 := hT.2.2.2.1
    unfold itR2 at hpost
    refine go hR [] 200 ?_
    simp only [↓reduceIte, Nat.reduceEqDiff, Nat.reduceAdd, Nat.reduceLeDiff, reduceCtorEq, and_true, true_and, false_and, and_false, true_or, or_true, or_false, false_or, true_implies, false_implies, implies_true, not_true_eq_false, not_false_eq_true, eq_self, fx_s, ↓run_s, run_0, ↓rs_n, ↓rs_c, as_s, ls_n, ls_c, lc_s, lget_c, fX4_readsItem_0, ↓ex_aload_n, ↓xR_r, ↓xRg_c, fX4_readsItem_1, ↓ex_invokevirtual, ↓xc_0, ↓xc_s, ↓xc_1, ↓pk_s, ↓k_s, ↓k_n, catS_n, catS_c, rOk_c, ct_i, ct_l, ct_r, ↓pk_f, fX4_readsItem_4, ↓ex_bipush, fX4_readsItem_6, ↓ex_isub, ↓s2I_c, fX4_readsItem_7, ↓ex_istore_n, ↓s1I_c, ↓lsto_e, ↓lrmK_n, ↓lrmK_f, fX4_readsItem_8, ↓ex_iload_n, ↓xI_i, ↓xIg_c, fX4_readsItem_9, ↓ex_invokestatic, ↓pk_t, fX4_readsItem_12, ↓ex_ifCond_ne, fX4_readsItem_15, ↓ex_iconst, fX4_readsItem_16, ↓ex_ireturn, ↓rt_i, fX4_readsItem_17, fX4_readsItem_18, ↓ex_dup, fX4_readsItem_19, ↓ex_getfield, ↓s1R_c, ↓fv_4_8, fX4_readsItem_22, fX4_readsItem_23, ↓ex_iadd, fX4_readsItem_24, ↓ex_putfield, ↓pf_4_8, fX4_readsItem_27, fX4_readsItem_28, fX4_readsItem_30, fX4_readsItem_33, ↓ex_ifCond_eq, fX4_readsItem_36, fX4_readsItem_37, fX4_readsItem_38, fX4_readsItem_39, fX4_readsItem_42, fX4_readsItem_43, fX4_readsItem_44, fX4_readsItem_46, fX4_readsItem_49, fX4_readsItem_52, fX4_readsItem_53, fX4_readsItem_54, fX4_readsItem_55, fX4_readsItem_57, fX4_readsItem_60, fX4_readsItem_61, fX4_readsItem_62, fX4_readsItem_65, fX4_readsItem_66, ↓ex_goto, fX4_readsItem_69, fX4_readsItem_70, fX4_readsItem_71, fX4_readsItem_73, fX4_readsItem_76, ↓ex_istore, fX4_readsItem_78, fX4_readsItem_79, fX4_readsItem_82, ↓ex_iload, fX4_readsItem_84, fX4_readsItem_85, ↓ex_if_icmp_ne, fX4_readsItem_88, fX4_readsItem_89, fX4_readsItem_90, fX4_readsItem_91, ↓fv_4_0, fX4_readsItem_94, fX4_readsItem_96, fX4_readsItem_97, fX4_readsItem_98, fX4_readsItem_99, fX4_readsItem_102, fX4_readsItem_104, fX4_readsItem_107, fX4_readsItem_108, fX4_readsItem_111, fX4_readsItem_113, fX4_readsItem_114, fX4_readsItem_115, ↓ex_iaload, ↓sRI_c, ↓scrR_n, fX4_readsItem_116, ↓ex_iastore, ↓sRII_c, fX4_readsItem_117, fX4_readsItem_118, p1, p2, q1, q2, t4, ↓C_X4_sign, ↓C_X4_number, ↓C_X4_readsEdge, RdM, ix_v, clampN (n := 51 + t) (by omega), add1N, i10, ↓reduceIte, not_true_eq_false, not_false_eq_true, false_implies, true_implies, implies_true, and_true, true_and, and_false, false_and, or_true, true_or, or_false, false_or, Classical.not_not, ite_true, ite_false]
    have f1 := hF.set (nI (J + 1))
    refine ⟨n, b, J + 1, ⟨hT.set (by omega), by decide⟩, fun y Z hZ hTZ => ?_, fun y Z hZ hTZ => ?_⟩
    · rw [cif_t y] at hpost
      have g1 := f1.tr hZ
      refine ⟨n, b, s, _, t, ⟨hTZ, g1.lk hL, g1.sf hS, hW, rfl, by omega, hreal⟩, fun X' h1 h2 => ?_⟩
      have h3 := hpost X' ((g1.T real).tr h1) h2
      exact ⟨fun s' a1 a2 a3 => ⟨bl_1, h3.1 s' a1 a2 a3⟩, fun a1 => ⟨bl_0, h3.2 a1⟩⟩
    · rw [cif_f y] at hpost
      have g1 := f1.tr hZ
      have e2 := skp_idem n b (n - (J + 1)) (J + 1) rfl
      obtain ⟨J2, hJ2⟩ : ∃ q, q = skp n b (n - (J + 1)) (J + 1) := ⟨_, rfl⟩
      rw [← hJ2] at hpost hTZ e2 y
      refine ⟨n, b, J2, ⟨hTZ, by decide⟩, ?_⟩
      rw [e2]
      refine ⟨fun x U hU hTU => ?_, fun x U hU hTU => ?_⟩
      · rw [cif_t x] at hpost
        have g2 := g1.tr hU
        -- the time laid
        have seeM : ∀ V p (tm : Int32), fr8 X V → TXm V n b p → (∀ X', frT real X X' → TXm X' n b p → LKs X' (s_see s t tm) → (real = 1 → RSf (X'.1 52) (s_see s t tm)) → post (some (.int 1)) X') → (real = 1 → post (some (.int 1)) (sI V 52 (51 + t) tm)) ∧ (real = 0 → post (some (.int 1)) (sI V 52 (51 + t) (V.1 52 (51 + t)))) := by
          intro V p tm hV hTV hp
          have hLV := hV.lk hL
          have com : ∀ v, (real = 0 → v = V.1 52 (51 + t)) → (real = 1 → v = tm) → post (some (.int 1)) (sI V 52 (51 + t) v) := by
            intro v hv0 hv1
            refine hp _ ((hV.T real).tr ⟨Fr.pI (P := fun k => k = 51 ∨ k = 52 ∨ k = 57) (Fr.rf _ V) (Or.inr (Or.inl rfl)) _ _, fun q _ _ => by rw [sI_1, if_neg (by decide)], fun q hq => by rw [sI_1, if_pos rfl, upd_a, if_neg (by omega)], fun w q => ?_⟩) ?_ ⟨?_, fun u v' hu hv' => ?_⟩ (fun w => ?_)
            · rw [sI_1, if_pos rfl, upd_a]
              by_cases c : q = 51 + t
              · rw [if_pos c, c, hv0 w]
              · rw [if_neg c]
            · obtain ⟨u1, u2, u3, u4, u5⟩ := hTV
              exact ⟨u1, u2, by rw [sI_1, if_neg (by decide)]; exact u3, by rw [sI_1, if_neg (by decide)]; exact u4, fun k hk => by rw [sI_1, if_neg (by decide)]; exact u5 k hk⟩
            · rw [sI_1, if_neg (by decide)]; exact hLV.1
            · rw [sI_1, if_neg (by decide)]; exact hLV.2 u v' hu hv'
            · rw [sI_1, if_pos rfl, hv1 w]
              exact RSf_see (hV.sf hS w) hW.1 t tm
          exact ⟨fun w => com tm (fun w2 => absurd (w.symm.trans w2) (by decide)) (fun _ => rfl), fun w => com _ (fun _ => rfl) (fun w2 => absurd (w2.symm.trans w) (by decide))⟩
        have vt : vp_in (nI (51 + t)) 354 := vp_inN (by omega) (by omega)
        unfold obR at hpost
        refine ⟨n, b, J2 + 1, ⟨hTU, by decide⟩, fun w V hV hTV => ?_, fun w V hV hTV => ?_⟩
        · rw [cif_t w] at hpost
          have h := seeM V _ (-1) (g2.tr hV) hTV (fun X' h1 h2 h3 h4 => (hpost X' h1 h2).1 _ rfl h3 h4)
          exact ⟨fun w0 => ⟨vt, vt, bl_1, h.2 w0⟩, fun w1 => ⟨vt, bl_1, h.1 (hreal.resolve_left w1)⟩⟩
        · rw [cif_f w] at hpost
          have e3 := skp_idem n b (n - (J2 + 1)) (J2 + 1) rfl
          refine ⟨n, b, _, ⟨hTV, by decide⟩, ?_⟩
          rw [e3]
          intro W hW2 hTW
          unfold obR2 at hpost
          refine ⟨fun u => ?_, fun u => ?_⟩
          · rw [cif_f u] at hpost
            have h := seeM W _ _ ((g2.tr hV).tr hW2) hTW (fun X' h1 h2 h3 h4 => (hpost X' h1 h2).1 _ rfl h3 h4)
            exact ⟨fun w0 => ⟨vt, vt, bl_1, h.2 w0⟩, fun w1 => ⟨vt, bl_1, h.1 (hreal.resolve_left w1)⟩⟩
          · rw [cif_t u] at hpost
            exact ⟨bl_0, (hpost _ (((g2.tr hV).tr hW2).T real) hTW).2 rfl⟩
      · rw [cif_f x] at hpost
        exact ⟨bl_0, (hpost _ ((g1.tr hU).T real) hTU).2 rfl⟩
  next => exact hC.elim)
end MREAD
