section VALUES
def bsh (a : Int64) (k : Int32) : Int64 := (a.toUInt64 >>> ((Int32.toInt64 k).toUInt64 &&& Int64.toUInt64 63)).toInt64
def bc1 (a : Int64) : Int64 := a - (bsh a 1 &&& 6148914691236517205)
def bc2 (a : Int64) : Int64 := (a &&& 3689348814741910323) + (bsh a 2 &&& 3689348814741910323)
def bc3 (a : Int64) : Int64 := (a + bsh a 4) &&& 1085102592571150095
def bc4 (a : Int64) : Int64 := a + bsh a 8
def bc5 (a : Int64) : Int64 := a + bsh a 16
def bc6 (a : Int64) : Int64 := a + bsh a 32
/-- how many bits of a are set, as the library counts them -/
def bcF (a : Int64) : Int32 := (bc6 (bc5 (bc4 (bc3 (bc2 (bc1 a)))))).toInt32 &&& 127
noncomputable def C_J13_bitCount_95d88 : CT := fun As X K => match As with
  | [.long a] => K (some (.int (bcF a))) X
  | _ => False
set_option maxRecDepth 20000 in
set_option maxHeartbeats 4000000 in
theorem d_J13_bitCount_95d88 (l : Launch) : Does l yJ13_bitCount_95d88 (wY yJ13_bitCount_95d88 cJ13_bitCount_95d88 2 (retT 0)) (rmF 0) C_J13_bitCount_95d88 := does_of (rt := 0) (by decide +kernel) tkJ13_bitCount_95d88 (calls := []) (fun _ h => absurd h List.not_mem_nil) (by
  intro As X post hC
  unfold C_J13_bitCount_95d88 at hC
  split at hC
  next a =>
    refine ⟨Nat.le_of_ble_eq_true rfl, fun R hR => ?_⟩
    refine go hR [] 70 ?_
    simp only [lv_args, ↓reduceIte, Nat.reduceEqDiff, Nat.reduceAdd, Nat.reduceLeDiff, reduceCtorEq, and_true, true_and, false_and, and_false, true_or, or_true, or_false, false_or, true_implies, false_implies, implies_true, not_true_eq_false, not_false_eq_true, eq_self, fx_s, ↓run_s, run_0, ↓rs_n, ↓rs_c, as_s, ls_n, ls_c, lc_s, lget_c, fJ13_bitCount_95d88_0, ↓ex_lload_n, ↓xL_l, ↓xLg_c, fJ13_bitCount_95d88_1, fJ13_bitCount_95d88_2, ↓ex_iconst, fJ13_bitCount_95d88_3, ↓ex_lushr, ↓sLI_c, fJ13_bitCount_95d88_4, ↓ex_ldc2_w, fJ13_bitCount_95d88_7, ↓ex_land, ↓s2L_c, fJ13_bitCount_95d88_8, ↓ex_lsub, fJ13_bitCount_95d88_9, ↓ex_lstore_n, ↓s1L_c, ↓lsto_e, ↓lrmK_n, ↓lrmK_t, ct_i, ct_l, ct_r, fJ13_bitCount_95d88_10, fJ13_bitCount_95d88_11, fJ13_bitCount_95d88_14, fJ13_bitCount_95d88_15, fJ13_bitCount_95d88_16, fJ13_bitCount_95d88_17, fJ13_bitCount_95d88_18, fJ13_bitCount_95d88_21, fJ13_bitCount_95d88_22, ↓ex_ladd, fJ13_bitCount_95d88_23, fJ13_bitCount_95d88_24, fJ13_bitCount_95d88_25, fJ13_bitCount_95d88_26, fJ13_bitCount_95d88_27, fJ13_bitCount_95d88_28, fJ13_bitCount_95d88_29, fJ13_bitCount_95d88_32, fJ13_bitCount_95d88_33, fJ13_bitCount_95d88_34, fJ13_bitCount_95d88_35, fJ13_bitCount_95d88_36, ↓ex_bipush, fJ13_bitCount_95d88_38, fJ13_bitCount_95d88_39, fJ13_bitCount_95d88_40, fJ13_bitCount_95d88_41, fJ13_bitCount_95d88_42, fJ13_bitCount_95d88_43, fJ13_bitCount_95d88_45, fJ13_bitCount_95d88_46, fJ13_bitCount_95d88_47, fJ13_bitCount_95d88_48, fJ13_bitCount_95d88_49, fJ13_bitCount_95d88_50, fJ13_bitCount_95d88_52, fJ13_bitCount_95d88_53, fJ13_bitCount_95d88_54, fJ13_bitCount_95d88_55, fJ13_bitCount_95d88_56, ↓ex_l2i, fJ13_bitCount_95d88_57, fJ13_bitCount_95d88_59, ↓ex_iand, ↓s2I_c, fJ13_bitCount_95d88_60, ↓ex_ireturn, ↓rt_i, ↓reduceIte, not_true_eq_false, not_false_eq_true, false_implies, true_implies, implies_true, and_true, true_and, and_false, false_and, or_true, true_or, or_false, false_or, Classical.not_not, ite_true, ite_false]
    exact hC
  next => exact hC.elim)
/-- the numbers below n of which P holds, as the bits of one number -/
noncomputable def setN (P : Nat → Prop) : Nat → Nat
  | 0 => 0
  | k + 1 => setN P k ||| cif (P k) (2 ^ k) 0
theorem setN_bit (P : Nat → Prop) : ∀ n k, (setN P n).testBit k = true ↔ k < n ∧ P k
  | 0, k => by simp [setN]
  | n + 1, k => by
    unfold setN
    rw [Nat.testBit_or, Bool.or_eq_true, setN_bit P n k]
    by_cases hp : P n
    · rw [cif_t hp, Nat.testBit_two_pow]
      simp only [decide_eq_true_eq]
      constructor
      · rintro (z | z)
        · exact ⟨by omega, z.2⟩
        · subst z; exact ⟨by omega, hp⟩
      · rintro ⟨z, y⟩
        by_cases e : n = k
        · exact Or.inr e
        · exact Or.inl ⟨by omega, y⟩
    · rw [cif_f hp]
      simp only [Nat.zero_testBit, Bool.false_eq_true, or_false]
      constructor
      · intro z; exact ⟨by omega, z.2⟩
      · rintro ⟨z, y⟩
        by_cases e : n = k
        · subst e; exact absurd y hp
        · exact ⟨by omega, y⟩
theorem setN_lt (P : Nat → Prop) (n : Nat) : setN P n < 2 ^ n := by
  refine Nat.lt_pow_two_of_testBit _ (fun k hk => ?_)
  rw [← Bool.not_eq_true, setN_bit]
  intro z; omega
theorem lN_or (x y : Nat) : lN x ||| lN y = lN (x ||| y) := by
  apply Int64.toBitVec_inj.mp
  apply BitVec.eq_of_toNat_eq
  unfold lN
  simp [Int64.toBitVec_or, Nat.or_mod_two_pow]
/-- the times at which v hears by the sources below i -/
noncomputable def metS (s : SV) (v i : Nat) : Nat := setN (fun k => ∃ u, u < i ∧ ∃ o, reg s (2 ^ u) (wS s) 0 0 o ∧ tau s (2 ^ u) o v = k) 32
theorem metS_lt (s : SV) (v i : Nat) : metS s v i < 4294967296 := setN_lt _ 32
theorem metS_0 (s : SV) (v : Nat) : metS s v 0 = 0 := by
  apply Nat.eq_of_testBit_eq
  intro k
  rw [Bool.eq_iff_iff, metS, setN_bit]
  simp
theorem metS_s {s : SV} {v i : Nat} {a : ACC} (hv : v < 8) (hk : acOK a) (h : SR s (2 ^ i) (wS s) false a) : metS s v i ||| a.met v = metS s v (i + 1) := by
  obtain ⟨-, -, -, h4⟩ := h
  have h5 := (h4 rfl).2.2.2 v hv
  apply Nat.eq_of_testBit_eq
  intro k
  rw [Bool.eq_iff_iff, Nat.testBit_or, Bool.or_eq_true, metS, metS, setN_bit, setN_bit]
  have hlt : (a.met v).testBit k = true → k < 32 := fun z => by
    refine Classical.byContradiction fun y => ?_
    have h1 : a.met v < 2 ^ k := Nat.lt_of_lt_of_le (hk.2.2 v hv) (Nat.pow_le_pow_right (n := 2) (i := 32) (by omega) (by omega))
    rw [Nat.testBit_lt_two_pow h1] at z
    exact absurd z (by decide)
  constructor
  · rintro (⟨z, u, y, x⟩ | z)
    · exact ⟨z, u, by omega, x⟩
    · refine ⟨hlt z, i, by omega, ?_⟩
      rcases (h5 k).mp z with y | y
      · simp [ACC.met] at y
      · exact y
  · rintro ⟨z, u, y, x⟩
    by_cases e : u = i
    · subst e
      exact Or.inr ((h5 k).mpr (Or.inr x))
    · exact Or.inl ⟨z, u, by omega, x⟩
noncomputable def s_values (v : Int32) (g : SG) : Int32 × SG := (cif (inR v 0 7) (cif (g.now.S (cl v) = 100) (bcF (lN (metS g.now (cl v) 8))) (cif (0 < cntC g.now 8) 1 0)) (-2), g)
noncomputable def C_X3_values : CT := fun As X K => match As with
  | [.ref b, .int v] => b = 0 ∧ PubI (s_values v) X K
  | _ => False
set_option maxRecDepth 20000 in
set_option maxHeartbeats 4000000 in
theorem d_X3_values (l : Launch) : Does l yX3_values (wY yX3_values cX3_values 5 (retT 0)) (rmF 19) C_X3_values := does_of (rt := 0) (by decide +kernel) tkX3_values (calls := [(42, true, 1, 3, C_X3_isNode), (175, false, 1, 3, C_X3_candidates), (130, false, 2, 1, C_X1_wantAsSeen), (143, false, 4, 1, C_X1_search), (182, true, 1, 0, C_J13_bitCount_95d88)]) (List.forall_mem_cons.mpr ⟨cr_S (d_X3_isNode l) (by decide +kernel) (by decide +kernel) ⟨rfl, rfl⟩ ⟨Nat.le_of_ble_eq_true rfl, Nat.le_of_ble_eq_true rfl⟩, List.forall_mem_cons.mpr ⟨cr_V (d_X3_candidates l) rfl (by decide +kernel) (by decide +kernel) ⟨rfl, rfl⟩ ⟨Nat.le_of_ble_eq_true rfl, Nat.le_of_ble_eq_true rfl⟩, List.forall_mem_cons.mpr ⟨cr_NV (d_X1_wantAsSeen l) rfl (by decide +kernel) (by decide +kernel) (by decide +kernel) ⟨rfl, rfl⟩ ⟨Nat.le_of_ble_eq_true rfl, Nat.le_of_ble_eq_true rfl⟩, List.forall_mem_cons.mpr ⟨cr_NV (d_X1_search l) rfl (by decide +kernel) (by decide +kernel) (by decide +kernel) ⟨rfl, rfl⟩ ⟨Nat.le_of_ble_eq_true rfl, Nat.le_of_ble_eq_true rfl⟩, List.forall_mem_cons.mpr ⟨cr_S (d_J13_bitCount_95d88 l) (by decide +kernel) (by decide +kernel) ⟨rfl, rfl⟩ ⟨Nat.le_of_ble_eq_true rfl, Nat.le_of_ble_eq_true rfl⟩, fun _ h => absurd h List.not_mem_nil⟩⟩⟩⟩⟩) (by
  intro As X post hC
  unfold C_X3_values at hC
  split at hC
  next b v =>
    obtain ⟨rfl, g, hR0, hpost⟩ := hC
    refine ⟨Nat.le_of_ble_eq_true rfl, fun R hR => ?_⟩
    obtain ⟨⟨p0, p1, p2, p3, p4, p5, p6⟩, q0, q1, q2, q3, q4, q5, q6⟩ := sh_base
    obtain ⟨⟨p8, p9, p10, p11⟩, q8, q9, q10, q11⟩ := sh_sp
    obtain ⟨⟨w1, w2, w3, w4⟩, c1, c2, -⟩ := id hR0
    obtain ⟨d1, d2, d3, d4, d5⟩ := id c1
    have hw := hR0.1.1
    have ok := fun {r : Int32} => pub_same (r := r) hR0 hpost
    have key : inR v 0 7 → g.now.S (cl v) = 100 → ∀ k i Y, i + k = 8 → Fr spW X Y → WN Y (wS g.now) → R 53 [(0, .ref 0), (1, .int v), (2, .long (lN (metS g.now (cl v) i))), (4, .int (nI i))] [] Y := by
      intro hv hs k
      obtain ⟨-, h2, h3⟩ := inR_cl (lo := 0) (hi := 7) (by omega) hv
      induction k with
      | zero =>
        intro i Y hi hF hwn
        refine go hR [(53, [0, 1, 2, 4])] 2 ?_
        simp only [↓reduceIte, Nat.reduceEqDiff, Nat.reduceAdd, Nat.reduceLeDiff, reduceCtorEq, and_true, true_and, false_and, and_false, true_or, or_true, or_false, false_or, true_implies, false_implies, implies_true, not_true_eq_false, not_false_eq_true, eq_self, fx_s, ↓run_s, run_0, ↓rs_n, ↓rs_c, as_s, ls_n, ls_c, lc_s, lget_c, fX3_values_0, ↓ex_iload_n, ↓xI_i, ↓xIg_c, fX3_values_1, ↓ex_invokestatic, ↓xc_0, ↓xc_s, ↓xc_1, ↓pk_s, ↓k_s, ↓k_n, catS_n, catS_c, rOk_c, ct_i, ct_l, ct_r, ↓pk_t, fX3_values_4, ↓ex_ifCond_ne, ↓s1I_c, fX3_values_7, ↓ex_bipush, fX3_values_9, ↓ex_ireturn, ↓rt_i, fX3_values_10, ↓ex_aload_n, ↓xR_r, ↓xRg_c, fX3_values_11, ↓ex_getfield, ↓s1R_c, ↓fv_3_0, fX3_values_14, ↓fv_0_6, fX3_values_17, fX3_values_18, ↓ex_iaload, ↓sRI_c, ↓scrR_n, fX3_values_19, fX3_values_21, ↓ex_if_icmp_eq, ↓s2I_c, fX3_values_24, fX3_values_25, ↓ex_invokevirtual, ↓pk_f, fX3_values_28, ↓ex_ifCond_le, fX3_values_31, ↓ex_iconst, fX3_values_32, ↓ex_goto, fX3_values_35, fX3_values_36, fX3_values_37, fX3_values_38, ↓fv_3_2, fX3_values_41, fX3_values_42, fX3_values_45, fX3_values_48, ↓ex_lconst, fX3_values_49, ↓ex_lstore_n, ↓s1L_c, ↓lsto_e, ↓lrmK_n, ↓lrmK_t, fX3_values_50, fX3_values_51, ↓ex_istore, ↓lrmK_f, fX3_values_53, ↓ex_iload, fX3_values_55, fX3_values_57, ↓ex_if_icmp_ge, fX3_values_60, fX3_values_61, fX3_values_64, fX3_values_65, fX3_values_68, fX3_values_69, fX3_values_71, ↓ex_ishl, fX3_values_72, fX3_values_73, fX3_values_76, ↓ex_lload_n, ↓xL_l, ↓xLg_c, fX3_values_77, fX3_values_78, fX3_values_81, ↓fv_1_6, fX3_values_84, fX3_values_85, ↓ex_laload, fX3_values_86, ↓ex_lor, ↓s2L_c, fX3_values_87, fX3_values_88, ↓ex_iinc, fX3_values_91, fX3_values_94, fX3_values_95, fX3_values_98, leI, nI_toInt (n := i) (by omega), tI_m5, tI_m4, tI_m3, tI_m2, tI_m1, tI_0, tI_1, tI_2, tI_3, tI_4, tI_5, tI_7, tI_8, tI_10, tI_12, tI_30, tI_31, tI_32, tI_47, tI_48, tI_57, tI_59, tI_42, tI_43, tI_45, tI_61, tI_62, tI_100, tI_120, tI_255, tI_1000]
        refine ⟨fun _ => ?_, fun z => absurd (by omega) z⟩
        refine go hR [(53, [0, 1, 2, 4])] 3 ?_
        simp only [↓reduceIte, Nat.reduceEqDiff, Nat.reduceAdd, Nat.reduceLeDiff, reduceCtorEq, and_true, true_and, false_and, and_false, true_or, or_true, or_false, false_or, true_implies, false_implies, implies_true, not_true_eq_false, not_false_eq_true, eq_self, fx_s, ↓run_s, run_0, ↓rs_n, ↓rs_c, as_s, ls_n, ls_c, lc_s, lget_c, fX3_values_0, ↓ex_iload_n, ↓xI_i, ↓xIg_c, fX3_values_1, ↓ex_invokestatic, ↓xc_0, ↓xc_s, ↓xc_1, ↓pk_s, ↓k_s, ↓k_n, catS_n, catS_c, rOk_c, ct_i, ct_l, ct_r, ↓pk_t, fX3_values_4, ↓ex_ifCond_ne, ↓s1I_c, fX3_values_7, ↓ex_bipush, fX3_values_9, ↓ex_ireturn, ↓rt_i, fX3_values_10, ↓ex_aload_n, ↓xR_r, ↓xRg_c, fX3_values_11, ↓ex_getfield, ↓s1R_c, ↓fv_3_0, fX3_values_14, ↓fv_0_6, fX3_values_17, fX3_values_18, ↓ex_iaload, ↓sRI_c, ↓scrR_n, fX3_values_19, fX3_values_21, ↓ex_if_icmp_eq, ↓s2I_c, fX3_values_24, fX3_values_25, ↓ex_invokevirtual, ↓pk_f, fX3_values_28, ↓ex_ifCond_le, fX3_values_31, ↓ex_iconst, fX3_values_32, ↓ex_goto, fX3_values_35, fX3_values_36, fX3_values_37, fX3_values_38, ↓fv_3_2, fX3_values_41, fX3_values_42, fX3_values_45, fX3_values_48, ↓ex_lconst, fX3_values_49, ↓ex_lstore_n, ↓s1L_c, ↓lsto_e, ↓lrmK_n, ↓lrmK_t, fX3_values_50, fX3_values_51, ↓ex_istore, ↓lrmK_f, fX3_values_53, ↓ex_iload, fX3_values_55, fX3_values_57, ↓ex_if_icmp_ge, fX3_values_60, fX3_values_61, fX3_values_64, fX3_values_65, fX3_values_68, fX3_values_69, fX3_values_71, ↓ex_ishl, fX3_values_72, fX3_values_73, fX3_values_76, ↓ex_lload_n, ↓xL_l, ↓xLg_c, fX3_values_77, fX3_values_78, fX3_values_81, ↓fv_1_6, fX3_values_84, fX3_values_85, ↓ex_laload, fX3_values_86, ↓ex_lor, ↓s2L_c, fX3_values_87, fX3_values_88, ↓ex_iinc, fX3_values_91, fX3_values_94, fX3_values_95, fX3_values_98, C_J13_bitCount_95d88]
        rw [show i = 8 by omega]
        have h := hpost Y (scrW hR0 hF) (FrM_W hF)
        unfold s_values at h
        rw [cif_t hv, cif_t hs] at h
        exact h
      | succ k ih =>
        intro i Y hi hF hwn
        refine go hR [(53, [0, 1, 2, 4])] 2 ?_
        simp only [↓reduceIte, Nat.reduceEqDiff, Nat.reduceAdd, Nat.reduceLeDiff, reduceCtorEq, and_true, true_and, false_and, and_false, true_or, or_true, or_false, false_or, true_implies, false_implies, implies_true, not_true_eq_false, not_false_eq_true, eq_self, fx_s, ↓run_s, run_0, ↓rs_n, ↓rs_c, as_s, ls_n, ls_c, lc_s, lget_c, fX3_values_0, ↓ex_iload_n, ↓xI_i, ↓xIg_c, fX3_values_1, ↓ex_invokestatic, ↓xc_0, ↓xc_s, ↓xc_1, ↓pk_s, ↓k_s, ↓k_n, catS_n, catS_c, rOk_c, ct_i, ct_l, ct_r, ↓pk_t, fX3_values_4, ↓ex_ifCond_ne, ↓s1I_c, fX3_values_7, ↓ex_bipush, fX3_values_9, ↓ex_ireturn, ↓rt_i, fX3_values_10, ↓ex_aload_n, ↓xR_r, ↓xRg_c, fX3_values_11, ↓ex_getfield, ↓s1R_c, ↓fv_3_0, fX3_values_14, ↓fv_0_6, fX3_values_17, fX3_values_18, ↓ex_iaload, ↓sRI_c, ↓scrR_n, fX3_values_19, fX3_values_21, ↓ex_if_icmp_eq, ↓s2I_c, fX3_values_24, fX3_values_25, ↓ex_invokevirtual, ↓pk_f, fX3_values_28, ↓ex_ifCond_le, fX3_values_31, ↓ex_iconst, fX3_values_32, ↓ex_goto, fX3_values_35, fX3_values_36, fX3_values_37, fX3_values_38, ↓fv_3_2, fX3_values_41, fX3_values_42, fX3_values_45, fX3_values_48, ↓ex_lconst, fX3_values_49, ↓ex_lstore_n, ↓s1L_c, ↓lsto_e, ↓lrmK_n, ↓lrmK_t, fX3_values_50, fX3_values_51, ↓ex_istore, ↓lrmK_f, fX3_values_53, ↓ex_iload, fX3_values_55, fX3_values_57, ↓ex_if_icmp_ge, fX3_values_60, fX3_values_61, fX3_values_64, fX3_values_65, fX3_values_68, fX3_values_69, fX3_values_71, ↓ex_ishl, fX3_values_72, fX3_values_73, fX3_values_76, ↓ex_lload_n, ↓xL_l, ↓xLg_c, fX3_values_77, fX3_values_78, fX3_values_81, ↓fv_1_6, fX3_values_84, fX3_values_85, ↓ex_laload, fX3_values_86, ↓ex_lor, ↓s2L_c, fX3_values_87, fX3_values_88, ↓ex_iinc, fX3_values_91, fX3_values_94, fX3_values_95, fX3_values_98, leI, nI_toInt (n := i) (by omega), tI_m5, tI_m4, tI_m3, tI_m2, tI_m1, tI_0, tI_1, tI_2, tI_3, tI_4, tI_5, tI_7, tI_8, tI_10, tI_12, tI_30, tI_31, tI_32, tI_47, tI_48, tI_57, tI_59, tI_42, tI_43, tI_45, tI_61, tI_62, tI_100, tI_120, tI_255, tI_1000]
        refine ⟨fun z => absurd z (by omega), fun _ => ?_⟩
        refine go hR [(53, [0, 1, 2, 4])] 40 ?_
        simp only [↓reduceIte, Nat.reduceEqDiff, Nat.reduceAdd, Nat.reduceLeDiff, reduceCtorEq, and_true, true_and, false_and, and_false, true_or, or_true, or_false, false_or, true_implies, false_implies, implies_true, not_true_eq_false, not_false_eq_true, eq_self, fx_s, ↓run_s, run_0, ↓rs_n, ↓rs_c, as_s, ls_n, ls_c, lc_s, lget_c, fX3_values_0, ↓ex_iload_n, ↓xI_i, ↓xIg_c, fX3_values_1, ↓ex_invokestatic, ↓xc_0, ↓xc_s, ↓xc_1, ↓pk_s, ↓k_s, ↓k_n, catS_n, catS_c, rOk_c, ct_i, ct_l, ct_r, ↓pk_t, fX3_values_4, ↓ex_ifCond_ne, ↓s1I_c, fX3_values_7, ↓ex_bipush, fX3_values_9, ↓ex_ireturn, ↓rt_i, fX3_values_10, ↓ex_aload_n, ↓xR_r, ↓xRg_c, fX3_values_11, ↓ex_getfield, ↓s1R_c, ↓fv_3_0, fX3_values_14, ↓fv_0_6, fX3_values_17, fX3_values_18, ↓ex_iaload, ↓sRI_c, ↓scrR_n, fX3_values_19, fX3_values_21, ↓ex_if_icmp_eq, ↓s2I_c, fX3_values_24, fX3_values_25, ↓ex_invokevirtual, ↓pk_f, fX3_values_28, ↓ex_ifCond_le, fX3_values_31, ↓ex_iconst, fX3_values_32, ↓ex_goto, fX3_values_35, fX3_values_36, fX3_values_37, fX3_values_38, ↓fv_3_2, fX3_values_41, fX3_values_42, fX3_values_45, fX3_values_48, ↓ex_lconst, fX3_values_49, ↓ex_lstore_n, ↓s1L_c, ↓lsto_e, ↓lrmK_n, ↓lrmK_t, fX3_values_50, fX3_values_51, ↓ex_istore, ↓lrmK_f, fX3_values_53, ↓ex_iload, fX3_values_55, fX3_values_57, ↓ex_if_icmp_ge, fX3_values_60, fX3_values_61, fX3_values_64, fX3_values_65, fX3_values_68, fX3_values_69, fX3_values_71, ↓ex_ishl, fX3_values_72, fX3_values_73, fX3_values_76, ↓ex_lload_n, ↓xL_l, ↓xLg_c, fX3_values_77, fX3_values_78, fX3_values_81, ↓fv_1_6, fX3_values_84, fX3_values_85, ↓ex_laload, fX3_values_86, ↓ex_lor, ↓s2L_c, fX3_values_87, fX3_values_88, ↓ex_iinc, fX3_values_91, fX3_values_94, fX3_values_95, fX3_values_98, p0, p8, q0, q8, ↓C_X1_search, shlN (e := i) (by omega), add1N, ↓reduceIte, not_true_eq_false, not_false_eq_true, false_implies, true_implies, implies_true, and_true, true_and, and_false, false_and, or_true, true_or, or_false, false_or, Classical.not_not, ite_true, ite_false]
        refine ⟨g.now, 2 ^ i, wS g.now, false, ⟨RS_W hR0.2.1 hF, hw.we, rfl, p2_255 (by omega), hwn, rfl⟩, fun Z a hZ hA hk hSR ht => ?_⟩
        have hm := hA.2.2.2.2 (cl v) (by omega)
        have e1 : v.toNatClampNeg = cl v := rfl
        rw [e1, hm, lN_or, metS_s (by omega) hk hSR]
        refine ⟨⟨q11, by rw [p11], by rw [p11]; show vp_in v 8; rw [h3]; exact vp_inN (by omega) (by omega)⟩, ih (i + 1) Z (by omega) (hF.tr (spT_W hZ)) (fun x hx => ?_)⟩
        rw [hZ.1 10 (by unfold spT; omega)]
        exact hwn x hx
    refine go hR [(53, [0, 1, 2, 4])] 60 ?_
    simp only [lv_args, ↓reduceIte, Nat.reduceEqDiff, Nat.reduceAdd, Nat.reduceLeDiff, reduceCtorEq, and_true, true_and, false_and, and_false, true_or, or_true, or_false, false_or, true_implies, false_implies, implies_true, not_true_eq_false, not_false_eq_true, eq_self, fx_s, ↓run_s, run_0, ↓rs_n, ↓rs_c, as_s, ls_n, ls_c, lc_s, lget_c, fX3_values_0, ↓ex_iload_n, ↓xI_i, ↓xIg_c, fX3_values_1, ↓ex_invokestatic, ↓xc_0, ↓xc_s, ↓xc_1, ↓pk_s, ↓k_s, ↓k_n, catS_n, catS_c, rOk_c, ct_i, ct_l, ct_r, ↓pk_t, fX3_values_4, ↓ex_ifCond_ne, ↓s1I_c, fX3_values_7, ↓ex_bipush, fX3_values_9, ↓ex_ireturn, ↓rt_i, fX3_values_10, ↓ex_aload_n, ↓xR_r, ↓xRg_c, fX3_values_11, ↓ex_getfield, ↓s1R_c, ↓fv_3_0, fX3_values_14, ↓fv_0_6, fX3_values_17, fX3_values_18, ↓ex_iaload, ↓sRI_c, ↓scrR_n, fX3_values_19, fX3_values_21, ↓ex_if_icmp_eq, ↓s2I_c, fX3_values_24, fX3_values_25, ↓ex_invokevirtual, ↓pk_f, fX3_values_28, ↓ex_ifCond_le, fX3_values_31, ↓ex_iconst, fX3_values_32, ↓ex_goto, fX3_values_35, fX3_values_36, fX3_values_37, fX3_values_38, ↓fv_3_2, fX3_values_41, fX3_values_42, fX3_values_45, fX3_values_48, ↓ex_lconst, fX3_values_49, ↓ex_lstore_n, ↓s1L_c, ↓lsto_e, ↓lrmK_n, ↓lrmK_t, fX3_values_50, fX3_values_51, ↓ex_istore, ↓lrmK_f, fX3_values_53, ↓ex_iload, fX3_values_55, fX3_values_57, ↓ex_if_icmp_ge, fX3_values_60, fX3_values_61, fX3_values_64, fX3_values_65, fX3_values_68, fX3_values_69, fX3_values_71, ↓ex_ishl, fX3_values_72, fX3_values_73, fX3_values_76, ↓ex_lload_n, ↓xL_l, ↓xLg_c, fX3_values_77, fX3_values_78, fX3_values_81, ↓fv_1_6, fX3_values_84, fX3_values_85, ↓ex_laload, fX3_values_86, ↓ex_lor, ↓s2L_c, fX3_values_87, fX3_values_88, ↓ex_iinc, fX3_values_91, fX3_values_94, fX3_values_95, fX3_values_98, p0, p1, p6, p8, q0, q1, q6, q8, ↓C_X3_isNode, ↓C_X1_wantAsSeen, ↓C_X3_candidates, b2i_0, Classical.not_not, ↓reduceIte, not_true_eq_false, not_false_eq_true, false_implies, true_implies, implies_true, and_true, true_and, and_false, false_and, or_true, true_or, or_false, false_or, Classical.not_not, ite_true, ite_false]
    by_cases hv : inR v 0 7
    case neg => (simp only [hv, ↓reduceIte, not_true_eq_false, not_false_eq_true, false_implies, true_implies, implies_true, and_true, true_and, and_false, false_and, or_true, true_or, or_false, false_or, Classical.not_not, ite_true, ite_false]; exact ok (by unfold s_values; rw [cif_f hv]))
    simp only [hv, ↓reduceIte, not_true_eq_false, not_false_eq_true, false_implies, true_implies, implies_true, and_true, true_and, and_false, false_and, or_true, true_or, or_false, false_or, Classical.not_not, ite_true, ite_false]
    obtain ⟨-, h2, h3⟩ := inR_cl (lo := 0) (hi := 7) (by omega) hv
    have h5 := d4 (cl v) (by omega)
    have e1 : v.toNatClampNeg = cl v := rfl
    refine ⟨by rw [h3]; exact vp_inN (by omega) (by omega), fun z => ?_, fun z => ?_⟩
    · have hs : g.now.S (cl v) = 100 := by rw [← h5]; exact z
      refine ⟨g.now, ⟨c1, hw.oks.2⟩, fun Y hY hwn => ?_⟩
      have h := key hv hs 8 0 Y (by omega) (sp10_W hY) hwn
      rw [metS_0] at h
      exact h
    · have hs : ¬ g.now.S (cl v) = 100 := fun y => z (by rw [e1]; exact h5.trans y)
      have h := fun Y hF => hpost Y (scrW hR0 hF) (FrM_W hF)
      unfold s_values at h
      rw [cif_t hv, cif_f hs] at h
      refine ⟨g, hR0, fun Y hF => ?_⟩
      have hc := cntC_le g.now 8
      have h1 := h Y hF
      rw [leI, nI_toInt (n := cntC g.now 8) (by omega)]
      refine ⟨fun y => ?_, fun y => ?_⟩
      · rw [cif_f (fun x => by have y1 : ((cntC g.now 8 : Nat) : Int) ≤ 0 := y; omega)] at h1; exact h1
      · rw [cif_t (Nat.pos_of_ne_zero (fun x => y (by rw [x]; decide)))] at h1; exact h1
  next => exact hC.elim)
end VALUES
