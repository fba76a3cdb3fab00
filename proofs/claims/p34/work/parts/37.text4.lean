section TEXTR
noncomputable def rdR (n : Nat) (b : Nat → Int32) : Nat → SV → Nat → Rd
  | 0, s, i => (i, some s)
  | k + 1, s, i => match (itR n b s (skp n b (n - i) i)).2 with
    | none => ((itR n b s (skp n b (n - i) i)).1, none)
    | some s' => cif (byA n b (skp n b (n - (itR n b s (skp n b (n - i) i)).1) (itR n b s (skp n b (n - i) i)).1) = 59) (rdR n b k s' (skp n b (n - (itR n b s (skp n b (n - i) i)).1) (itR n b s (skp n b (n - i) i)).1 + 1))
      (cif (byA n b (skp n b (n - (itR n b s (skp n b (n - i) i)).1) (itR n b s (skp n b (n - i) i)).1) = -1) (skp n b (n - (itR n b s (skp n b (n - i) i)).1) (itR n b s (skp n b (n - i) i)).1, some s') (skp n b (n - (itR n b s (skp n b (n - i) i)).1) (itR n b s (skp n b (n - i) i)).1, none))
theorem rdR_some {n : Nat} {b : Nat → Int32} {k : Nat} {s s' : SV} {i : Nat} {r : Rd} (hr : r = itR n b s (skp n b (n - i) i)) (h : r.2 = some s') : rdR n b (k + 1) s i = cif (byA n b (skp n b (n - r.1) r.1) = 59) (rdR n b k s' (skp n b (n - r.1) r.1 + 1)) (cif (byA n b (skp n b (n - r.1) r.1) = -1) (skp n b (n - r.1) r.1, some s') (skp n b (n - r.1) r.1, none)) := by
  subst hr
  rw [rdR, h]
theorem rdR_none {n : Nat} {b : Nat → Int32} {k : Nat} {s : SV} {i : Nat} {r : Rd} (hr : r = itR n b s (skp n b (n - i) i)) (h : r.2 = none) : rdR n b (k + 1) s i = (r.1, none) := by
  subst hr
  rw [rdR, h]
theorem rdR_ok {n : Nat} {b : Nat → Int32} : ∀ k s i, i ≤ n → WF s → (rdR n b k s i).1 ≤ n ∧ ∀ s', (rdR n b k s i).2 = some s' → WF s' := by
  intro k
  induction k with
  | zero => intro s i hi hW; exact ⟨hi, fun s' h => (by cases h; exact hW)⟩
  | succ k ih =>
    intro s i hi hW
    have hok := itR_ok (skp_at n b i hi).2 (skp_idem n b (n - i) i rfl) hW
    obtain ⟨r, hr⟩ : ∃ r, r = itR n b s (skp n b (n - i) i) := ⟨_, rfl⟩
    rw [← hr] at hok
    have k1 := skp_at n b r.1 hok.1
    cases h : r.2 with
    | none => rw [rdR_none hr h]; exact ⟨hok.1, fun s' z => (by cases z)⟩
    | some s' =>
      have w := (hok.2.1 s' h).1
      rw [rdR_some hr h]
      by_cases c : byA n b (skp n b (n - r.1) r.1) = 59
      · rw [cif_t c]
        have := byA_lt c (by decide)
        exact ih s' _ (by omega) w
      · rw [cif_f c]
        by_cases d : byA n b (skp n b (n - r.1) r.1) = -1
        · rw [cif_t d]; exact ⟨k1.2, fun s' h => (by cases h; exact w)⟩
        · rw [cif_f d]; exact ⟨k1.2, fun s' h => (by cases h)⟩
def rdA (r : Rd) : Int32 := match r.2 with
  | some _ => -1
  | none => nI r.1
theorem rdA_some {r : Rd} {s : SV} (h : r.2 = some s) : rdA r = -1 := by unfold rdA; rw [h]
theorem rdA_none {r : Rd} (h : r.2 = none) : rdA r = nI r.1 := by unfold rdA; rw [h]
noncomputable def C_X2_read : CT := fun As X K => match As with
  | [.ref r, .ref o] => ∃ (n : Nat) (b : Nat → Int32) (s : SV), (r = 12 ∧ o = 1 ∧ n ≤ 120 ∧ X.1 12 1 = nI n ∧ (∀ j, j < n → X.1 13 j = b j) ∧ RS X 1 s ∧ WF s) ∧
    ∀ X', frD X X' → (∀ s', (rdR n b 120 s 0).2 = some s' → RS X' 14 s') → K (some (.int (rdA (rdR n b 120 s 0)))) X'
  | _ => False
set_option maxRecDepth 20000 in
set_option maxHeartbeats 4000000 in
theorem d_X2_read (l : Launch) : Does l yX2_read (wY yX2_read cX2_read 4 (retT 0)) (rmF 4) C_X2_read := does_of (rt := 0) (by decide +kernel) tkX2_read (calls := [(32, false, 2, 0, C_X0_copyFrom), (36, false, 1, 2, C_X2_readItem), (40, false, 1, 2, C_X2_readSemicolon)]) (List.forall_mem_cons.mpr ⟨cr_NV (d_X0_copyFrom l) rfl (by decide +kernel) (by decide +kernel) (by decide +kernel) ⟨rfl, rfl⟩ ⟨Nat.le_of_ble_eq_true rfl, Nat.le_of_ble_eq_true rfl⟩, List.forall_mem_cons.mpr ⟨cr_V (d_X2_readItem l) rfl (by decide +kernel) (by decide +kernel) ⟨rfl, rfl⟩ ⟨Nat.le_of_ble_eq_true rfl, Nat.le_of_ble_eq_true rfl⟩, List.forall_mem_cons.mpr ⟨cr_V (d_X2_readSemicolon l) rfl (by decide +kernel) (by decide +kernel) ⟨rfl, rfl⟩ ⟨Nat.le_of_ble_eq_true rfl, Nat.le_of_ble_eq_true rfl⟩, fun _ h => absurd h List.not_mem_nil⟩⟩⟩) (by
  intro As X post hC
  unfold C_X2_read at hC
  split at hC
  next r o =>
    obtain ⟨n, b, s0, ⟨rfl, rfl, hn, x1, x2, hS0, hW0⟩, hpost⟩ := hC
    refine ⟨Nat.le_of_ble_eq_true rfl, fun R hR => ?_⟩
    obtain ⟨⟨p0, p7, p12, p13⟩, q0, q7, q12, q13⟩ := sh_text
    have sc14 : isSc 14 := by unfold isSc; simp
    have fin0 : ∀ Y q, post (some (.int (Y.1 12 4))) Y → R 22 [(0, .ref 12), (2, .int 0), (3, .int q)] [] Y := by
      intro Y q hp
      refine go hR [] 60 ?_
      simp only [↓reduceIte, Nat.reduceEqDiff, Nat.reduceAdd, Nat.reduceLeDiff, reduceCtorEq, and_true, true_and, false_and, and_false, true_or, or_true, or_false, false_or, true_implies, false_implies, implies_true, not_true_eq_false, not_false_eq_true, eq_self, fx_s, ↓run_s, run_0, ↓rs_n, ↓rs_c, as_s, ls_n, ls_c, lc_s, lget_c, fX2_read_0, ↓ex_aload_n, ↓xR_r, ↓xRg_c, fX2_read_1, ↓ex_getfield, ↓s1R_c, ↓fv_2_2, fX2_read_4, fX2_read_5, ↓ex_invokevirtual, ↓xc_0, ↓xc_s, ↓xc_1, ↓pk_s, ↓k_s, ↓k_n, catS_n, catS_c, rOk_c, ct_i, ct_l, ct_r, ↓pk_f, fX2_read_8, fX2_read_9, ↓ex_iconst, fX2_read_10, ↓ex_putfield, ↓pf_2_3, fX2_read_13, fX2_read_14, fX2_read_15, ↓pf_2_4, fX2_read_18, fX2_read_19, ↓ex_istore_n, ↓s1I_c, ↓lsto_e, ↓lrmK_n, ↓lrmK_f, fX2_read_20, fX2_read_21, fX2_read_22, ↓ex_iload_n, ↓xI_i, ↓xIg_c, fX2_read_23, ↓ex_ifCond_eq, fX2_read_26, fX2_read_27, ↓ex_bipush, fX2_read_29, ↓ex_if_icmp_ge, ↓s2I_c, fX2_read_32, fX2_read_33, fX2_read_36, fX2_read_39, fX2_read_40, fX2_read_43, fX2_read_46, fX2_read_47, ↓ex_goto, fX2_read_50, fX2_read_51, fX2_read_52, ↓ex_iinc, fX2_read_55, fX2_read_58, fX2_read_59, ↓fv_2_4, fX2_read_62, ↓ex_ireturn, ↓rt_i, p12, q12, ↓reduceIte, not_true_eq_false, not_false_eq_true, false_implies, true_implies, implies_true, and_true, true_and, and_false, false_and, or_true, true_or, or_false, false_or, Classical.not_not, ite_true, ite_false]
      exact hp
    have key : ∀ k it s i Y, it + k = 120 → frD X Y → TXt Y n b i → RS Y 14 s → WF s → Y.1 12 4 = -1 → rdR n b k s i = rdR n b 120 s0 0 → R 22 [(0, .ref 12), (2, .int 1), (3, .int (nI it))] [] Y := by
      intro k
      induction k with
      | zero =>
        intro it s i Y hk hF hT hS hW hf he
        refine go hR [(22, [0, 2, 3])] 60 ?_
        simp only [↓reduceIte, Nat.reduceEqDiff, Nat.reduceAdd, Nat.reduceLeDiff, reduceCtorEq, and_true, true_and, false_and, and_false, true_or, or_true, or_false, false_or, true_implies, false_implies, implies_true, not_true_eq_false, not_false_eq_true, eq_self, fx_s, ↓run_s, run_0, ↓rs_n, ↓rs_c, as_s, ls_n, ls_c, lc_s, lget_c, fX2_read_0, ↓ex_aload_n, ↓xR_r, ↓xRg_c, fX2_read_1, ↓ex_getfield, ↓s1R_c, ↓fv_2_2, fX2_read_4, fX2_read_5, ↓ex_invokevirtual, ↓xc_0, ↓xc_s, ↓xc_1, ↓pk_s, ↓k_s, ↓k_n, catS_n, catS_c, rOk_c, ct_i, ct_l, ct_r, ↓pk_f, fX2_read_8, fX2_read_9, ↓ex_iconst, fX2_read_10, ↓ex_putfield, ↓pf_2_3, fX2_read_13, fX2_read_14, fX2_read_15, ↓pf_2_4, fX2_read_18, fX2_read_19, ↓ex_istore_n, ↓s1I_c, ↓lsto_e, ↓lrmK_n, ↓lrmK_f, fX2_read_20, fX2_read_21, fX2_read_22, ↓ex_iload_n, ↓xI_i, ↓xIg_c, fX2_read_23, ↓ex_ifCond_eq, fX2_read_26, fX2_read_27, ↓ex_bipush, fX2_read_29, ↓ex_if_icmp_ge, ↓s2I_c, fX2_read_32, fX2_read_33, fX2_read_36, fX2_read_39, fX2_read_40, fX2_read_43, fX2_read_46, fX2_read_47, ↓ex_goto, fX2_read_50, fX2_read_51, fX2_read_52, ↓ex_iinc, fX2_read_55, fX2_read_58, fX2_read_59, ↓fv_2_4, fX2_read_62, ↓ex_ireturn, ↓rt_i, p12, q12, i10, leI, nI_toInt (n := it) (by omega), tI_m5, tI_m4, tI_m3, tI_m2, tI_m1, tI_0, tI_1, tI_2, tI_3, tI_4, tI_5, tI_7, tI_8, tI_10, tI_12, tI_30, tI_31, tI_32, tI_47, tI_48, tI_57, tI_59, tI_42, tI_43, tI_45, tI_61, tI_62, tI_100, tI_120, tI_255, tI_1000, hf, ↓C_X2_readItem, ↓reduceIte, not_true_eq_false, not_false_eq_true, false_implies, true_implies, implies_true, and_true, true_and, and_false, false_and, or_true, true_or, or_false, false_or, Classical.not_not, ite_true, ite_false]
        have h2 := hpost Y hF (fun s' z => by rw [← he] at z; cases z; exact hS)
        rw [← he] at h2
        exact ⟨fun _ => h2, fun z => absurd (by omega) z⟩
      | succ k ih =>
        intro it s i Y hk hF hT hS hW hf he
        have hok := itR_ok (skp_at n b i hT.2.1).2 (skp_idem n b (n - i) i rfl) hW
        obtain ⟨r, hr⟩ : ∃ r, r = itR n b s (skp n b (n - i) i) := ⟨_, rfl⟩
        rw [← hr] at hok
        refine go hR [(22, [0, 2, 3])] 60 ?_
        simp only [↓reduceIte, Nat.reduceEqDiff, Nat.reduceAdd, Nat.reduceLeDiff, reduceCtorEq, and_true, true_and, false_and, and_false, true_or, or_true, or_false, false_or, true_implies, false_implies, implies_true, not_true_eq_false, not_false_eq_true, eq_self, fx_s, ↓run_s, run_0, ↓rs_n, ↓rs_c, as_s, ls_n, ls_c, lc_s, lget_c, fX2_read_0, ↓ex_aload_n, ↓xR_r, ↓xRg_c, fX2_read_1, ↓ex_getfield, ↓s1R_c, ↓fv_2_2, fX2_read_4, fX2_read_5, ↓ex_invokevirtual, ↓xc_0, ↓xc_s, ↓xc_1, ↓pk_s, ↓k_s, ↓k_n, catS_n, catS_c, rOk_c, ct_i, ct_l, ct_r, ↓pk_f, fX2_read_8, fX2_read_9, ↓ex_iconst, fX2_read_10, ↓ex_putfield, ↓pf_2_3, fX2_read_13, fX2_read_14, fX2_read_15, ↓pf_2_4, fX2_read_18, fX2_read_19, ↓ex_istore_n, ↓s1I_c, ↓lsto_e, ↓lrmK_n, ↓lrmK_f, fX2_read_20, fX2_read_21, fX2_read_22, ↓ex_iload_n, ↓xI_i, ↓xIg_c, fX2_read_23, ↓ex_ifCond_eq, fX2_read_26, fX2_read_27, ↓ex_bipush, fX2_read_29, ↓ex_if_icmp_ge, ↓s2I_c, fX2_read_32, fX2_read_33, fX2_read_36, fX2_read_39, fX2_read_40, fX2_read_43, fX2_read_46, fX2_read_47, ↓ex_goto, fX2_read_50, fX2_read_51, fX2_read_52, ↓ex_iinc, fX2_read_55, fX2_read_58, fX2_read_59, ↓fv_2_4, fX2_read_62, ↓ex_ireturn, ↓rt_i, p12, q12, i10, leI, nI_toInt (n := it) (by omega), tI_m5, tI_m4, tI_m3, tI_m2, tI_m1, tI_0, tI_1, tI_2, tI_3, tI_4, tI_5, tI_7, tI_8, tI_10, tI_12, tI_30, tI_31, tI_32, tI_47, tI_48, tI_57, tI_59, tI_42, tI_43, tI_45, tI_61, tI_62, tI_100, tI_120, tI_255, tI_1000, ↓C_X2_readItem, RdC, ↓C_X2_readSemicolon, add1N, ↓reduceIte, not_true_eq_false, not_false_eq_true, false_implies, true_implies, implies_true, and_true, true_and, and_false, false_and, or_true, true_or, or_false, false_or, Classical.not_not, ite_true, ite_false]
        refine ⟨fun z => absurd z (by omega), fun _ => ⟨n, b, s, i, ⟨hT, hS, hW⟩, ?_⟩⟩
        rw [← hr]
        intro Z hZ hTZ
        have f1 := hF.tr hZ
        refine ⟨fun s' hs' hSZ h4 => ⟨n, b, r.1, hTZ, fun z V hV hTV => ?_, fun z V hV hTV => ?_, fun z z2 V hV hTV hff => ?_⟩, fun hno h4 => ?_⟩
        · refine ih (it + 1) s' _ V (by omega) (f1.tr hV.D) hTV (hV.rs hSZ) (hok.2.1 s' hs').1 (by rw [hV.2 4 (by omega), h4, hf]) ?_
          rw [← he, rdR_some hr hs', cif_t z]
        · refine fin0 V _ ?_
          have e2 : rdR n b 120 s0 0 = (skp n b (n - r.1) r.1, some s') := by rw [← he, rdR_some hr hs', cif_f (by rw [z]; decide), cif_t z]
          rw [hV.2 4 (by omega), h4, hf]
          rw [e2] at hpost
          exact hpost V (f1.tr hV.D) (fun s'' y => by cases y; exact hV.rs hSZ)
        · refine fin0 V _ ?_
          have e2 : rdR n b 120 s0 0 = (skp n b (n - r.1) r.1, none) := by rw [← he, rdR_some hr hs', cif_f z, cif_f z2]
          rw [hff]
          rw [e2] at hpost
          exact hpost V (f1.tr hV.D) (fun s'' y => by cases y)
        · refine fin0 Z _ ?_
          have e2 : rdR n b 120 s0 0 = (r.1, none) := by rw [← he, rdR_none hr hno]
          rw [h4]
          rw [e2] at hpost
          exact hpost Z f1 (fun s'' y => by cases y)
    refine go hR [(22, [0, 2, 3])] 60 ?_
    simp only [lv_args, ↓reduceIte, Nat.reduceEqDiff, Nat.reduceAdd, Nat.reduceLeDiff, reduceCtorEq, and_true, true_and, false_and, and_false, true_or, or_true, or_false, false_or, true_implies, false_implies, implies_true, not_true_eq_false, not_false_eq_true, eq_self, fx_s, ↓run_s, run_0, ↓rs_n, ↓rs_c, as_s, ls_n, ls_c, lc_s, lget_c, fX2_read_0, ↓ex_aload_n, ↓xR_r, ↓xRg_c, fX2_read_1, ↓ex_getfield, ↓s1R_c, ↓fv_2_2, fX2_read_4, fX2_read_5, ↓ex_invokevirtual, ↓xc_0, ↓xc_s, ↓xc_1, ↓pk_s, ↓k_s, ↓k_n, catS_n, catS_c, rOk_c, ct_i, ct_l, ct_r, ↓pk_f, fX2_read_8, fX2_read_9, ↓ex_iconst, fX2_read_10, ↓ex_putfield, ↓pf_2_3, fX2_read_13, fX2_read_14, fX2_read_15, ↓pf_2_4, fX2_read_18, fX2_read_19, ↓ex_istore_n, ↓s1I_c, ↓lsto_e, ↓lrmK_n, ↓lrmK_f, fX2_read_20, fX2_read_21, fX2_read_22, ↓ex_iload_n, ↓xI_i, ↓xIg_c, fX2_read_23, ↓ex_ifCond_eq, fX2_read_26, fX2_read_27, ↓ex_bipush, fX2_read_29, ↓ex_if_icmp_ge, ↓s2I_c, fX2_read_32, fX2_read_33, fX2_read_36, fX2_read_39, fX2_read_40, fX2_read_43, fX2_read_46, fX2_read_47, ↓ex_goto, fX2_read_50, fX2_read_51, fX2_read_52, ↓ex_iinc, fX2_read_55, fX2_read_58, fX2_read_59, ↓fv_2_4, fX2_read_62, ↓ex_ireturn, ↓rt_i, p12, q12, ↓C_X0_copyFrom, ↓reduceIte, not_true_eq_false, not_false_eq_true, false_implies, true_implies, implies_true, and_true, true_and, and_false, false_and, or_true, true_or, or_false, false_or, Classical.not_not, ite_true, ite_false]
    refine ⟨by decide, s0, ⟨sc14, (by unfold isSc; simp), by decide, hS0, hW0.1⟩, fun Y hF hS => ?_⟩
    have e12 : Y.1 12 = X.1 12 := hF.1 12 (fun z => by unfold scn at z; omega)
    have e13 : Y.1 13 = X.1 13 := hF.1 13 (fun z => by unfold scn at z; omega)
    refine key 120 0 s0 0 _ (by omega) ⟨Fr.pI (P := fun k => k = 12 ∨ scn 14 k) (Fr.pI (P := fun k => k = 12 ∨ scn 14 k) (hF.mono (fun _ z => Or.inr z)) (Or.inl rfl) _ _) (Or.inl rfl) _ _, fun p hp hq => ?_⟩ ⟨hn, by omega, ?_, ?_, fun j hj => ?_⟩ (hS.fr1 (fun k hk => ?_)) hW0 ?_ rfl
    · simp [sI_1, upd_a, hp, hq, e12]
    · simp [sI_1, upd_a, e12, x1]
    · simp [sI_1, upd_a]; rfl
    · simp [sI_1, e13, x2 j hj]
    · have : ¬ k = 12 := by unfold scn at hk; omega
      simp [sI_1, this]
    · simp [sI_1, upd_a]
  next => exact hC.elim)
noncomputable def s_textFault (g : SG) : Int32 × SG := (rdA (rdR g.size g.bytes 120 g.now 0), g)
def ldS (g : SG) (r : Rd) : Int32 × SG := match r.2 with
  | some s' => (nI s'.n, withS s' (s_rem g))
  | none => (-4, g)
noncomputable def s_load (g : SG) : Int32 × SG := ldS g (rdR g.size g.bytes 120 g.now 0)
theorem RelC.D {X X' : XT} {g : SG} (h : RelC X g) (hF : frD X X') : RelC X' g := by
  obtain ⟨w, h1, h2, ⟨r, h3, h4⟩, h5, h6⟩ := h
  refine ⟨w, h1.fr hF.1 (fun k hk z => ?_), ?_, ⟨r, fun j hj => by rw [hF.1.2.2]; exact h3 j hj, fun j hj => (h4 j hj).fr hF.1 (fun k hk z => ?_)⟩, ?_, fun i hi => ?_⟩
  · unfold scn at hk z; omega
  · rw [hF.1.1 0 (fun z => by unfold scn at z; omega)]; exact h2
  · have := pastR_hi r j
    unfold scn at hk z
    omega
  · rw [hF.2 1 (by omega) (by omega)]; exact h5
  · rw [hF.1.1 13 (fun z => by unfold scn at z; omega)]; exact h6 i hi
theorem frD.M {X X' : XT} (h : frD X X') : FrM X X' := FrM.of h.1 (fun k hk => by unfold scn at hk; omega)
noncomputable def C_X3_load : CT := fun As X K => match As with
  | [.ref b] => b = 0 ∧ PubI s_load X K
  | _ => False
set_option maxRecDepth 20000 in
set_option maxHeartbeats 4000000 in
theorem d_X3_load (l : Launch) : Does l yX3_load (wY yX3_load cX3_load 1 (retT 0)) (rmF 5) C_X3_load := does_of (rt := 0) (by decide +kernel) tkX3_load (calls := [(197, false, 2, 2, C_X2_read), (60, false, 1, 3, C_X3_remember), (188, false, 2, 0, C_X0_copyFrom)]) (List.forall_mem_cons.mpr ⟨cr_NV (d_X2_read l) rfl (by decide +kernel) (by decide +kernel) (by decide +kernel) ⟨rfl, rfl⟩ ⟨Nat.le_of_ble_eq_true rfl, Nat.le_of_ble_eq_true rfl⟩, List.forall_mem_cons.mpr ⟨cr_V (d_X3_remember l) rfl (by decide +kernel) (by decide +kernel) ⟨rfl, rfl⟩ ⟨Nat.le_of_ble_eq_true rfl, Nat.le_of_ble_eq_true rfl⟩, List.forall_mem_cons.mpr ⟨cr_NV (d_X0_copyFrom l) rfl (by decide +kernel) (by decide +kernel) (by decide +kernel) ⟨rfl, rfl⟩ ⟨Nat.le_of_ble_eq_true rfl, Nat.le_of_ble_eq_true rfl⟩, fun _ h => absurd h List.not_mem_nil⟩⟩⟩) (by
  intro As X post hC
  unfold C_X3_load at hC
  split at hC
  next b =>
    obtain ⟨rfl, g, hR0, hpost⟩ := hC
    refine ⟨Nat.le_of_ble_eq_true rfl, fun R hR => ?_⟩
    obtain ⟨⟨p0, p7, p12, p13⟩, q0, q7, q12, q13⟩ := sh_text
    obtain ⟨⟨w1, w2, w3, w4, w5⟩, c1, c2, c3, c5, c6⟩ := id hR0
    obtain ⟨s0, s1, s2, s3, s4, s5, -⟩ := isSc_shp (b := 1) sc1
    obtain ⟨l0, l1, l2, l3, l4, l5⟩ := isSc_lt (b := 1) sc1
    have sc14 : isSc 14 := by unfold isSc; simp
    have hok := rdR_ok (b := g.bytes) 120 g.now 0 (Nat.zero_le g.size) w1
    unfold s_load at hpost
    obtain ⟨r, hr⟩ : ∃ r, r = rdR g.size g.bytes 120 g.now 0 := ⟨_, rfl⟩
    refine go hR [] 60 ?_
    simp only [lv_args, ↓reduceIte, Nat.reduceEqDiff, Nat.reduceAdd, Nat.reduceLeDiff, reduceCtorEq, and_true, true_and, false_and, and_false, true_or, or_true, or_false, false_or, true_implies, false_implies, implies_true, not_true_eq_false, not_false_eq_true, eq_self, fx_s, ↓run_s, run_0, ↓rs_n, ↓rs_c, as_s, ls_n, ls_c, lc_s, lget_c, fX3_load_0, ↓ex_aload_n, ↓xR_r, ↓xRg_c, fX3_load_1, ↓ex_getfield, ↓s1R_c, ↓fv_3_3, fX3_load_4, fX3_load_5, ↓fv_3_0, fX3_load_8, ↓ex_invokevirtual, ↓xc_0, ↓xc_s, ↓xc_1, ↓pk_s, ↓k_s, ↓k_n, catS_n, catS_c, rOk_c, ct_i, ct_l, ct_r, ↓pk_f, fX3_load_11, ↓ex_iconst, fX3_load_12, ↓ex_if_icmp_eq, ↓s2I_c, fX3_load_15, ↓ex_bipush, fX3_load_17, ↓ex_ireturn, ↓rt_i, fX3_load_18, fX3_load_19, fX3_load_22, fX3_load_23, fX3_load_26, fX3_load_27, fX3_load_30, ↓fv_2_2, fX3_load_33, fX3_load_36, fX3_load_37, fX3_load_40, ↓fv_0_4, fX3_load_43, p0, p12, q0, q12, s0, l0, ↓C_X2_read, ↓C_X3_remember, ↓C_X0_copyFrom, ↓reduceIte, not_true_eq_false, not_false_eq_true, false_implies, true_implies, implies_true, and_true, true_and, and_false, false_and, or_true, true_or, or_false, false_or, Classical.not_not, ite_true, ite_false]
    refine ⟨g.size, g.bytes, g.now, ⟨w4, c5, c6, c1, w1⟩, fun Y hF hS => ?_⟩
    rw [← hr] at hS hpost hok ⊢
    cases h : r.2 with
    | none =>
      have hpn : ldS g r = (-4, g) := by unfold ldS; rw [h]
      rw [rdA_none h]
      rw [hpn] at hpost
      refine ⟨fun z => ?_, fun _ => hpost Y (hR0.D hF) hF.M⟩
      rw [eqI, nI_toInt (by omega), tI_m1] at z
      omega
    | some s' =>
      have hps : ldS g r = (nI s'.n, withS s' (s_rem g)) := by unfold ldS; rw [h]
      rw [rdA_some h]
      rw [hps] at hpost
      refine ⟨fun _ => ⟨g, hR0.D hF, fun Z hRZ hFZ => ⟨s', ⟨sc1, sc14, by decide, (hS s' h).fr1 (fun k hk => ?_), (hok.2 s' h).1⟩, fun V hV hSV => ?_⟩⟩, fun z => absurd rfl z⟩
      · exact (hFZ k (by unfold scn at hk; omega)).1
      · rw [hSV.1]
        exact hpost V (hRZ.setNow hV hSV (hok.2 s' h)) ((hF.M.tr hFZ.M).tr (FrM.of hV (scn_lt sc1)))
  next => exact hC.elim)
end TEXTR
