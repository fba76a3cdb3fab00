section MLOAD
theorem div8 : ∀ i, i < 64 → nI i / 8 = nI (i / 8) ∧ nI i - nI (i / 8) * 8 = nI (i % 8) := by decide +kernel
noncomputable def C_X4_readsAll : CT := fun As X K => match As with
  | [.ref r, .int real] => ∃ (n : Nat) (b : Nat → Int32) (s0 : SV), (r = 51 ∧ n ≤ 120 ∧ X.1 51 7 = nI n ∧ (∀ j, j < n → X.1 56 j = b j ∧ 0 ≤ (b j).toInt) ∧ RSf (X.1 52) s0 ∧ WF s0 ∧ (real = 0 ∨ real = 1)) ∧ ∀ X', frT real X X' →
    (∀ s', (rdR n b 120 s0 0).2 = some s' → (real = 1 → RSf (X'.1 52) s') → K (some (.int 1)) X') ∧ ((rdR n b 120 s0 0).2 = none → X'.1 51 8 = nI (rdR n b 120 s0 0).1 → K (some (.int 0)) X')
  | _ => False
set_option maxRecDepth 20000 in
set_option maxHeartbeats 4000000 in
theorem d_X4_readsAll (l : Launch) : Does l yX4_readsAll (wY yX4_readsAll cX4_readsAll 4 (retT 1)) (rmF 4) C_X4_readsAll := does_of (rt := 1) (by decide +kernel) tkX4_readsAll (calls := [(54, false, 3, 4, C_X4_between), (128, false, 2, 4, C_X4_readsItem), (111, false, 1, 4, C_X4_here), (118, false, 2, 4, C_X4_sign)]) (List.forall_mem_cons.mpr ⟨cr_V (d_X4_between l) rfl (by decide +kernel) (by decide +kernel) ⟨rfl, rfl⟩ ⟨Nat.le_of_ble_eq_true rfl, Nat.le_of_ble_eq_true rfl⟩, List.forall_mem_cons.mpr ⟨cr_V (d_X4_readsItem l) rfl (by decide +kernel) (by decide +kernel) ⟨rfl, rfl⟩ ⟨Nat.le_of_ble_eq_true rfl, Nat.le_of_ble_eq_true rfl⟩, List.forall_mem_cons.mpr ⟨cr_V (d_X4_here l) rfl (by decide +kernel) (by decide +kernel) ⟨rfl, rfl⟩ ⟨Nat.le_of_ble_eq_true rfl, Nat.le_of_ble_eq_true rfl⟩, List.forall_mem_cons.mpr ⟨cr_V (d_X4_sign l) rfl (by decide +kernel) (by decide +kernel) ⟨rfl, rfl⟩ ⟨Nat.le_of_ble_eq_true rfl, Nat.le_of_ble_eq_true rfl⟩, fun _ h => absurd h List.not_mem_nil⟩⟩⟩⟩) (by
  intro As X post hC
  unfold C_X4_readsAll at hC
  split at hC
  next r real =>
    obtain ⟨n, b, s0, ⟨rfl, hn120, x7, x56, hS0, hW0, hreal⟩, hpost⟩ := hC
    refine ⟨Nat.le_of_ble_eq_true rfl, fun R hR => ?_⟩
    obtain ⟨⟨p1, p2, p3, p4, p5, p6, p7⟩, q1, q2, q3, q4, q5, q6, q7⟩ := sh_m
    obtain ⟨G, hG⟩ : ∃ G, G = rdR n b 120 s0 0 := ⟨_, rfl⟩
    rw [← hG] at hpost
    have fin0 : ∀ p Y q, frT real X Y → TXm Y n b p → G = (p, none) → R 67 [(0, .ref 51), (1, .int real), (2, .int 0), (3, .int q)] [] Y := by
      intro p Y q hF hT hg
      rw [hg] at hpost
      refine go hR [] 60 ?_
      simp only [↓reduceIte, Nat.reduceEqDiff, Nat.reduceAdd, Nat.reduceLeDiff, reduceCtorEq, and_true, true_and, false_and, and_false, true_or, or_true, or_false, false_or, true_implies, false_implies, implies_true, not_true_eq_false, not_false_eq_true, eq_self, fx_s, ↓run_s, run_0, ↓rs_n, ↓rs_c, as_s, ls_n, ls_c, lc_s, lget_c, fX4_readsAll_0, ↓ex_aload_n, ↓xR_r, ↓xRg_c, fX4_readsAll_1, ↓ex_iconst, fX4_readsAll_2, ↓ex_putfield, ↓pf_4_8, fX4_readsAll_5, fX4_readsAll_6, fX4_readsAll_7, ↓ex_getfield, ↓s1R_c, ↓fv_4_0, fX4_readsAll_10, fX4_readsAll_11, ↓ex_iaload, ↓sRI_c, ↓scrR_n, fX4_readsAll_12, ↓pf_4_10, fX4_readsAll_15, fX4_readsAll_16, ↓ex_istore_n, ↓s1I_c, ↓lsto_e, ↓lrmK_n, ↓lrmK_f, ct_i, ct_l, ct_r, fX4_readsAll_17, ↓ex_iload_n, ↓xI_i, ↓xIg_c, fX4_readsAll_18, ↓ex_bipush, fX4_readsAll_20, ↓ex_if_icmp_ge, ↓s2I_c, fX4_readsAll_23, fX4_readsAll_24, ↓fv_4_9, fX4_readsAll_27, fX4_readsAll_28, fX4_readsAll_29, fX4_readsAll_30, fX4_readsAll_32, ↓ex_idiv, fX4_readsAll_33, fX4_readsAll_34, fX4_readsAll_36, ↓ex_irem, fX4_readsAll_37, ↓ex_invokevirtual, ↓xc_0, ↓xc_s, ↓xc_1, ↓pk_s, ↓k_s, ↓k_n, catS_n, catS_c, rOk_c, ↓pk_f, fX4_readsAll_40, fX4_readsAll_41, ↓ex_if_icmp_eq, fX4_readsAll_44, fX4_readsAll_45, ↓ex_goto, fX4_readsAll_48, fX4_readsAll_49, ↓ex_bastore, ↓sRII_c, fX4_readsAll_50, ↓ex_iinc, fX4_readsAll_53, fX4_readsAll_56, fX4_readsAll_57, fX4_readsAll_58, fX4_readsAll_61, fX4_readsAll_62, fX4_readsAll_63, fX4_readsAll_66, fX4_readsAll_67, fX4_readsAll_68, ↓ex_ifCond_eq, fX4_readsAll_71, fX4_readsAll_72, fX4_readsAll_73, fX4_readsAll_76, fX4_readsAll_77, fX4_readsAll_79, fX4_readsAll_82, fX4_readsAll_85, fX4_readsAll_86, fX4_readsAll_87, fX4_readsAll_90, fX4_readsAll_93, fX4_readsAll_94, fX4_readsAll_97, fX4_readsAll_98, fX4_readsAll_99, fX4_readsAll_100, fX4_readsAll_103, fX4_readsAll_104, fX4_readsAll_107, fX4_readsAll_108, ↓ex_ireturn, ↓rt_i, ↓reduceIte, not_true_eq_false, not_false_eq_true, false_implies, true_implies, implies_true, and_true, true_and, and_false, false_and, or_true, true_or, or_false, false_or, Classical.not_not, ite_true, ite_false]
      exact ⟨bl_0, (hpost Y hF).2 rfl hT.2.2.2.1⟩
    have key : ∀ k s p Y, frT real X Y → TXm Y n b (skp n b (n - p) p) → LKs Y s → (real = 1 → RSf (Y.1 52) s) → WF s → p ≤ n → n < p + 2 * k → G = cif (byA n b (skp n b (n - p) p) = 59) (rdR n b k s (skp n b (n - p) p + 1)) (cif (byA n b (skp n b (n - p) p) = -1) (skp n b (n - p) p, some s) (skp n b (n - p) p, none)) → R 67 [(0, .ref 51), (1, .int real), (2, .int 1), (3, .int (byA n b (skp n b (n - p) p)))] [] Y := by
      intro k
      induction k with
      | zero =>
        intro s p Y hF hT hL hS hW hp hk
        omega
      | succ k ih =>
        intro s p Y hF hT hL hS hW hp hk hg
        have e1 := skp_idem n b (n - p) p rfl
        have k1 := skp_at n b p hp
        obtain ⟨P, hP⟩ : ∃ P, P = skp n b (n - p) p := ⟨_, rfl⟩
        rw [← hP] at hT hg e1 k1 ⊢
        refine go hR [(67, [0, 1, 2, 3])] 80 ?_
        simp only [↓reduceIte, Nat.reduceEqDiff, Nat.reduceAdd, Nat.reduceLeDiff, reduceCtorEq, and_true, true_and, false_and, and_false, true_or, or_true, or_false, false_or, true_implies, false_implies, implies_true, not_true_eq_false, not_false_eq_true, eq_self, fx_s, ↓run_s, run_0, ↓rs_n, ↓rs_c, as_s, ls_n, ls_c, lc_s, lget_c, fX4_readsAll_0, ↓ex_aload_n, ↓xR_r, ↓xRg_c, fX4_readsAll_1, ↓ex_iconst, fX4_readsAll_2, ↓ex_putfield, ↓pf_4_8, fX4_readsAll_5, fX4_readsAll_6, fX4_readsAll_7, ↓ex_getfield, ↓s1R_c, ↓fv_4_0, fX4_readsAll_10, fX4_readsAll_11, ↓ex_iaload, ↓sRI_c, ↓scrR_n, fX4_readsAll_12, ↓pf_4_10, fX4_readsAll_15, fX4_readsAll_16, ↓ex_istore_n, ↓s1I_c, ↓lsto_e, ↓lrmK_n, ↓lrmK_f, ct_i, ct_l, ct_r, fX4_readsAll_17, ↓ex_iload_n, ↓xI_i, ↓xIg_c, fX4_readsAll_18, ↓ex_bipush, fX4_readsAll_20, ↓ex_if_icmp_ge, ↓s2I_c, fX4_readsAll_23, fX4_readsAll_24, ↓fv_4_9, fX4_readsAll_27, fX4_readsAll_28, fX4_readsAll_29, fX4_readsAll_30, fX4_readsAll_32, ↓ex_idiv, fX4_readsAll_33, fX4_readsAll_34, fX4_readsAll_36, ↓ex_irem, fX4_readsAll_37, ↓ex_invokevirtual, ↓xc_0, ↓xc_s, ↓xc_1, ↓pk_s, ↓k_s, ↓k_n, catS_n, catS_c, rOk_c, ↓pk_f, fX4_readsAll_40, fX4_readsAll_41, ↓ex_if_icmp_eq, fX4_readsAll_44, fX4_readsAll_45, ↓ex_goto, fX4_readsAll_48, fX4_readsAll_49, ↓ex_bastore, ↓sRII_c, fX4_readsAll_50, ↓ex_iinc, fX4_readsAll_53, fX4_readsAll_56, fX4_readsAll_57, fX4_readsAll_58, fX4_readsAll_61, fX4_readsAll_62, fX4_readsAll_63, fX4_readsAll_66, fX4_readsAll_67, fX4_readsAll_68, ↓ex_ifCond_eq, fX4_readsAll_71, fX4_readsAll_72, fX4_readsAll_73, fX4_readsAll_76, fX4_readsAll_77, fX4_readsAll_79, fX4_readsAll_82, fX4_readsAll_85, fX4_readsAll_86, fX4_readsAll_87, fX4_readsAll_90, fX4_readsAll_93, fX4_readsAll_94, fX4_readsAll_97, fX4_readsAll_98, fX4_readsAll_99, fX4_readsAll_100, fX4_readsAll_103, fX4_readsAll_104, fX4_readsAll_107, fX4_readsAll_108, ↓ex_ireturn, ↓rt_i, p1, q1, ↓C_X4_sign, ↓C_X4_readsItem, ↓C_X4_here, RdM, i10, ↓reduceIte, not_true_eq_false, not_false_eq_true, false_implies, true_implies, implies_true, and_true, true_and, and_false, false_and, or_true, true_or, or_false, false_or, Classical.not_not, ite_true, ite_false]
        refine ⟨fun z => ⟨bl_1, ?_⟩, fun z => ⟨n, b, P, ⟨hT, by decide⟩, fun y Z hZ hTZ => ?_, fun y Z hZ hTZ => ?_⟩⟩
        · rw [cif_f (by rw [z]; decide), cif_t z] at hg
          rw [hg] at hpost
          exact (hpost Y hF).1 s rfl hS
        · rw [e1] at y hTZ
          rw [cif_t y] at hg
          have hPn := byA_lt y (by decide)
          have g1 := hF.tr (hZ.T real)
          have k2 := skp_at n b (P + 1) (by omega)
          have hok := itR_ok k2.2 (skp_idem n b (n - (P + 1)) (P + 1) rfl) hW
          refine ⟨n, b, s, P + 1, ⟨hTZ, hZ.lk hL, hZ.sf hS, hW, hreal⟩, ?_⟩
          obtain ⟨r, hr⟩ : ∃ r, r = itR n b s (skp n b (n - (P + 1)) (P + 1)) := ⟨_, rfl⟩
          rw [← hr] at hok ⊢
          intro U hU hTU
          have g2 := g1.tr hU
          refine ⟨fun s' a1 a2 a3 => ⟨n, b, r.1, hTU, fun V hV hTV => ?_⟩, fun a1 => ⟨n, b, r.1, hTU, fun V hV hTV => ?_⟩⟩
          · have hok2 := hok.2.1 s' a1
            refine ih s' r.1 V (g2.tr (hV.T real)) hTV (hV.lk a2) (hV.sf a3) hok2.1 hok.1 (by omega) ?_
            rw [hg]
            exact rdR_some hr a1
          · rw [hok.2.2 a1] at hTV ⊢
            exact fin0 r.1 V _ (g2.tr (hV.T real)) hTV (by rw [hg, rdR_none hr a1])
        · rw [e1] at y hTZ
          rw [cif_f y, cif_f z] at hg
          refine ⟨n, b, P, hTZ, fun U hU hTU => ?_⟩
          rw [e1] at hTU ⊢
          exact fin0 P U _ ((hF.tr (hZ.T real)).tr (hU.T real)) hTU hg
    have init : ∀ k i Y, i + k = 64 → frT real X Y → Y.1 51 8 = nI 0 → Y.1 51 10 = nI s0.n → Y.1 52 = X.1 52 → (∀ q, q < i → Y.1 57 q = b2i (¬ fidx s0 (q / 8) (q % 8) = none)) → R 17 [(0, .ref 51), (1, .int real), (2, .int (nI i))] [] Y := by
      intro k
      induction k with
      | zero =>
        intro i Y hi hF y8 y10 y52 hq
        have hTY : TXm Y n b 0 := ⟨hn120, Nat.zero_le _, by rw [hF.2.1 7 (by decide) (by decide)]; exact x7, y8, fun j hj => by rw [hF.1.1 56 (by decide)]; exact x56 j hj⟩
        have hLY : LKs Y s0 := ⟨y10, fun u v hu hv => by rw [hq (8 * u + v) (by omega), show (8 * u + v) / 8 = u by omega, show (8 * u + v) % 8 = v by omega]⟩
        have hok := itR_ok (skp_at n b 0 (Nat.zero_le _)).2 (skp_idem n b (n - 0) 0 rfl) hW0
        obtain ⟨r, hr⟩ : ∃ r, r = itR n b s0 (skp n b (n - 0) 0) := ⟨_, rfl⟩
        rw [← hr] at hok
        refine go hR [(17, [0, 1, 2]), (67, [0, 1, 2, 3])] 80 ?_
        have c64 : ((64 : Int32) ≤ nI i) = (64 ≤ i) := propext (leN (a := 64) (by decide) (by omega))
        simp only [↓reduceIte, Nat.reduceEqDiff, Nat.reduceAdd, Nat.reduceLeDiff, reduceCtorEq, and_true, true_and, false_and, and_false, true_or, or_true, or_false, false_or, true_implies, false_implies, implies_true, not_true_eq_false, not_false_eq_true, eq_self, fx_s, ↓run_s, run_0, ↓rs_n, ↓rs_c, as_s, ls_n, ls_c, lc_s, lget_c, fX4_readsAll_0, ↓ex_aload_n, ↓xR_r, ↓xRg_c, fX4_readsAll_1, ↓ex_iconst, fX4_readsAll_2, ↓ex_putfield, ↓pf_4_8, fX4_readsAll_5, fX4_readsAll_6, fX4_readsAll_7, ↓ex_getfield, ↓s1R_c, ↓fv_4_0, fX4_readsAll_10, fX4_readsAll_11, ↓ex_iaload, ↓sRI_c, ↓scrR_n, fX4_readsAll_12, ↓pf_4_10, fX4_readsAll_15, fX4_readsAll_16, ↓ex_istore_n, ↓s1I_c, ↓lsto_e, ↓lrmK_n, ↓lrmK_f, ct_i, ct_l, ct_r, fX4_readsAll_17, ↓ex_iload_n, ↓xI_i, ↓xIg_c, fX4_readsAll_18, ↓ex_bipush, fX4_readsAll_20, ↓ex_if_icmp_ge, ↓s2I_c, fX4_readsAll_23, fX4_readsAll_24, ↓fv_4_9, fX4_readsAll_27, fX4_readsAll_28, fX4_readsAll_29, fX4_readsAll_30, fX4_readsAll_32, ↓ex_idiv, fX4_readsAll_33, fX4_readsAll_34, fX4_readsAll_36, ↓ex_irem, fX4_readsAll_37, ↓ex_invokevirtual, ↓xc_0, ↓xc_s, ↓xc_1, ↓pk_s, ↓k_s, ↓k_n, catS_n, catS_c, rOk_c, ↓pk_f, fX4_readsAll_40, fX4_readsAll_41, ↓ex_if_icmp_eq, fX4_readsAll_44, fX4_readsAll_45, ↓ex_goto, fX4_readsAll_48, fX4_readsAll_49, ↓ex_bastore, ↓sRII_c, fX4_readsAll_50, ↓ex_iinc, fX4_readsAll_53, fX4_readsAll_56, fX4_readsAll_57, fX4_readsAll_58, fX4_readsAll_61, fX4_readsAll_62, fX4_readsAll_63, fX4_readsAll_66, fX4_readsAll_67, fX4_readsAll_68, ↓ex_ifCond_eq, fX4_readsAll_71, fX4_readsAll_72, fX4_readsAll_73, fX4_readsAll_76, fX4_readsAll_77, fX4_readsAll_79, fX4_readsAll_82, fX4_readsAll_85, fX4_readsAll_86, fX4_readsAll_87, fX4_readsAll_90, fX4_readsAll_93, fX4_readsAll_94, fX4_readsAll_97, fX4_readsAll_98, fX4_readsAll_99, fX4_readsAll_100, fX4_readsAll_103, fX4_readsAll_104, fX4_readsAll_107, fX4_readsAll_108, ↓ex_ireturn, ↓rt_i, p1, q1, c64, ↓C_X4_readsItem, ↓C_X4_here, RdM, i10, ↓reduceIte, not_true_eq_false, not_false_eq_true, false_implies, true_implies, implies_true, and_true, true_and, and_false, false_and, or_true, true_or, or_false, false_or, Classical.not_not, ite_true, ite_false]
        refine ⟨fun _ => ⟨n, b, s0, 0, ⟨hTY, hLY, fun _ => by rw [y52]; exact hS0, hW0, hreal⟩, ?_⟩, fun z => absurd (by omega) z⟩
        rw [← hr]
        intro U hU hTU
        have g2 := hF.tr hU
        refine ⟨fun s' a1 a2 a3 => ⟨n, b, r.1, hTU, fun V hV hTV => ?_⟩, fun a1 => ⟨n, b, r.1, hTU, fun V hV hTV => ?_⟩⟩
        · have hok2 := hok.2.1 s' a1
          refine key 119 s' r.1 V (g2.tr (hV.T real)) hTV (hV.lk a2) (hV.sf a3) hok2.1 hok.1 (by omega) ?_
          rw [hG]
          exact rdR_some (k := 119) hr a1
        · rw [hok.2.2 a1] at hTV ⊢
          exact fin0 r.1 V _ (g2.tr (hV.T real)) hTV (by rw [hG]; exact rdR_none (k := 119) hr a1)
      | succ k ih =>
        intro i Y hi hF y8 y10 y52 hq
        have c64 : ((64 : Int32) ≤ nI i) = (64 ≤ i) := propext (leN (a := 64) (by decide) (by omega))
        refine go hR [(17, [0, 1, 2]), (67, [0, 1, 2, 3])] 80 ?_
        simp only [↓reduceIte, Nat.reduceEqDiff, Nat.reduceAdd, Nat.reduceLeDiff, reduceCtorEq, and_true, true_and, false_and, and_false, true_or, or_true, or_false, false_or, true_implies, false_implies, implies_true, not_true_eq_false, not_false_eq_true, eq_self, fx_s, ↓run_s, run_0, ↓rs_n, ↓rs_c, as_s, ls_n, ls_c, lc_s, lget_c, fX4_readsAll_0, ↓ex_aload_n, ↓xR_r, ↓xRg_c, fX4_readsAll_1, ↓ex_iconst, fX4_readsAll_2, ↓ex_putfield, ↓pf_4_8, fX4_readsAll_5, fX4_readsAll_6, fX4_readsAll_7, ↓ex_getfield, ↓s1R_c, ↓fv_4_0, fX4_readsAll_10, fX4_readsAll_11, ↓ex_iaload, ↓sRI_c, ↓scrR_n, fX4_readsAll_12, ↓pf_4_10, fX4_readsAll_15, fX4_readsAll_16, ↓ex_istore_n, ↓s1I_c, ↓lsto_e, ↓lrmK_n, ↓lrmK_f, ct_i, ct_l, ct_r, fX4_readsAll_17, ↓ex_iload_n, ↓xI_i, ↓xIg_c, fX4_readsAll_18, ↓ex_bipush, fX4_readsAll_20, ↓ex_if_icmp_ge, ↓s2I_c, fX4_readsAll_23, fX4_readsAll_24, ↓fv_4_9, fX4_readsAll_27, fX4_readsAll_28, fX4_readsAll_29, fX4_readsAll_30, fX4_readsAll_32, ↓ex_idiv, fX4_readsAll_33, fX4_readsAll_34, fX4_readsAll_36, ↓ex_irem, fX4_readsAll_37, ↓ex_invokevirtual, ↓xc_0, ↓xc_s, ↓xc_1, ↓pk_s, ↓k_s, ↓k_n, catS_n, catS_c, rOk_c, ↓pk_f, fX4_readsAll_40, fX4_readsAll_41, ↓ex_if_icmp_eq, fX4_readsAll_44, fX4_readsAll_45, ↓ex_goto, fX4_readsAll_48, fX4_readsAll_49, ↓ex_bastore, ↓sRII_c, fX4_readsAll_50, ↓ex_iinc, fX4_readsAll_53, fX4_readsAll_56, fX4_readsAll_57, fX4_readsAll_58, fX4_readsAll_61, fX4_readsAll_62, fX4_readsAll_63, fX4_readsAll_66, fX4_readsAll_67, fX4_readsAll_68, ↓ex_ifCond_eq, fX4_readsAll_71, fX4_readsAll_72, fX4_readsAll_73, fX4_readsAll_76, fX4_readsAll_77, fX4_readsAll_79, fX4_readsAll_82, fX4_readsAll_85, fX4_readsAll_86, fX4_readsAll_87, fX4_readsAll_90, fX4_readsAll_93, fX4_readsAll_94, fX4_readsAll_97, fX4_readsAll_98, fX4_readsAll_99, fX4_readsAll_100, fX4_readsAll_103, fX4_readsAll_104, fX4_readsAll_107, fX4_readsAll_108, ↓ex_ireturn, ↓rt_i, p1, p7, q1, q7, c64, ↓C_X4_between, clampN (n := i) (by omega), (div8 i (by omega)).1, (div8 i (by omega)).2, add1N, ↓reduceIte, not_true_eq_false, not_false_eq_true, false_implies, true_implies, implies_true, and_true, true_and, and_false, false_and, or_true, true_or, or_false, false_or, Classical.not_not, ite_true, ite_false]
        have vi : vp_in (nI i) 64 := vp_inN (by omega) (by omega)
        have hn12 := hW0.1
        have hnx : ∀ v, v = b2i (¬ fidx s0 (i / 8) (i % 8) = none) → R 17 [(0, .ref 51), (1, .int real), (2, .int (nI (i + 1)))] [] (sI Y 57 i v) := by
          intro v hv
          refine ih (i + 1) _ (by omega) (hF.tr ⟨Fr.pI (P := fun k => k = 51 ∨ k = 52 ∨ k = 57) (Fr.rf _ _) (Or.inr (Or.inr rfl)) _ _, fun p _ hq => ?_, fun p _ => ?_, fun _ p => ?_⟩) ?_ ?_ ?_ (fun q hq2 => ?_)
          · rw [sI_1, if_neg (by decide)]
          · rw [sI_1, if_neg (by decide)]
          · rw [sI_1, if_neg (by decide)]
          · rw [sI_1, if_neg (by decide)]; exact y8
          · rw [sI_1, if_neg (by decide)]; exact y10
          · rw [sI_1, if_neg (by decide)]; exact y52
          · rw [sI_1, if_pos rfl, upd_a]
            by_cases c : q = i
            · rw [if_pos c, c]; exact hv
            · rw [if_neg c]; exact hq q (by omega)
        refine ⟨fun z => absurd z (by omega), fun _ => ⟨by decide, by decide, s0, i / 8, i % 8, ⟨by rw [y52]; exact hS0, hW0, rfl, rfl, by omega, by omega⟩, fun z => ⟨⟨vi, bl_0⟩, hnx 0 ?_⟩, fun z => ⟨⟨vi, bl_1⟩, hnx 1 ?_⟩⟩⟩
        · rw [oI_m1 (fun j h => (fidx_some h).1) (by omega)] at z
          rw [b2i_f (fun y => y z)]
        · rw [oI_m1 (fun j h => (fidx_some h).1) (by omega)] at z
          rw [b2i_t z]
    refine go hR [(17, [0, 1, 2])] 60 ?_
    simp only [lv_args, ↓reduceIte, Nat.reduceEqDiff, Nat.reduceAdd, Nat.reduceLeDiff, reduceCtorEq, and_true, true_and, false_and, and_false, true_or, or_true, or_false, false_or, true_implies, false_implies, implies_true, not_true_eq_false, not_false_eq_true, eq_self, fx_s, ↓run_s, run_0, ↓rs_n, ↓rs_c, as_s, ls_n, ls_c, lc_s, lget_c, fX4_readsAll_0, ↓ex_aload_n, ↓xR_r, ↓xRg_c, fX4_readsAll_1, ↓ex_iconst, fX4_readsAll_2, ↓ex_putfield, ↓pf_4_8, fX4_readsAll_5, fX4_readsAll_6, fX4_readsAll_7, ↓ex_getfield, ↓s1R_c, ↓fv_4_0, fX4_readsAll_10, fX4_readsAll_11, ↓ex_iaload, ↓sRI_c, ↓scrR_n, fX4_readsAll_12, ↓pf_4_10, fX4_readsAll_15, fX4_readsAll_16, ↓ex_istore_n, ↓s1I_c, ↓lsto_e, ↓lrmK_n, ↓lrmK_f, ct_i, ct_l, ct_r, fX4_readsAll_17, ↓ex_iload_n, ↓xI_i, ↓xIg_c, fX4_readsAll_18, ↓ex_bipush, fX4_readsAll_20, ↓ex_if_icmp_ge, ↓s2I_c, fX4_readsAll_23, fX4_readsAll_24, ↓fv_4_9, fX4_readsAll_27, fX4_readsAll_28, fX4_readsAll_29, fX4_readsAll_30, fX4_readsAll_32, ↓ex_idiv, fX4_readsAll_33, fX4_readsAll_34, fX4_readsAll_36, ↓ex_irem, fX4_readsAll_37, ↓ex_invokevirtual, ↓xc_0, ↓xc_s, ↓xc_1, ↓pk_s, ↓k_s, ↓k_n, catS_n, catS_c, rOk_c, ↓pk_f, fX4_readsAll_40, fX4_readsAll_41, ↓ex_if_icmp_eq, fX4_readsAll_44, fX4_readsAll_45, ↓ex_goto, fX4_readsAll_48, fX4_readsAll_49, ↓ex_bastore, ↓sRII_c, fX4_readsAll_50, ↓ex_iinc, fX4_readsAll_53, fX4_readsAll_56, fX4_readsAll_57, fX4_readsAll_58, fX4_readsAll_61, fX4_readsAll_62, fX4_readsAll_63, fX4_readsAll_66, fX4_readsAll_67, fX4_readsAll_68, ↓ex_ifCond_eq, fX4_readsAll_71, fX4_readsAll_72, fX4_readsAll_73, fX4_readsAll_76, fX4_readsAll_77, fX4_readsAll_79, fX4_readsAll_82, fX4_readsAll_85, fX4_readsAll_86, fX4_readsAll_87, fX4_readsAll_90, fX4_readsAll_93, fX4_readsAll_94, fX4_readsAll_97, fX4_readsAll_98, fX4_readsAll_99, fX4_readsAll_100, fX4_readsAll_103, fX4_readsAll_104, fX4_readsAll_107, fX4_readsAll_108, ↓ex_ireturn, ↓rt_i, p1, p2, q1, q2, vr_0, clamp0, sI_1, ↓reduceIte, not_true_eq_false, not_false_eq_true, false_implies, true_implies, implies_true, and_true, true_and, and_false, false_and, or_true, true_or, or_false, false_or, Classical.not_not, ite_true, ite_false]
    have f8 : frT real X (sI X 51 8 0) := (frT.rf real X).set8 0
    refine init 64 0 _ (by omega) (f8.tr ⟨Fr.pI (P := fun k => k = 51 ∨ k = 52 ∨ k = 57) (Fr.rf _ _) (Or.inl rfl) _ _, fun p _ hq => ?_, fun p _ => ?_, fun _ p => ?_⟩) ?_ ?_ ?_ (fun q hq => absurd hq (by omega))
    · rw [sI_1, if_pos rfl, upd_a, if_neg hq]
    · rw [sI_1, if_neg (by decide)]
    · rw [sI_1, if_neg (by decide)]
    · rw [sI_1, if_pos rfl, upd_a, if_neg (by decide), sI_1, if_pos rfl, upd_a, if_pos rfl]; rfl
    · rw [sI_1, if_pos rfl, upd_a, if_pos rfl]; exact hS0.1
    · rw [sI_1, if_neg (by decide), sI_1, if_neg (by decide)]
  next => exact hC.elim)
theorem RelM.frT0 {X X' : XT} {g : SG} (h : RelM X g) (hF : frT 0 X X') : RelM X' g := by
  obtain ⟨w, m1, m2, m3, m4, m5, m6⟩ := h
  have e52 : X'.1 52 = X.1 52 := funext (hF.2.2.2 rfl)
  have e56 := hF.1.1 56 (by decide)
  have e54 := hF.1.2.1 54 (by decide)
  unfold RelM
  rw [e52, e56, e54, hF.2.1 1 (by decide) (by decide), hF.2.1 2 (by decide) (by decide), hF.2.1 7 (by decide) (by decide)]
  exact ⟨w, m1, m2, m3, m4, m5, m6⟩
theorem frT.c {real : Int32} {X X' : XT} (h : frT real X X') : FrC X X' := FrC.of h.1 (fun k z => by omega)
noncomputable def C_X4_textFault : CT := fun As X K => match As with
  | [.ref b] => b = 51 ∧ PubMI s_textFault X K
  | _ => False
set_option maxRecDepth 20000 in
set_option maxHeartbeats 4000000 in
theorem d_X4_textFault (l : Launch) : Does l yX4_textFault (wY yX4_textFault cX4_textFault 1 (retT 0)) (rmF 5) C_X4_textFault := does_of (rt := 0) (by decide +kernel) tkX4_textFault (calls := [(132, false, 2, 4, C_X4_readsAll)]) (List.forall_mem_cons.mpr ⟨cr_V (d_X4_readsAll l) rfl (by decide +kernel) (by decide +kernel) ⟨rfl, rfl⟩ ⟨Nat.le_of_ble_eq_true rfl, Nat.le_of_ble_eq_true rfl⟩, fun _ h => absurd h List.not_mem_nil⟩) (by
  intro As X post hC
  unfold C_X4_textFault at hC
  split at hC
  next b =>
    obtain ⟨rfl, g, hR0, hpost⟩ := hC
    refine ⟨Nat.le_of_ble_eq_true rfl, fun R hR => ?_⟩
    obtain ⟨⟨p1, p2, p3, p4, p5, p6, p7⟩, q1, q2, q3, q4, q5, q6, q7⟩ := sh_m
    obtain ⟨⟨w1, w2, w3, w4, w5⟩, m1, m2, m3, m4, m5, m6⟩ := id hR0
    unfold s_textFault at hpost
    refine go hR [] 60 ?_
    simp only [lv_args, ↓reduceIte, Nat.reduceEqDiff, Nat.reduceAdd, Nat.reduceLeDiff, reduceCtorEq, and_true, true_and, false_and, and_false, true_or, or_true, or_false, false_or, true_implies, false_implies, implies_true, not_true_eq_false, not_false_eq_true, eq_self, fx_s, ↓run_s, run_0, ↓rs_n, ↓rs_c, as_s, ls_n, ls_c, lc_s, lget_c, fX4_textFault_0, ↓ex_aload_n, ↓xR_r, ↓xRg_c, fX4_textFault_1, ↓ex_iconst, fX4_textFault_2, ↓ex_invokevirtual, ↓xc_0, ↓xc_s, ↓xc_1, ↓pk_s, ↓k_s, ↓k_n, catS_n, catS_c, rOk_c, ct_i, ct_l, ct_r, ↓pk_f, fX4_textFault_5, ↓ex_ifCond_eq, ↓s1I_c, fX4_textFault_8, fX4_textFault_9, ↓ex_goto, fX4_textFault_12, fX4_textFault_13, ↓ex_getfield, ↓s1R_c, ↓fv_4_8, fX4_textFault_16, ↓ex_ireturn, ↓rt_i, p1, q1, ↓C_X4_readsAll, i10, ↓reduceIte, not_true_eq_false, not_false_eq_true, false_implies, true_implies, implies_true, and_true, true_and, and_false, false_and, or_true, true_or, or_false, false_or, Classical.not_not, ite_true, ite_false]
    refine ⟨g.size, g.bytes, g.now, ⟨w4, m4, fun j hj => ⟨m5 j hj, (w5 j hj).1⟩, m1, w1⟩, fun Y hF => ⟨fun s' h1 _ => ?_, fun h1 h2 => ?_⟩⟩
    · have := hpost Y (hR0.frT0 hF) hF.c
      rw [show (rdA (rdR g.size g.bytes 120 g.now 0), g).1 = -1 from rdA_some h1] at this
      exact this
    · have := hpost Y (hR0.frT0 hF) hF.c
      rw [show (rdA (rdR g.size g.bytes 120 g.now 0), g).1 = nI (rdR g.size g.bytes 120 g.now 0).1 from rdA_none h1] at this
      rw [h2]; exact this
  next => exact hC.elim)
noncomputable def C_X4_load : CT := fun As X K => match As with
  | [.ref b] => b = 51 ∧ PubMI s_load X K
  | _ => False
set_option maxRecDepth 20000 in
set_option maxHeartbeats 4000000 in
theorem d_X4_load (l : Launch) : Does l yX4_load (wY yX4_load cX4_load 2 (retT 0)) (rmF 5) C_X4_load := does_of (rt := 0) (by decide +kernel) tkX4_load (calls := [(132, false, 2, 4, C_X4_readsAll), (57, false, 1, 4, C_X4_saves)]) (List.forall_mem_cons.mpr ⟨cr_V (d_X4_readsAll l) rfl (by decide +kernel) (by decide +kernel) ⟨rfl, rfl⟩ ⟨Nat.le_of_ble_eq_true rfl, Nat.le_of_ble_eq_true rfl⟩, List.forall_mem_cons.mpr ⟨cr_V (d_X4_saves l) rfl (by decide +kernel) (by decide +kernel) ⟨rfl, rfl⟩ ⟨Nat.le_of_ble_eq_true rfl, Nat.le_of_ble_eq_true rfl⟩, fun _ h => absurd h List.not_mem_nil⟩⟩) (by
  intro As X post hC
  unfold C_X4_load at hC
  split at hC
  next b =>
    obtain ⟨rfl, g, hR0, hpost⟩ := hC
    refine ⟨Nat.le_of_ble_eq_true rfl, fun R hR => ?_⟩
    obtain ⟨⟨p1, p2, p3, p4, p5, p6, p7⟩, q1, q2, q3, q4, q5, q6, q7⟩ := sh_m
    obtain ⟨⟨w1, w2, w3, w4, w5⟩, m1, m2, m3, m4, m5, m6⟩ := id hR0
    unfold s_load at hpost
    have hok := rdR_ok (b := g.bytes) 120 g.now 0 (Nat.zero_le g.size) w1
    refine go hR [] 60 ?_
    simp only [lv_args, ↓reduceIte, Nat.reduceEqDiff, Nat.reduceAdd, Nat.reduceLeDiff, reduceCtorEq, and_true, true_and, false_and, and_false, true_or, or_true, or_false, false_or, true_implies, false_implies, implies_true, not_true_eq_false, not_false_eq_true, eq_self, fx_s, ↓run_s, run_0, ↓rs_n, ↓rs_c, as_s, ls_n, ls_c, lc_s, lget_c, fX4_load_0, ↓ex_aload_n, ↓xR_r, ↓xRg_c, fX4_load_1, ↓ex_iconst, fX4_load_2, ↓ex_invokevirtual, ↓xc_0, ↓xc_s, ↓xc_1, ↓pk_s, ↓k_s, ↓k_n, catS_n, catS_c, rOk_c, ct_i, ct_l, ct_r, ↓pk_f, fX4_load_5, ↓ex_ifCond_ne, ↓s1I_c, fX4_load_8, ↓ex_bipush, fX4_load_10, ↓ex_ireturn, ↓rt_i, fX4_load_11, fX4_load_12, fX4_load_15, fX4_load_16, fX4_load_17, fX4_load_20, ↓ex_istore_n, ↓lsto_e, ↓lrmK_n, ↓lrmK_f, fX4_load_21, fX4_load_22, ↓ex_getfield, ↓s1R_c, ↓fv_4_0, fX4_load_25, fX4_load_26, ↓ex_iaload, ↓sRI_c, ↓scrR_n, fX4_load_27, p1, p2, q1, q2, vr_0, clamp0, ↓C_X4_readsAll, ↓C_X4_saves, i10, ↓reduceIte, not_true_eq_false, not_false_eq_true, false_implies, true_implies, implies_true, and_true, true_and, and_false, false_and, or_true, true_or, or_false, false_or, Classical.not_not, ite_true, ite_false]
    refine ⟨g.size, g.bytes, g.now, ⟨w4, m4, fun j hj => ⟨m5 j hj, (w5 j hj).1⟩, m1, w1⟩, fun Y hF => ⟨fun s' h1 _ => ?_, fun h1 h2 => ?_⟩⟩
    · have hps : ldS g (rdR g.size g.bytes 120 g.now 0) = (nI s'.n, withS s' (s_rem g)) := by unfold ldS; rw [h1]
      rw [hps] at hpost
      refine ⟨g, hR0.frT0 hF, fun Z hZ hFZ hZ2 => ?_⟩
      have eg : (s_rem g).size = g.size ∧ (s_rem g).bytes = g.bytes := by unfold s_rem; split <;> exact ⟨rfl, rfl⟩
      obtain ⟨⟨v1, v2, v3, v4, v5⟩, z1, z2, z3, z4, z5, z6⟩ := id hZ
      have hZs := hZ.remNow
      rw [eg.1] at z4 z5
      rw [eg.2] at z5
      refine ⟨g.size, g.bytes, g.now, ⟨w4, z4, fun j hj => ⟨z5 j hj, (w5 j hj).1⟩, hZs, w1⟩, fun V hV => ⟨fun s'' h3 h4 => ?_, fun h3 => absurd (h1.symm.trans h3) (by simp)⟩⟩
      rw [h1] at h3
      cases h3
      have hVs := h4
      rw [hVs.1]
      refine hpost V ⟨⟨(hok.2 s' h1), v2, v3, v4, v5⟩, hVs, ?_, fun j hj => ?_, ?_, fun i hi => ?_, fun z => ?_⟩ ((hF.c.tr hFZ.c51).tr hV.c)
      · rw [hV.2.1 1 (by decide) (by decide)]; exact z2
      · exact (z3 j hj).cg (v3 j hj).1 (fun k hk => hV.2.2.1 _ (by omega))
      · rw [hV.2.1 7 (by decide) (by decide)]
        show Z.1 51 7 = nI (s_rem g).size
        rw [eg.1]; exact z4
      · rw [hV.1.1 56 (by decide)]
        have hi2 : i < (s_rem g).size := hi
        rw [eg.1] at hi2
        show Z.1 56 i = (s_rem g).bytes i
        rw [eg.2]; exact z5 i hi2
      · rw [hV.2.1 2 (by decide) (by decide), hZ2] at z
        exact absurd rfl z
    · have hpn : ldS g (rdR g.size g.bytes 120 g.now 0) = (-4, g) := by unfold ldS; rw [h1]
      rw [hpn] at hpost
      exact hpost Y (hR0.frT0 hF) hF.c
  next => exact hC.elim)
end MLOAD
