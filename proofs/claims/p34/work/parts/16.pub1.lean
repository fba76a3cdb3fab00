section PUB1
noncomputable def cif {α : Type} (P : Prop) (a b : α) : α := @ite α P (Classical.propDecidable P) a b
theorem cif_t {α : Type} {P : Prop} {a b : α} (h : P) : cif P a b = a := by unfold cif; exact if_pos h
theorem cif_f {α : Type} {P : Prop} {a b : α} (h : ¬ P) : cif P a b = b := by unfold cif; exact if_neg h
/-- a public call that answers and changes the state as sp says -/
def PubI (sp : SG → Int32 × SG) (X : XT) (K : Option Value → XT → Prop) : Prop := ∃ g, RelC X g ∧ ∀ X', RelC X' (sp g).2 → FrM X X' → K (some (.int (sp g).1)) X'
def PubL (sp : SG → Int64 × SG) (X : XT) (K : Option Value → XT → Prop) : Prop := ∃ g, RelC X g ∧ ∀ X', RelC X' (sp g).2 → FrM X X' → K (some (.long (sp g).1)) X'
theorem pub_same {sp : SG → Int32 × SG} {X : XT} {K : Option Value → XT → Prop} {g : SG} (hR : RelC X g) (hp : ∀ X', RelC X' (sp g).2 → FrM X X' → K (some (.int (sp g).1)) X') {r : Int32} (h : sp g = (r, g)) : K (some (.int r)) X := by
  have h2 := hp X (by rw [h]; exact hR) (FrM.rf X)
  rw [h] at h2
  exact h2
abbrev cl (a : Int32) : Nat := a.toNatClampNeg
theorem inR_cl {a : Int32} {lo hi : Nat} (hhi : hi < 2147483648) (h : inR a lo hi) : lo ≤ cl a ∧ cl a ≤ hi ∧ a = nI (cl a) := by
  obtain ⟨n, h1, h2, rfl⟩ := inR_N hhi h
  rw [show cl (nI n) = n from clampN (by omega)]
  exact ⟨h1, h2, rfl⟩
def withS (s : SV) (g : SG) : SG := (s, g.2)
def s_see (s : SV) (v : Nat) (t : Int32) : SV := (s.n, s.F, s.T, s.W, s.D, s.H, upd s.S v t, s.Q)
def s_hor (s : SV) (h : Nat) : SV := (s.n, s.F, s.T, s.W, s.D, h, s.S, s.Q)
def s_sen (s : SV) (q : Nat) : SV := (s.n, s.F, s.T, s.W, s.D, s.H, s.S, q)
theorem rem_now (g : SG) : (s_rem g).now = g.now := by unfold s_rem; split <;> rfl
noncomputable def s_addEdge (a c w d : Int32) (g : SG) : Int32 × SG := cif (inR a 0 7 ∧ inR c 0 7) (cif ((inR w 0 10 ∧ inR d 1 5) ∧ ¬ a = c) (cif (fidx g.now (cl a) (cl c) = none) (cif (g.now.n = 12) (-5, g) (nI g.now.n, withS (s_add g.now (cl a) (cl c) (cl w) (cl d)) (s_rem g))) (-4, g)) (-3, g)) (-2, g)
noncomputable def s_setEdge (e w d : Int32) (g : SG) : Int32 × SG := cif (0 ≤ e.toInt ∧ e.toInt < g.now.n) (cif (inR w 0 10 ∧ inR d 1 5) (nI (g.now.W (cl e)), withS (s_set g.now (cl e) (cl w) (cl d)) (s_rem g)) (-3, g)) (-2, g)
noncomputable def s_removeEdge (e : Int32) (g : SG) : Int32 × SG := cif (0 ≤ e.toInt ∧ e.toInt < g.now.n) (nI (g.now.n - 1), withS (s_drop g.now (cl e)) (s_rem g)) (-2, g)
def s_edges (g : SG) : Int32 × SG := (nI g.now.n, g)
noncomputable def s_edge (e w : Int32) (g : SG) : Int32 × SG := (cif (0 ≤ e.toInt ∧ e.toInt < g.now.n) (cif (w = 0) (nI (g.now.F (cl e))) (cif (w = 1) (nI (g.now.T (cl e))) (cif (w = 2) (nI (g.now.W (cl e))) (cif (w = 3) (nI (g.now.D (cl e))) (-3))))) (-2), g)
noncomputable def s_edgeBetween (a c : Int32) (g : SG) : Int32 × SG := (cif (inR a 0 7 ∧ inR c 0 7) (oI (fidx g.now (cl a) (cl c))) (-2), g)
noncomputable def s_setHorizon (h : Int32) (g : SG) : Int32 × SG := cif (inR h 0 30) (nI g.now.H, withS (s_hor g.now (cl h)) (s_rem g)) (-3, g)
noncomputable def s_observe (v t : Int32) (g : SG) : Int32 × SG := cif (inR v 0 7) (cif (inR t (-1) 30) (g.now.S (cl v), withS (s_see g.now (cl v) t) (s_rem g)) (-3, g)) (-2, g)
noncomputable def s_forget (v : Int32) (g : SG) : Int32 × SG := cif (inR v 0 7) (g.now.S (cl v), withS (s_see g.now (cl v) 100) (s_rem g)) (-2, g)
noncomputable def s_observed (v : Int32) (g : SG) : Int32 × SG := (cif (inR v 0 7) (g.now.S (cl v)) (-2), g)
noncomputable def s_setSensors (q : Int32) (g : SG) : Int32 × SG := cif (inR q 0 255) (nI g.now.Q, withS (s_sen g.now (cl q)) (s_rem g)) (-3, g)
/-- well-formedness stays -/
theorem WF_add {s : SV} (h : WF s) {a c w d : Nat} (ha : a < 8) (hc : c < 8) (hac : a ≠ c) (hw : w ≤ 10) (hd : 1 ≤ d ∧ d ≤ 5) (hn : s.n < 12) (hf : fidx s a c = none) : WF (s_add s a c w d) := by
  obtain ⟨h1, h2, h3, h4, h5, h6⟩ := h
  have hfn := fidx_none hf
  refine ⟨(by show s.n + 1 ≤ 12; omega), fun e he => ?_, fun i j hi hj e1 e2 => ?_, h4, h5, h6⟩
  · have he' : e < s.n + 1 := he
    show updN s.F s.n a e < 8 ∧ updN s.T s.n c e < 8 ∧ updN s.F s.n a e ≠ updN s.T s.n c e ∧ updN s.W s.n w e ≤ 10 ∧ 1 ≤ updN s.D s.n d e ∧ updN s.D s.n d e ≤ 5
    simp only [updN_a]
    by_cases z : e = s.n
    · simp only [if_pos z]; exact ⟨ha, hc, hac, hw, hd⟩
    · simp only [if_neg z]; exact h2 e (by omega)
  · have hi' : i < s.n + 1 := hi
    have hj' : j < s.n + 1 := hj
    have e1' : updN s.F s.n a i = updN s.F s.n a j := e1
    have e2' : updN s.T s.n c i = updN s.T s.n c j := e2
    simp only [updN_a] at e1' e2'
    by_cases zi : i = s.n
    · by_cases zj : j = s.n
      · omega
      · rw [if_pos zi, if_neg zj] at e1' e2'
        exact absurd ⟨e1'.symm, e2'.symm⟩ (hfn j (by omega))
    · by_cases zj : j = s.n
      · rw [if_neg zi, if_pos zj] at e1' e2'
        exact absurd ⟨e1', e2'⟩ (hfn i (by omega))
      · rw [if_neg zi, if_neg zj] at e1' e2'
        exact h3 i j (by omega) (by omega) e1' e2'
theorem WF_set {s : SV} (h : WF s) {j w d : Nat} (hw : w ≤ 10) (hd : 1 ≤ d ∧ d ≤ 5) : WF (s_set s j w d) := by
  obtain ⟨h1, h2, h3, h4, h5, h6⟩ := h
  refine ⟨h1, fun e he => ?_, h3, h4, h5, h6⟩
  obtain ⟨g1, g2, g3, g4, g5, g6⟩ := h2 e he
  refine ⟨g1, g2, g3, ?_⟩
  show updN s.W j w e ≤ 10 ∧ 1 ≤ updN s.D j d e ∧ updN s.D j d e ≤ 5
  simp only [updN_a]
  by_cases z : e = j
  · simp only [if_pos z]; exact ⟨hw, hd⟩
  · simp only [if_neg z]; exact ⟨g4, g5, g6⟩
theorem WF_drop {s : SV} (h : WF s) {k : Nat} (hk : k < s.n) : WF (s_drop s k) := by
  obtain ⟨h1, h2, h3, h4, h5, h6⟩ := h
  refine ⟨(by show s.n - 1 ≤ 12; omega), fun e he => ?_, fun i j hi hj e1 e2 => ?_, h4, h5, h6⟩
  · have he' : e < s.n - 1 := he
    show dn s.F k e < 8 ∧ dn s.T k e < 8 ∧ dn s.F k e ≠ dn s.T k e ∧ dn s.W k e ≤ 10 ∧ 1 ≤ dn s.D k e ∧ dn s.D k e ≤ 5
    unfold dn
    by_cases z : e < k
    · simp only [if_pos z]; exact h2 e (by omega)
    · simp only [if_neg z]; exact h2 (e + 1) (by omega)
  · have hi' : i < s.n - 1 := hi
    have hj' : j < s.n - 1 := hj
    have e1' : dn s.F k i = dn s.F k j := e1
    have e2' : dn s.T k i = dn s.T k j := e2
    unfold dn at e1' e2'
    by_cases zi : i < k <;> by_cases zj : j < k <;> simp only [zi, zj, if_true, if_false] at e1' e2'
    · exact h3 i j (by omega) (by omega) e1' e2'
    · have := h3 i (j + 1) (by omega) (by omega) e1' e2'; omega
    · have := h3 (i + 1) j (by omega) (by omega) e1' e2'; omega
    · have := h3 (i + 1) (j + 1) (by omega) (by omega) e1' e2'; omega
theorem WF_see {s : SV} (h : WF s) {v : Nat} {t : Int32} (ht : okS t) : WF (s_see s v t) := by
  obtain ⟨h1, h2, h3, h4, h5, h6⟩ := h
  refine ⟨h1, h2, h3, h4, fun u hu => ?_, h6⟩
  show okS (upd s.S v t u)
  rw [upd_a]
  split
  · exact ht
  · exact h5 u hu
theorem RS_see {X : XT} {b : Nat} {s : SV} (h : RS X b s) (v : Nat) (t : Int32) : RS (sI X (b + 5) v t) b (s_see s v t) := by
  obtain ⟨h1, h2, h3, h4, h5⟩ := h
  refine ⟨?_, fun e he => ?_, ?_, fun u hu => ?_, ?_⟩
  · simp [sI_1, h1, s_see, SV.n, SV.F, SV.T, SV.W, SV.D, SV.H, SV.S, SV.Q]
  · obtain ⟨g1, g2, g3, g4⟩ := h2 e he
    simp [sI_1, s_see, g1, g2, g3, g4, SV.n, SV.F, SV.T, SV.W, SV.D, SV.H, SV.S, SV.Q]
  · simp [sI_1, h3, s_see, SV.n, SV.F, SV.T, SV.W, SV.D, SV.H, SV.S, SV.Q]
  · by_cases z : u = v
    · simp [sI_1, upd_a, z, s_see, SV.n, SV.F, SV.T, SV.W, SV.D, SV.H, SV.S, SV.Q]
    · simp [sI_1, upd_a, z, s_see, h4 u hu, SV.n, SV.F, SV.T, SV.W, SV.D, SV.H, SV.S, SV.Q]
  · simp [sI_1, h5, s_see, SV.n, SV.F, SV.T, SV.W, SV.D, SV.H, SV.S, SV.Q]
theorem RS_hor {X : XT} {b : Nat} {s : SV} (h : RS X b s) (t : Nat) : RS (sI X b 5 (nI t)) b (s_hor s t) := by
  obtain ⟨h1, h2, h3, h4, h5⟩ := h
  refine ⟨?_, fun e he => ?_, ?_, fun u hu => ?_, ?_⟩
  · simp [sI_1, upd_a, h1, s_hor, SV.n, SV.F, SV.T, SV.W, SV.D, SV.H, SV.S, SV.Q]
  · obtain ⟨g1, g2, g3, g4⟩ := h2 e he
    simp [sI_1, s_hor, g1, g2, g3, g4, SV.n, SV.F, SV.T, SV.W, SV.D, SV.H, SV.S, SV.Q]
  · simp [sI_1, upd_a, s_hor, SV.n, SV.F, SV.T, SV.W, SV.D, SV.H, SV.S, SV.Q]
  · simp [sI_1, s_hor, h4 u hu, SV.n, SV.F, SV.T, SV.W, SV.D, SV.H, SV.S, SV.Q]
  · simp [sI_1, upd_a, h5, s_hor, SV.n, SV.F, SV.T, SV.W, SV.D, SV.H, SV.S, SV.Q]
theorem RS_sen {X : XT} {b : Nat} {s : SV} (h : RS X b s) (t : Nat) : RS (sI X b 7 (nI t)) b (s_sen s t) := by
  obtain ⟨h1, h2, h3, h4, h5⟩ := h
  refine ⟨?_, fun e he => ?_, ?_, fun u hu => ?_, ?_⟩
  · simp [sI_1, upd_a, h1, s_sen, SV.n, SV.F, SV.T, SV.W, SV.D, SV.H, SV.S, SV.Q]
  · obtain ⟨g1, g2, g3, g4⟩ := h2 e he
    simp [sI_1, s_sen, g1, g2, g3, g4, SV.n, SV.F, SV.T, SV.W, SV.D, SV.H, SV.S, SV.Q]
  · simp [sI_1, upd_a, h3, s_sen, SV.n, SV.F, SV.T, SV.W, SV.D, SV.H, SV.S, SV.Q]
  · simp [sI_1, s_sen, h4 u hu, SV.n, SV.F, SV.T, SV.W, SV.D, SV.H, SV.S, SV.Q]
  · simp [sI_1, upd_a, s_sen, SV.n, SV.F, SV.T, SV.W, SV.D, SV.H, SV.S, SV.Q]
theorem sc1 : isSc 1 := by unfold isSc; simp
theorem sh_base : (shp 0 = (3, 0) ∧ shp 1 = (0, 0) ∧ shp 2 = (5, 12) ∧ shp 3 = (5, 12) ∧ shp 4 = (5, 12) ∧ shp 5 = (5, 12) ∧ shp 6 = (5, 8)) ∧ 0 < NC ∧ 1 < NC ∧ 2 < NC ∧ 3 < NC ∧ 4 < NC ∧ 5 < NC ∧ 6 < NC := by decide
noncomputable def C_X3_addEdge : CT := fun As X K => match As with
  | [.ref b, .int a, .int c, .int w, .int d] => b = 0 ∧ PubI (s_addEdge a c w d) X K
  | _ => False
set_option maxRecDepth 20000 in
set_option maxHeartbeats 4000000 in
theorem d_X3_addEdge (l : Launch) : Does l yX3_addEdge (wY yX3_addEdge cX3_addEdge 5 (retT 0)) (rmF 2) C_X3_addEdge := does_of (rt := 0) (by decide +kernel) tkX3_addEdge (calls := [(42, true, 1, 3, C_X3_isNode), (46, true, 1, 3, C_X3_isTrust), (49, true, 1, 3, C_X3_isDelay), (52, false, 3, 0, C_X0_find), (56, false, 1, 0, C_X0_isFull), (60, false, 1, 3, C_X3_remember), (63, false, 5, 0, C_X0_put)]) (List.forall_mem_cons.mpr ⟨cr_S (d_X3_isNode l) (by decide +kernel) (by decide +kernel) ⟨rfl, rfl⟩ ⟨Nat.le_of_ble_eq_true rfl, Nat.le_of_ble_eq_true rfl⟩, List.forall_mem_cons.mpr ⟨cr_S (d_X3_isTrust l) (by decide +kernel) (by decide +kernel) ⟨rfl, rfl⟩ ⟨Nat.le_of_ble_eq_true rfl, Nat.le_of_ble_eq_true rfl⟩, List.forall_mem_cons.mpr ⟨cr_S (d_X3_isDelay l) (by decide +kernel) (by decide +kernel) ⟨rfl, rfl⟩ ⟨Nat.le_of_ble_eq_true rfl, Nat.le_of_ble_eq_true rfl⟩, List.forall_mem_cons.mpr ⟨cr_NV (d_X0_find l) rfl (by decide +kernel) (by decide +kernel) (by decide +kernel) ⟨rfl, rfl⟩ ⟨Nat.le_of_ble_eq_true rfl, Nat.le_of_ble_eq_true rfl⟩, List.forall_mem_cons.mpr ⟨cr_NV (d_X0_isFull l) rfl (by decide +kernel) (by decide +kernel) (by decide +kernel) ⟨rfl, rfl⟩ ⟨Nat.le_of_ble_eq_true rfl, Nat.le_of_ble_eq_true rfl⟩, List.forall_mem_cons.mpr ⟨cr_V (d_X3_remember l) rfl (by decide +kernel) (by decide +kernel) ⟨rfl, rfl⟩ ⟨Nat.le_of_ble_eq_true rfl, Nat.le_of_ble_eq_true rfl⟩, List.forall_mem_cons.mpr ⟨cr_NV (d_X0_put l) rfl (by decide +kernel) (by decide +kernel) (by decide +kernel) ⟨rfl, rfl⟩ ⟨Nat.le_of_ble_eq_true rfl, Nat.le_of_ble_eq_true rfl⟩, fun _ h => absurd h List.not_mem_nil⟩⟩⟩⟩⟩⟩⟩) (by
  intro As X post hC
  unfold C_X3_addEdge at hC
  split at hC
  next b a c w d =>
    obtain ⟨rfl, g, hR0, hpost⟩ := hC
    refine ⟨Nat.le_of_ble_eq_true rfl, fun R hR => ?_⟩
    obtain ⟨⟨p0, p1, p2, p3, p4, p5, p6⟩, q0, q1, q2, q3, q4, q5, q6⟩ := sh_base
    obtain ⟨⟨w1, w2, w3, w4⟩, c1, c2, -⟩ := id hR0
    have hn := w1.1
    refine go hR [] 200 ?_
    simp only [lv_args, ↓reduceIte, Nat.reduceEqDiff, Nat.reduceAdd, Nat.reduceLeDiff, reduceCtorEq, and_true, true_and, false_and, and_false, true_or, or_true, or_false, false_or, true_implies, false_implies, implies_true, not_true_eq_false, not_false_eq_true, eq_self, fx_s, ↓run_s, run_0, ↓rs_n, ↓rs_c, as_s, ls_n, ls_c, lc_s, lget_c, fX3_addEdge_0, ↓ex_iload_n, ↓xI_i, ↓xIg_c, fX3_addEdge_1, ↓ex_invokestatic, ↓xc_0, ↓xc_s, ↓xc_1, ↓pk_s, ↓k_s, ↓k_n, catS_n, catS_c, rOk_c, ct_i, ct_l, ct_r, ↓pk_t, fX3_addEdge_4, ↓ex_ifCond_eq, ↓s1I_c, fX3_addEdge_7, fX3_addEdge_8, fX3_addEdge_11, ↓ex_ifCond_ne, fX3_addEdge_14, ↓ex_bipush, fX3_addEdge_16, ↓ex_ireturn, ↓rt_i, fX3_addEdge_17, fX3_addEdge_18, fX3_addEdge_21, fX3_addEdge_24, ↓ex_iload, fX3_addEdge_26, fX3_addEdge_29, fX3_addEdge_32, fX3_addEdge_33, fX3_addEdge_34, ↓ex_if_icmp_ne, ↓s2I_c, fX3_addEdge_37, fX3_addEdge_39, fX3_addEdge_40, ↓ex_aload_n, ↓xR_r, ↓xRg_c, fX3_addEdge_41, ↓ex_getfield, ↓s1R_c, ↓fv_3_0, fX3_addEdge_44, fX3_addEdge_45, fX3_addEdge_46, ↓ex_invokevirtual, ↓pk_f, fX3_addEdge_49, ↓ex_iconst, fX3_addEdge_50, ↓ex_if_icmp_eq, fX3_addEdge_53, fX3_addEdge_55, fX3_addEdge_56, fX3_addEdge_57, fX3_addEdge_60, fX3_addEdge_63, fX3_addEdge_66, fX3_addEdge_68, fX3_addEdge_69, fX3_addEdge_70, fX3_addEdge_73, fX3_addEdge_74, fX3_addEdge_77, fX3_addEdge_78, fX3_addEdge_79, fX3_addEdge_80, fX3_addEdge_82, fX3_addEdge_85, p0, p1, q0, q1, ↓C_X3_isNode, ↓C_X3_isTrust, ↓C_X3_isDelay, ↓C_X0_find, ↓C_X0_isFull, ↓C_X3_remember, ↓C_X0_put, b2i_0, Classical.not_not]
    have ok := fun {r : Int32} => pub_same (r := r) hR0 hpost
    by_cases ha : inR a 0 7
    case neg => (simp only [ha, ↓reduceIte, not_true_eq_false, not_false_eq_true, false_implies, true_implies, implies_true, and_true, true_and, and_false, false_and, or_true, true_or, or_false, false_or, Classical.not_not, ite_true, ite_false]; exact ok (by unfold s_addEdge; rw [cif_f (fun z => ha z.1)]))
    by_cases hc : inR c 0 7
    case neg => (simp only [ha, hc, ↓reduceIte, not_true_eq_false, not_false_eq_true, false_implies, true_implies, implies_true, and_true, true_and, and_false, false_and, or_true, true_or, or_false, false_or, Classical.not_not, ite_true, ite_false]; exact ok (by unfold s_addEdge; rw [cif_f (fun z => hc z.2)]))
    by_cases hw : inR w 0 10
    case neg => (simp only [ha, hc, hw, ↓reduceIte, not_true_eq_false, not_false_eq_true, false_implies, true_implies, implies_true, and_true, true_and, and_false, false_and, or_true, true_or, or_false, false_or, Classical.not_not, ite_true, ite_false]; exact ok (by unfold s_addEdge; rw [cif_t ⟨ha, hc⟩, cif_f (fun z => hw z.1.1)]))
    by_cases hd : inR d 1 5
    case neg => (simp only [ha, hc, hw, hd, ↓reduceIte, not_true_eq_false, not_false_eq_true, false_implies, true_implies, implies_true, and_true, true_and, and_false, false_and, or_true, true_or, or_false, false_or, Classical.not_not, ite_true, ite_false]; exact ok (by unfold s_addEdge; rw [cif_t ⟨ha, hc⟩, cif_f (fun z => hd z.1.2)]))
    by_cases hac : a = c
    case pos => (simp only [ha, hc, hw, hd, hac, ↓reduceIte, not_true_eq_false, not_false_eq_true, false_implies, true_implies, implies_true, and_true, true_and, and_false, false_and, or_true, true_or, or_false, false_or, Classical.not_not, ite_true, ite_false]; exact ok (by unfold s_addEdge; rw [cif_t ⟨ha, hc⟩, cif_f (fun z => z.2 hac)]))
    simp only [ha, hc, hw, hd, hac, ↓reduceIte, not_true_eq_false, not_false_eq_true, false_implies, true_implies, implies_true, and_true, true_and, and_false, false_and, or_true, true_or, or_false, false_or, Classical.not_not, ite_true, ite_false]
    have hF : ∀ e, e < g.now.n → g.now.F e < 8 ∧ g.now.T e < 8 := fun e he => ⟨(w1.2.1 e he).1, (w1.2.1 e he).2.1⟩
    obtain ⟨-, ha2, ha3⟩ := inR_cl (lo := 0) (hi := 7) (by omega) ha
    obtain ⟨-, hc2, hc3⟩ := inR_cl (lo := 0) (hi := 7) (by omega) hc
    obtain ⟨-, hw2, hw3⟩ := inR_cl (lo := 0) (hi := 10) (by omega) hw
    obtain ⟨hd1, hd2, hd3⟩ := inR_cl (lo := 1) (hi := 5) (by omega) hd
    refine ⟨g.now, ⟨sc1, c1, hn⟩, ?_⟩
    rw [ha3, hc3, findS_N hF (by omega) (by omega), ← ha3, ← hc3, oI_m1 (fun j h => (fidx_some h).1) (by omega)]
    refine ⟨fun hf => ⟨g.now, ⟨sc1, c1, hn⟩, fun hfull => ⟨g, hR0, fun Y hY hFY => ?_⟩, fun h => ok (by unfold s_addEdge; rw [cif_t ⟨ha, hc⟩, cif_t ⟨⟨hw, hd⟩, hac⟩, cif_t hf, cif_t h])⟩, fun h => ok (by unfold s_addEdge; rw [cif_t ⟨ha, hc⟩, cif_t ⟨⟨hw, hd⟩, hac⟩, cif_f h])⟩
    have hsp : s_addEdge a c w d g = (nI g.now.n, withS (s_add g.now (cl a) (cl c) (cl w) (cl d)) (s_rem g)) := by unfold s_addEdge; rw [cif_t ⟨ha, hc⟩, cif_t ⟨⟨hw, hd⟩, hac⟩, cif_t hf, cif_f hfull]
    have hYs : RS Y 1 g.now := by have := hY.2.1; rw [rem_now] at this; exact this
    refine ⟨g.now, cl a, cl c, cl w, cl d, ⟨sc1, hYs, hn, hF, ha3, hc3, hw3, hd3, by omega, by omega, fun _ => by omega⟩, fun Z hZ hs => ?_⟩
    have e1 : s_put g.now (cl a) (cl c) (cl w) (cl d) = s_add g.now (cl a) (cl c) (cl w) (cl d) := by unfold s_put; rw [hf]
    have e2 : s_at g.now (cl a) (cl c) = g.now.n := by unfold s_at; rw [hf]; rfl
    rw [e1] at hs
    have hfin := hpost Z (by
      rw [hsp]
      exact hY.setNow hZ hs (WF_add w1 (by omega) (by omega) (fun z => hac (by rw [ha3, hc3, z])) hw2 ⟨hd1, hd2⟩ (by omega) hf)) (hFY.M.tr (FrM.of hZ (scn_lt sc1)))
    rw [hsp] at hfin
    rw [e2]
    exact hfin
  next => exact hC.elim)
noncomputable def C_X3_setEdge : CT := fun As X K => match As with
  | [.ref b, .int e, .int w, .int d] => b = 0 ∧ PubI (s_setEdge e w d) X K
  | _ => False
set_option maxRecDepth 20000 in
set_option maxHeartbeats 4000000 in
theorem d_X3_setEdge (l : Launch) : Does l yX3_setEdge (wY yX3_setEdge cX3_setEdge 5 (retT 0)) (rmF 2) C_X3_setEdge := does_of (rt := 0) (by decide +kernel) tkX3_setEdge (calls := [(67, false, 2, 0, C_X0_hasEdge), (46, true, 1, 3, C_X3_isTrust), (49, true, 1, 3, C_X3_isDelay), (60, false, 1, 3, C_X3_remember)]) (List.forall_mem_cons.mpr ⟨cr_NV (d_X0_hasEdge l) rfl (by decide +kernel) (by decide +kernel) (by decide +kernel) ⟨rfl, rfl⟩ ⟨Nat.le_of_ble_eq_true rfl, Nat.le_of_ble_eq_true rfl⟩, List.forall_mem_cons.mpr ⟨cr_S (d_X3_isTrust l) (by decide +kernel) (by decide +kernel) ⟨rfl, rfl⟩ ⟨Nat.le_of_ble_eq_true rfl, Nat.le_of_ble_eq_true rfl⟩, List.forall_mem_cons.mpr ⟨cr_S (d_X3_isDelay l) (by decide +kernel) (by decide +kernel) ⟨rfl, rfl⟩ ⟨Nat.le_of_ble_eq_true rfl, Nat.le_of_ble_eq_true rfl⟩, List.forall_mem_cons.mpr ⟨cr_V (d_X3_remember l) rfl (by decide +kernel) (by decide +kernel) ⟨rfl, rfl⟩ ⟨Nat.le_of_ble_eq_true rfl, Nat.le_of_ble_eq_true rfl⟩, fun _ h => absurd h List.not_mem_nil⟩⟩⟩⟩) (by
  intro As X post hC
  unfold C_X3_setEdge at hC
  split at hC
  next b e w d =>
    obtain ⟨rfl, g, hR0, hpost⟩ := hC
    refine ⟨Nat.le_of_ble_eq_true rfl, fun R hR => ?_⟩
    obtain ⟨⟨p0, p1, p2, p3, p4, p5, p6⟩, q0, q1, q2, q3, q4, q5, q6⟩ := sh_base
    obtain ⟨⟨w1, w2, w3, w4⟩, c1, c2, -⟩ := id hR0
    have hn := w1.1
    refine go hR [] 200 ?_
    simp only [lv_args, ↓reduceIte, Nat.reduceEqDiff, Nat.reduceAdd, Nat.reduceLeDiff, reduceCtorEq, and_true, true_and, false_and, and_false, true_or, or_true, or_false, false_or, true_implies, false_implies, implies_true, not_true_eq_false, not_false_eq_true, eq_self, fx_s, ↓run_s, run_0, ↓rs_n, ↓rs_c, as_s, ls_n, ls_c, lc_s, lget_c, fX3_setEdge_0, ↓ex_aload_n, ↓xR_r, ↓xRg_c, fX3_setEdge_1, ↓ex_getfield, ↓s1R_c, ↓fv_3_0, fX3_setEdge_4, ↓ex_iload_n, ↓xI_i, ↓xIg_c, fX3_setEdge_5, ↓ex_invokevirtual, ↓xc_0, ↓xc_s, ↓xc_1, ↓pk_s, ↓k_s, ↓k_n, catS_n, catS_c, rOk_c, ct_i, ct_l, ct_r, ↓pk_f, fX3_setEdge_8, ↓ex_ifCond_ne, ↓s1I_c, fX3_setEdge_11, ↓ex_bipush, fX3_setEdge_13, ↓ex_ireturn, ↓rt_i, fX3_setEdge_14, fX3_setEdge_15, ↓ex_invokestatic, ↓pk_t, fX3_setEdge_18, ↓ex_ifCond_eq, fX3_setEdge_21, fX3_setEdge_22, fX3_setEdge_25, fX3_setEdge_28, fX3_setEdge_30, fX3_setEdge_31, fX3_setEdge_32, fX3_setEdge_35, fX3_setEdge_36, fX3_setEdge_39, ↓fv_0_2, fX3_setEdge_42, fX3_setEdge_43, ↓ex_iaload, ↓sRI_c, ↓scrR_n, fX3_setEdge_44, ↓ex_istore, ↓lsto_e, ↓lrmK_n, ↓lrmK_f, fX3_setEdge_46, fX3_setEdge_47, fX3_setEdge_50, fX3_setEdge_53, fX3_setEdge_54, fX3_setEdge_55, ↓ex_iastore, ↓sRII_c, fX3_setEdge_56, fX3_setEdge_57, fX3_setEdge_60, ↓fv_0_3, fX3_setEdge_63, fX3_setEdge_64, fX3_setEdge_65, fX3_setEdge_66, ↓ex_iload, fX3_setEdge_68, p0, p1, p4, p5, q0, q1, q4, q5, ↓C_X0_hasEdge, ↓C_X3_isTrust, ↓C_X3_isDelay, ↓C_X3_remember, b2i_0, Classical.not_not]
    have ok := fun {r : Int32} => pub_same (r := r) hR0 hpost
    refine ⟨g.now, ⟨sc1, c1, hn⟩, ?_⟩
    by_cases he : 0 ≤ e.toInt ∧ e.toInt < (g.now.n : Int)
    case neg => (simp only [he, ↓reduceIte, not_true_eq_false, not_false_eq_true, false_implies, true_implies, implies_true, and_true, true_and, and_false, false_and, or_true, true_or, or_false, false_or, Classical.not_not, ite_true, ite_false]; exact ok (by unfold s_setEdge; rw [cif_f he]))
    by_cases hw : inR w 0 10
    case neg => (simp only [he, hw, ↓reduceIte, not_true_eq_false, not_false_eq_true, false_implies, true_implies, implies_true, and_true, true_and, and_false, false_and, or_true, true_or, or_false, false_or, Classical.not_not, ite_true, ite_false]; exact ok (by unfold s_setEdge; rw [cif_t he, cif_f (fun z => hw z.1)]))
    by_cases hd : inR d 1 5
    case neg => (simp only [he, hw, hd, ↓reduceIte, not_true_eq_false, not_false_eq_true, false_implies, true_implies, implies_true, and_true, true_and, and_false, false_and, or_true, true_or, or_false, false_or, Classical.not_not, ite_true, ite_false]; exact ok (by unfold s_setEdge; rw [cif_t he, cif_f (fun z => hd z.2)]))
    simp only [he, hw, hd, ↓reduceIte, not_true_eq_false, not_false_eq_true, false_implies, true_implies, implies_true, and_true, true_and, and_false, false_and, or_true, true_or, or_false, false_or, Classical.not_not, ite_true, ite_false]
    obtain ⟨-, hw2, hw3⟩ := inR_cl (lo := 0) (hi := 10) (by omega) hw
    obtain ⟨hd1, hd2, hd3⟩ := inR_cl (lo := 1) (hi := 5) (by omega) hd
    obtain ⟨-, he2, he3⟩ := inR_cl (lo := 0) (hi := 12) (by omega) (show inR e 0 12 from ⟨he.1, by omega⟩)
    have he4 : cl e < g.now.n := by have := nI_toInt (n := cl e) (by omega); rw [← he3] at this; omega
    refine ⟨g, hR0, fun Y hY hFY => ?_⟩
    have hsp : s_setEdge e w d g = (nI (g.now.W (cl e)), withS (s_set g.now (cl e) (cl w) (cl d)) (s_rem g)) := by unfold s_setEdge; rw [cif_t he, cif_t ⟨hw, hd⟩]
    have hYs : RS Y 1 g.now := by have := hY.2.1; rw [rem_now] at this; exact this
    have hve : vp_in e 12 := by rw [he3]; exact vp_inN (by omega) (by omega)
    refine ⟨hve, hve, hve, ?_⟩
    have hfr : Fr (scn 1) Y (sI (sI Y 4 (cl e) w) 5 (cl e) d) := (Fr.pI (Fr.rf _ Y) ⟨by omega, by omega⟩ _ _).pI ⟨by omega, by omega⟩ _ _
    have hfin := hpost (sI (sI Y 4 (cl e) w) 5 (cl e) d) (by
      rw [hsp]
      refine hY.setNow hfr ?_ (WF_set w1 hw2 ⟨hd1, hd2⟩)
      have := RS_set hYs (cl e) (cl w) (cl d)
      rw [← hw3, ← hd3] at this
      exact this) (hFY.M.tr (FrM.of hfr (scn_lt sc1)))
    rw [hsp] at hfin
    have e1 : Y.1 4 e.toNatClampNeg = nI (g.now.W (cl e)) := (hYs.2.1 (cl e) he4).2.2.1
    rw [e1]
    exact hfin
  next => exact hC.elim)
end PUB1
