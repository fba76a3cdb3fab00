/-! The law's low(); what the class answers in its place. -/
section LAW0
def lowN (v : Int32) (n : Nat) : Nat := v.toBitVec.toNat % 2147483648 % n
theorem lowN_lt (v : Int32) {n : Nat} (h : 0 < n) : lowN v n < n := Nat.mod_lt _ h
def C_L_low : CT := fun As X K => match As with
  | [.int v, .int x] => 0 < x.toInt ∧ K (some (.int (nI (lowN v (cl x))))) X
  | _ => False
set_option maxRecDepth 20000 in
set_option maxHeartbeats 4000000 in
theorem d_L_low (l : Launch) : Does l yL_low (wY yL_low cL_low 2 (retT 0)) (rmF 0) C_L_low := does_of (rt := 0) (by decide +kernel) tkL_low (calls := []) (fun _ h => absurd h List.not_mem_nil) (by
  intro As X post hC
  unfold C_L_low at hC
  split at hC
  next v x =>
    obtain ⟨h0, hpost⟩ := hC
    refine ⟨Nat.le_of_ble_eq_true rfl, fun R hR => ?_⟩
    obtain ⟨-, h2, h3⟩ := inR_cl (a := x) (lo := 1) (hi := 2147483647) (by omega) ⟨by omega, by have := x.toInt_lt; omega⟩
    generalize cl x = n at h2 h3 hpost
    subst h3
    have hn : (nI n).toInt = n := nI_toInt (by omega)
    rw [hn] at h0
    have e1 : v &&& 2147483647 = nI (v.toBitVec.toNat % 2147483648) := pk_and v (m := 2147483647) 31 rfl
    have e2 : ¬ nI n = 0 := fun z => by
      rw [show (0 : Int32) = nI 0 from rfl, eqN (by omega) (by omega)] at z
      omega
    refine go hR [] 60 ?_
    simp only [lv_args, ↓reduceIte, Nat.reduceEqDiff, Nat.reduceAdd, Nat.reduceLeDiff, reduceCtorEq, and_true, true_and, false_and, and_false, true_or, or_true, or_false, false_or, true_implies, false_implies, implies_true, not_true_eq_false, not_false_eq_true, eq_self, fx_s, ↓run_s, run_0, ↓rs_n, ↓rs_c, as_s, ls_n, ls_c, lc_s, lget_c, fL_low_0, ↓ex_iload_n, ↓xI_i, ↓xIg_c, fL_low_1, ↓ex_ldc, fL_low_3, ↓ex_iand, ↓s2I_c, fL_low_4, fL_low_5, ↓ex_irem, fL_low_6, ↓ex_ireturn, ↓rt_i, e1, e2, pk_rem (a := v.toBitVec.toNat % 2147483648) (d := n) (by omega) (by omega) (by omega), ↓reduceIte, not_true_eq_false, not_false_eq_true, false_implies, true_implies, implies_true, and_true, true_and, and_false, false_and, or_true, true_or, or_false, false_or, Classical.not_not, ite_true, ite_false]
    exact hpost
  next => exact hC.elim)
theorem low_n (v : Int32) {n : Nat} (h0 : 0 < n) (h : n < 2147483648) (X : XT) (K : Option Value → XT → Prop) : C_L_low [.int v, .int (nI n)] X K = K (some (.int (nI (lowN v n)))) X := by
  unfold C_L_low
  show (0 < (nI n).toInt ∧ K (some (.int (nI (lowN v (cl (nI n)))))) X) = _
  rw [nI_toInt h, show cl (nI n) = n from clampN h]
  simp [h0]
theorem low_4 (v : Int32) (X : XT) (K : Option Value → XT → Prop) : C_L_low [.int v, .int 4] X K = K (some (.int (nI (lowN v 4)))) X := low_n v (by decide) (by decide) X K
theorem low_5 (v : Int32) (X : XT) (K : Option Value → XT → Prop) : C_L_low [.int v, .int 5] X K = K (some (.int (nI (lowN v 5)))) X := low_n v (by decide) (by decide) X K
theorem low_8 (v : Int32) (X : XT) (K : Option Value → XT → Prop) : C_L_low [.int v, .int 8] X K = K (some (.int (nI (lowN v 8)))) X := low_n v (by decide) (by decide) X K
theorem low_10 (v : Int32) (X : XT) (K : Option Value → XT → Prop) : C_L_low [.int v, .int 10] X K = K (some (.int (nI (lowN v 10)))) X := low_n v (by decide) (by decide) X K
theorem low_11 (v : Int32) (X : XT) (K : Option Value → XT → Prop) : C_L_low [.int v, .int 11] X K = K (some (.int (nI (lowN v 11)))) X := low_n v (by decide) (by decide) X K
theorem low_18 (v : Int32) (X : XT) (K : Option Value → XT → Prop) : C_L_low [.int v, .int 18] X K = K (some (.int (nI (lowN v 18)))) X := low_n v (by decide) (by decide) X K
theorem low_255 (v : Int32) (X : XT) (K : Option Value → XT → Prop) : C_L_low [.int v, .int 255] X K = K (some (.int (nI (lowN v 255)))) X := low_n v (by decide) (by decide) X K
theorem fa_and (a b : Nat) : nI a &&& nI b = nI (a &&& b) := by
  apply Int32.toBitVec_inj.1
  apply BitVec.eq_of_toNat_eq
  rw [Int32.toBitVec_and]
  show (BitVec.ofNat 32 a &&& BitVec.ofNat 32 b).toNat = (BitVec.ofNat 32 (a &&& b)).toNat
  simp [Nat.and_mod_two_pow]
theorem clN {n : Nat} (h : n < 2147483648) : cl (nI n) = n := clampN h
theorem inRN {n lo hi : Nat} (hn : n < 2147483648) : inR (nI n) lo hi ↔ lo ≤ n ∧ n ≤ hi := by
  unfold inR
  rw [nI_toInt hn]
  omega
theorem inM {m : Nat} (h1 : 1 ≤ m) (h2 : m ≤ 255) : inR (nI m) 1 255 := (inRN (lo := 1) (hi := 255) (by omega)).mpr ⟨h1, h2⟩
theorem inV {v : Nat} (h : v < 8) : inR (nI v) 0 7 := (inRN (lo := 0) (hi := 7) (by omega)).mpr ⟨by omega, by omega⟩
theorem isO_N {s : SV} (hn : s.n ≤ 12) {o : Nat} (h : o < 2147483648) : isO s (nI o) ↔ o < 2 ^ s.n := by
  unfold isO
  rw [nI_toInt h]
  omega
theorem ev_weight {g : SG} {o : Nat} (hn : g.now.n ≤ 12) (h : o < 2 ^ g.now.n) : s_weight (nI o) g = (lN (wtN g.now.W o g.now.n), g) := by
  have := p2_lt hn
  unfold s_weight
  rw [cif_t ((isO_N hn (by omega)).mpr h), clN (by omega)]
theorem ev_timeBy {g : SG} {m o v : Nat} (hn : g.now.n ≤ 12) (hm : 1 ≤ m ∧ m ≤ 255) (ho : o < 2 ^ g.now.n) (hv : v < 8) : s_timeBy (nI m) (nI o) (nI v) g = (tN (tau g.now m o v), g) := by
  have := p2_lt hn
  unfold s_timeBy
  rw [cif_t (inV hv), cif_t ⟨inM hm.1 hm.2, (isO_N hn (by omega)).mpr ho⟩, clN (by omega), clN (by omega), clN (by omega)]
theorem ev_fits {g : SG} {m o : Nat} (hn : g.now.n ≤ 12) (hm : 1 ≤ m ∧ m ≤ 255) (ho : o < 2 ^ g.now.n) : s_fits (nI m) (nI o) g = (b2i (fitW g.now m (wS g.now) o), g) := by
  have := p2_lt hn
  unfold s_fits
  rw [cif_t ⟨inM hm.1 hm.2, (isO_N hn (by omega)).mpr ho⟩, clN (by omega), clN (by omega)]
theorem ev_observed {g : SG} {v : Nat} (hv : v < 8) : s_observed (nI v) g = (g.now.S v, g) := by
  unfold s_observed
  rw [cif_t (inV hv), clN (by omega)]
theorem ev_likelihood {g : SG} {m : Nat} (hm : 1 ≤ m ∧ m ≤ 255) : s_likelihood (nI m) g = (lN (LK g.now m), g) := by
  unfold s_likelihood
  rw [cif_t (inM hm.1 hm.2), clN (by omega)]
theorem ev_reach {g : SG} {m : Nat} (hm : 1 ≤ m ∧ m ≤ 255) : s_reach (nI m) g = (lN (SH g.now m (fun _ => 100) 0 0), g) := by
  unfold s_reach
  rw [cif_t (inM hm.1 hm.2), clN (by omega)]
theorem ev_explanation {g : SG} {m : Nat} (hm : 1 ≤ m ∧ m ≤ 255) : s_explanation (nI m) g = (oI (exN g.now m (wS g.now) (2 ^ g.now.n)).2, g) := by
  unfold s_explanation
  rw [cif_t (inM hm.1 hm.2), clN (by omega)]
theorem ev_timeWeight {g : SG} {m v k : Nat} (hm : 1 ≤ m ∧ m ≤ 255) (hv : v < 8) (hk : k < 32) : s_timeWeight (nI m) (nI v) (tK k) g = (lN (SF g.now m (wOnly v (tK k)) 0 0), g) := by
  unfold s_timeWeight
  rw [cif_t (inV hv), cif_t ⟨inM hm.1 hm.2, tK_in hk⟩, clN (by omega), clN (by omega)]
theorem ev_observe {g : SG} {v k : Nat} (hv : v < 8) (hk : k < 32) : s_observe (nI v) (tK k) g = (g.now.S v, withS (s_see g.now v (tK k)) (s_rem g)) := by
  unfold s_observe
  rw [cif_t (inV hv), cif_t (tK_in hk), clN (by omega)]
theorem ev_belief {g : SG} {v : Nat} (hv : v < 8) : s_belief (nI v) g = (nI (bel g.now v), g) := by
  unfold s_belief
  rw [cif_t (inV hv), clN (by omega)]
  rfl
theorem ev_decoy {g : SG} {v : Nat} (hv : v < 8) : s_decoy (nI v) g = (oI (decF g.now v 8).1, g) := by
  unfold s_decoy
  rw [cif_t (inV hv), clN (by omega)]
theorem rem_k (g : SG) : ∃ k : Nat, (s_rem g).kept = k + 1 ∧ (s_rem g).hist k = g.now ∧ (k = g.kept ∨ k = 4) := by
  unfold s_rem
  split
  · exact ⟨4, rfl, rfl, Or.inr rfl⟩
  · exact ⟨g.kept, rfl, by show (if g.kept = g.kept then g.now else g.hist g.kept) = g.now; rw [if_pos rfl], Or.inl rfl⟩
/-- what was undone is as it was -/
theorem undo_rem (s : SV) {g : SG} (hg : g.kept ≤ 5) : ∃ (a : Int32) (g' : SG), s_undo (withS s (s_rem g)) = (a, g') ∧ 0 ≤ a.toInt ∧ g'.now = g.now := by
  obtain ⟨k, h1, h2, h3⟩ := rem_k g
  have hk : k ≤ 5 := by omega
  refine ⟨nI k, (g.now, k, (s_rem g).hist, (s_rem g).size, (s_rem g).bytes), ?_, ?_, rfl⟩
  · unfold s_undo
    have e1 : (withS s (s_rem g)).kept = k + 1 := h1
    have e2 : (withS s (s_rem g)).hist = (s_rem g).hist := rfl
    have e3 : (withS s (s_rem g)).size = (s_rem g).size := rfl
    have e4 : (withS s (s_rem g)).bytes = (s_rem g).bytes := rfl
    rw [cif_f (by rw [e1]; omega), e1, e2, e3, e4, show k + 1 - 1 = k by omega, h2]
  · rw [nI_toInt (by omega)]; omega
/-- a told time -/
theorem tN_0 {t : Nat} (h : t ≤ 31) : (tN t = 0) = (t = 0) := by
  unfold tN
  by_cases z : t = 31
  · rw [if_pos z]
    exact propext ⟨fun y => absurd y (by decide), fun y => by omega⟩
  · rw [if_neg z, show (0 : Int32) = nI 0 from rfl, eqN (by omega) (by omega)]
theorem tN_I {t : Nat} (h : t ≤ 31) : (tN t).toInt = if t = 31 then -1 else (t : Int) := by
  unfold tN
  split
  · rfl
  · exact nI_toInt (by omega)
theorem wS_eq {s : SV} (h : ∀ v, v < 8 → okS (s.S v)) {v t : Nat} (hv : v < 8) (ht : t ≤ 31) : (s.S v = 100 ∨ s.S v = tN t) ↔ (wS s v = 100 ∨ t = wS s v) := by
  have e := h v hv
  unfold wS
  rcases e with e | e | ⟨n, h1, e⟩
  · rw [e]
    have : wI (-1) = 31 := rfl
    rw [this]
    constructor
    · rintro (z | z)
      · exact absurd z (by decide)
      · right
        have := (eqI _ _).mp z
        rw [tN_I ht, tI_m1] at this
        split at this <;> omega
    · rintro (z | z)
      · omega
      · right; rw [z]; rfl
  · rw [e]
    exact ⟨fun _ => Or.inl rfl, fun _ => Or.inl rfl⟩
  · rw [e]
    have e2 : wI (nI n) = n := by
      have := wI_tN (t := n) (by omega)
      unfold tN at this
      rw [if_neg (by omega)] at this
      exact this
    rw [e2]
    constructor
    · rintro (z | z)
      · left
        rw [show (100 : Int32) = nI 100 from rfl, eqN (by omega) (by omega)] at z
        exact z
      · right
        have := (eqI _ _).mp z
        rw [tN_I ht, nI_toInt (by omega)] at this
        split at this <;> omega
    · rintro (z | z)
      · omega
      · right; unfold tN; rw [if_neg (by omega), z]
theorem nI_p1 {m : Nat} : nI m - 1 + 1 = nI m := by
  apply Int32.toBitVec_inj.1
  simp
end LAW0
