section VALUES
def bsh (a : Int64) (k : Int32) : Int64 := (a.toUInt64 >>> ((Int32.toInt64 k).toUInt64 &&& Int64.toUInt64 63)).toInt64
def bc1 (a : Int64) : Int64 := a - (bsh a 1 &&& 6148914691236517205)
def bc2 (a : Int64) : Int64 := (a &&& 3689348814741910323) + (bsh a 2 &&& 3689348814741910323)
def bc3 (a : Int64) : Int64 := (a + bsh a 4) &&& 1085102592571150095
def bc4 (a : Int64) : Int64 := a + bsh a 8
def bc5 (a : Int64) : Int64 := a + bsh a 16
def bc6 (a : Int64) : Int64 := a + bsh a 32
/-- how many bits of a are set, as the library counts them -/
def bcF (a : Int64) : Int32 := (bc6 (bc5 (bc4 (bc3 (bc2 (bc1 a)))))).toInt32 &&& 127
noncomputable def C_J13_bitCount_95d88 : CT := fun As X K => match As with
  | [.long a] => K (some (.int (bcF a))) X
  | _ => False
set_option maxRecDepth 20000 in
set_option maxHeartbeats 4000000 in
theorem d_J13_bitCount_95d88 (l : Launch) : Does l yJ13_bitCount_95d88 (wY yJ13_bitCount_95d88 cJ13_bitCount_95d88 2 (retT 0)) (rmF 0) C_J13_bitCount_95d88 := does_of (rt := 0) (by decide +kernel) tkJ13_bitCount_95d88 (calls := []) (fun _ h => absurd h List.not_mem_nil) (by
  intro As X post hC
  unfold C_J13_bitCount_95d88 at hC
  split at hC
  next a =>
    refine ⟨Nat.le_of_ble_eq_true rfl, fun R hR => ?_⟩
    refine go hR [] 70 ?_
    simp only [lv_args, ↓reduceIte, Nat.reduceEqDiff, Nat.reduceAdd, Nat.reduceLeDiff, reduceCtorEq, and_true, true_and, false_and, and_false, true_or, or_true, or_false, false_or, true_implies, false_implies, implies_true, not_true_eq_false, not_false_eq_true, eq_self, fx_s, ↓run_s, run_0, ↓rs_n, ↓rs_c, as_s, ls_n, ls_c, lc_s, lget_c, fJ13_bitCount_95d88_0, ↓ex_lload_n, ↓xL_l, ↓xLg_c, fJ13_bitCount_95d88_1, fJ13_bitCount_95d88_2, ↓ex_iconst, fJ13_bitCount_95d88_3, ↓ex_lushr, ↓sLI_c, fJ13_bitCount_95d88_4, ↓ex_ldc2_w, fJ13_bitCount_95d88_7, ↓ex_land, ↓s2L_c, fJ13_bitCount_95d88_8, ↓ex_lsub, fJ13_bitCount_95d88_9, ↓ex_lstore_n, ↓s1L_c, ↓lsto_e, ↓lrmK_n, ↓lrmK_t, ct_i, ct_l, ct_r, fJ13_bitCount_95d88_10, fJ13_bitCount_95d88_11, fJ13_bitCount_95d88_14, fJ13_bitCount_95d88_15, fJ13_bitCount_95d88_16, fJ13_bitCount_95d88_17, fJ13_bitCount_95d88_18, fJ13_bitCount_95d88_21, fJ13_bitCount_95d88_22, ↓ex_ladd, fJ13_bitCount_95d88_23, fJ13_bitCount_95d88_24, fJ13_bitCount_95d88_25, fJ13_bitCount_95d88_26, fJ13_bitCount_95d88_27, fJ13_bitCount_95d88_28, fJ13_bitCount_95d88_29, fJ13_bitCount_95d88_32, fJ13_bitCount_95d88_33, fJ13_bitCount_95d88_34, fJ13_bitCount_95d88_35, fJ13_bitCount_95d88_36, ↓ex_bipush, fJ13_bitCount_95d88_38, fJ13_bitCount_95d88_39, fJ13_bitCount_95d88_40, fJ13_bitCount_95d88_41, fJ13_bitCount_95d88_42, fJ13_bitCount_95d88_43, fJ13_bitCount_95d88_45, fJ13_bitCount_95d88_46, fJ13_bitCount_95d88_47, fJ13_bitCount_95d88_48, fJ13_bitCount_95d88_49, fJ13_bitCount_95d88_50, fJ13_bitCount_95d88_52, fJ13_bitCount_95d88_53, fJ13_bitCount_95d88_54, fJ13_bitCount_95d88_55, fJ13_bitCount_95d88_56, ↓ex_l2i, fJ13_bitCount_95d88_57, fJ13_bitCount_95d88_59, ↓ex_iand, ↓s2I_c, fJ13_bitCount_95d88_60, ↓ex_ireturn, ↓rt_i, ↓reduceIte, not_true_eq_false, not_false_eq_true, false_implies, true_implies, implies_true, and_true, true_and, and_false, false_and, or_true, true_or, or_false, false_or, Classical.not_not, ite_true, ite_false]
    exact hC
  next => exact hC.elim)
/-- the numbers below n of which P holds, as the bits of one number -/
noncomputable def setN (P : Nat → Prop) : Nat → Nat
  | 0 => 0
  | k + 1 => setN P k ||| cif (P k) (2 ^ k) 0
theorem setN_bit (P : Nat → Prop) : ∀ n k, (setN P n).testBit k = true ↔ k < n ∧ P k
  | 0, k => by simp [setN]
  | n + 1, k => by
    unfold setN
    rw [Nat.testBit_or, Bool.or_eq_true, setN_bit P n k]
    by_cases hp : P n
    · rw [cif_t hp, Nat.testBit_two_pow]
      simp only [decide_eq_true_eq]
      constructor
      · rintro (z | z)
        · exact ⟨by omega, z.2⟩
        · subst z; exact ⟨by omega, hp⟩
      · rintro ⟨z, y⟩
        by_cases e : n = k
        · exact Or.inr e
        · exact Or.inl ⟨by omega, y⟩
    · rw [cif_f hp]
      simp only [Nat.zero_testBit, Bool.false_eq_true, or_false]
      constructor
      · intro z; exact ⟨by omega, z.2⟩
      · rintro ⟨z, y⟩
        by_cases e : n = k
        · subst e; exact absurd y hp
        · exact ⟨by omega, y⟩
theorem setN_lt (P : Nat → Prop) (n : Nat) : setN P n < 2 ^ n := by
  refine Nat.lt_pow_two_of_testBit _ (fun k hk => ?_)
  rw [← Bool.not_eq_true, setN_bit]
  intro z; omega
theorem lN_or (x y : Nat) : lN x ||| lN y = lN (x ||| y) := by
  apply Int64.toBitVec_inj.mp
  apply BitVec.eq_of_toNat_eq
  unfold lN
  simp [Int64.toBitVec_or, Nat.or_mod_two_pow]
/-- the times at which v hears by the sources below i -/
noncomputable def metS (s : SV) (v i : Nat) : Nat := setN (fun k => ∃ u, u < i ∧ ∃ o, reg s (2 ^ u) (wS s) 0 0 o ∧ tau s (2 ^ u) o v = k) 32
theorem metS_lt (s : SV) (v i : Nat) : metS s v i < 4294967296 := setN_lt _ 32
theorem metS_0 (s : SV) (v : Nat) : metS s v 0 = 0 := by
  apply Nat.eq_of_testBit_eq
  intro k
  rw [Bool.eq_iff_iff, metS, setN_bit]
  simp
theorem metS_s {s : SV} {v i : Nat} {a : ACC} (hv : v < 8) (hk : acOK a) (h : SR s (2 ^ i) (wS s) false a) : metS s v i ||| a.met v = metS s v (i + 1) := by
  obtain ⟨-, -, -, h4⟩ := h
  have h5 := (h4 rfl).2.2.2 v hv
  apply Nat.eq_of_testBit_eq
  intro k
  rw [Bool.eq_iff_iff, Nat.testBit_or, Bool.or_eq_true, metS, metS, setN_bit, setN_bit]
  have hlt : (a.met v).testBit k = true → k < 32 := fun z => by
    refine Classical.byContradiction fun y => ?_
    have h1 : a.met v < 2 ^ k := Nat.lt_of_lt_of_le (hk.2.2 v hv) (Nat.pow_le_pow_right (n := 2) (i := 32) (by omega) (by omega))
    rw [Nat.testBit_lt_two_pow h1] at z
    exact absurd z (by decide)
  constructor
  · rintro (⟨z, u, y, x⟩ | z)
    · exact ⟨z, u, by omega, x⟩
    · refine ⟨hlt z, i, by omega, ?_⟩
      rcases (h5 k).mp z with y | y
      · simp [ACC.met] at y
      · exact y
  · rintro ⟨z, u, y, x⟩
    by_cases e : u = i
    · subst e
      exact Or.inr ((h5 k).mpr (Or.inr x))
    · exact Or.inl ⟨z, u, by omega, x⟩
end VALUES
