section VALUES
def bsh (a : Int64) (k : Int32) : Int64 := (a.toUInt64 >>> ((Int32.toInt64 k).toUInt64 &&& Int64.toUInt64 63)).toInt64
def bc1 (a : Int64) : Int64 := a - (bsh a 1 &&& 6148914691236517205)
def bc2 (a : Int64) : Int64 := (a &&& 3689348814741910323) + (bsh a 2 &&& 3689348814741910323)
def bc3 (a : Int64) : Int64 := (a + bsh a 4) &&& 1085102592571150095
def bc4 (a : Int64) : Int64 := a + bsh a 8
def bc5 (a : Int64) : Int64 := a + bsh a 16
def bc6 (a : Int64) : Int64 := a + bsh a 32
/-- how many bits of a are set, as the library counts them -/
def bcF (a : Int64) : Int32 := (bc6 (bc5 (bc4 (bc3 (bc2 (bc1 a)))))).toInt32 &&& 127
noncomputable def C_J13_bitCount_95d88 : CT := fun As X K => match As with
  | [.long a] => K (some (.int (bcF a))) X
  | _ => False
set_option maxRecDepth 20000 in
set_option maxHeartbeats 4000000 in
theorem d_J13_bitCount_95d88 (l : Launch) : Does l yJ13_bitCount_95d88 (wY yJ13_bitCount_95d88 cJ13_bitCount_95d88 2 (retT 0)) (rmF 0) C_J13_bitCount_95d88 := does_of (rt := 0) (by decide +kernel) tkJ13_bitCount_95d88 (calls := []) (fun _ h => absurd h List.not_mem_nil) (by
  intro As X post hC
  unfold C_J13_bitCount_95d88 at hC
  split at hC
  next a =>
    refine ⟨Nat.le_of_ble_eq_true rfl, fun R hR => ?_⟩
    refine go hR [] 70 ?_
    simp only [lv_args, ↓reduceIte, Nat.reduceEqDiff, Nat.reduceAdd, Nat.reduceLeDiff, reduceCtorEq, and_true, true_and, false_and, and_false, true_or, or_true, or_false, false_or, true_implies, false_implies, implies_true, not_true_eq_false, not_false_eq_true, eq_self, fx_s, ↓run_s, run_0, ↓rs_n, ↓rs_c, as_s, ls_n, ls_c, lc_s, lget_c, fJ13_bitCount_95d88_0, ↓ex_lload_n, ↓xL_l, ↓xLg_c, fJ13_bitCount_95d88_1, fJ13_bitCount_95d88_2, ↓ex_iconst, fJ13_bitCount_95d88_3, ↓ex_lushr, ↓sLI_c, fJ13_bitCount_95d88_4, ↓ex_ldc2_w, fJ13_bitCount_95d88_7, ↓ex_land, ↓s2L_c, fJ13_bitCount_95d88_8, ↓ex_lsub, fJ13_bitCount_95d88_9, ↓ex_lstore_n, ↓s1L_c, ↓lsto_e, ↓lrmK_n, ↓lrmK_t, ct_i, ct_l, ct_r, fJ13_bitCount_95d88_10, fJ13_bitCount_95d88_11, fJ13_bitCount_95d88_14, fJ13_bitCount_95d88_15, fJ13_bitCount_95d88_16, fJ13_bitCount_95d88_17, fJ13_bitCount_95d88_18, fJ13_bitCount_95d88_21, fJ13_bitCount_95d88_22, ↓ex_ladd, fJ13_bitCount_95d88_23, fJ13_bitCount_95d88_24, fJ13_bitCount_95d88_25, fJ13_bitCount_95d88_26, fJ13_bitCount_95d88_27, fJ13_bitCount_95d88_28, fJ13_bitCount_95d88_29, fJ13_bitCount_95d88_32, fJ13_bitCount_95d88_33, fJ13_bitCount_95d88_34, fJ13_bitCount_95d88_35, fJ13_bitCount_95d88_36, ↓ex_bipush, fJ13_bitCount_95d88_38, fJ13_bitCount_95d88_39, fJ13_bitCount_95d88_40, fJ13_bitCount_95d88_41, fJ13_bitCount_95d88_42, fJ13_bitCount_95d88_43, fJ13_bitCount_95d88_45, fJ13_bitCount_95d88_46, fJ13_bitCount_95d88_47, fJ13_bitCount_95d88_48, fJ13_bitCount_95d88_49, fJ13_bitCount_95d88_50, fJ13_bitCount_95d88_52, fJ13_bitCount_95d88_53, fJ13_bitCount_95d88_54, fJ13_bitCount_95d88_55, fJ13_bitCount_95d88_56, ↓ex_l2i, fJ13_bitCount_95d88_57, fJ13_bitCount_95d88_59, ↓ex_iand, ↓s2I_c, fJ13_bitCount_95d88_60, ↓ex_ireturn, ↓rt_i, ↓reduceIte, not_true_eq_false, not_false_eq_true, false_implies, true_implies, implies_true, and_true, true_and, and_false, false_and, or_true, true_or, or_false, false_or, Classical.not_not, ite_true, ite_false]
    exact hC
  next => exact hC.elim)
end VALUES
