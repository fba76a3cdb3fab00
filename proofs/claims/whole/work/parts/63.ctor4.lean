section CTOR4
abbrev MU : Type := Nat × Nat × Nat × Nat × Nat × Nat × (Nat → Int32)
def w_X4 (γ : GT) (h0 : Nat) (u : MU) : va_W := match u with
  | (ma, mb, mc, md, me, mf, mg) => [(h0, .inr (4, [.ref ma, .int 0, .int 0, .ref mb, .ref mc, .ref md, .ref me, .int 0, .int 0, .ref mf, .int 0, .long 0])), (ma, .inl (γ.2 0, 354, .inl (mg))), (mb, .inl (γ.2 0, 8, .inl (fun _ => 0))), (mc, .inl (γ.2 1, 8, .inr (.inl (fun _ => 0)))), (md, .inl (γ.2 2, 32, .inl (fun _ => 0))), (me, .inl (γ.2 0, 120, .inl (fun _ => 0))), (mf, .inl (γ.2 2, 64, .inl (fun _ => 0)))]
theorem dI_X4_0 : decode cX4_init 0 = .ok (.aload_n 0, 1) := by decide +kernel
theorem dI_X4_1 : decode cX4_init 1 = .ok (.invokespecial 1, 3) := by decide +kernel
theorem dI_X4_4 : decode cX4_init 4 = .ok (.aload_n 0, 1) := by decide +kernel
theorem dI_X4_5 : decode cX4_init 5 = .ok (.sipush 354, 3) := by decide +kernel
theorem dI_X4_8 : decode cX4_init 8 = .ok (.newarray .int, 2) := by decide +kernel
theorem dI_X4_10 : decode cX4_init 10 = .ok (.putfield 7, 3) := by decide +kernel
theorem dI_X4_13 : decode cX4_init 13 = .ok (.aload_n 0, 1) := by decide +kernel
theorem dI_X4_14 : decode cX4_init 14 = .ok (.bipush 8, 2) := by decide +kernel
theorem dI_X4_16 : decode cX4_init 16 = .ok (.newarray .int, 2) := by decide +kernel
theorem dI_X4_18 : decode cX4_init 18 = .ok (.putfield 13, 3) := by decide +kernel
theorem dI_X4_21 : decode cX4_init 21 = .ok (.aload_n 0, 1) := by decide +kernel
theorem dI_X4_22 : decode cX4_init 22 = .ok (.bipush 8, 2) := by decide +kernel
theorem dI_X4_24 : decode cX4_init 24 = .ok (.newarray .long, 2) := by decide +kernel
theorem dI_X4_26 : decode cX4_init 26 = .ok (.putfield 16, 3) := by decide +kernel
theorem dI_X4_29 : decode cX4_init 29 = .ok (.aload_n 0, 1) := by decide +kernel
theorem dI_X4_30 : decode cX4_init 30 = .ok (.bipush 32, 2) := by decide +kernel
theorem dI_X4_32 : decode cX4_init 32 = .ok (.newarray .boolean, 2) := by decide +kernel
theorem dI_X4_34 : decode cX4_init 34 = .ok (.putfield 20, 3) := by decide +kernel
theorem dI_X4_37 : decode cX4_init 37 = .ok (.aload_n 0, 1) := by decide +kernel
theorem dI_X4_38 : decode cX4_init 38 = .ok (.bipush 120, 2) := by decide +kernel
theorem dI_X4_40 : decode cX4_init 40 = .ok (.newarray .int, 2) := by decide +kernel
theorem dI_X4_42 : decode cX4_init 42 = .ok (.putfield 24, 3) := by decide +kernel
theorem dI_X4_45 : decode cX4_init 45 = .ok (.aload_n 0, 1) := by decide +kernel
theorem dI_X4_46 : decode cX4_init 46 = .ok (.bipush 64, 2) := by decide +kernel
theorem dI_X4_48 : decode cX4_init 48 = .ok (.newarray .boolean, 2) := by decide +kernel
theorem dI_X4_50 : decode cX4_init 50 = .ok (.putfield 27, 3) := by decide +kernel
theorem dI_X4_53 : decode cX4_init 53 = .ok (.aload_n 0, 1) := by decide +kernel
theorem dI_X4_54 : decode cX4_init 54 = .ok (.getfield 7, 3) := by decide +kernel
theorem dI_X4_57 : decode cX4_init 57 = .ok (.iconst 1, 1) := by decide +kernel
theorem dI_X4_58 : decode cX4_init 58 = .ok (.bipush 20, 2) := by decide +kernel
theorem dI_X4_60 : decode cX4_init 60 = .ok (.iastore, 1) := by decide +kernel
theorem dI_X4_61 : decode cX4_init 61 = .ok (.aload_n 0, 1) := by decide +kernel
theorem dI_X4_62 : decode cX4_init 62 = .ok (.getfield 7, 3) := by decide +kernel
theorem dI_X4_65 : decode cX4_init 65 = .ok (.iconst 2, 1) := by decide +kernel
theorem dI_X4_66 : decode cX4_init 66 = .ok (.sipush 255, 3) := by decide +kernel
theorem dI_X4_69 : decode cX4_init 69 = .ok (.iastore, 1) := by decide +kernel
theorem dI_X4_70 : decode cX4_init 70 = .ok (.iconst 0, 1) := by decide +kernel
theorem dI_X4_71 : decode cX4_init 71 = .ok (.istore_n 1, 1) := by decide +kernel
theorem dI_X4_72 : decode cX4_init 72 = .ok (.iload_n 1, 1) := by decide +kernel
theorem dI_X4_73 : decode cX4_init 73 = .ok (.bipush 8, 2) := by decide +kernel
theorem dI_X4_75 : decode cX4_init 75 = .ok (.if_icmp .ge 20, 3) := by decide +kernel
theorem dI_X4_78 : decode cX4_init 78 = .ok (.aload_n 0, 1) := by decide +kernel
theorem dI_X4_79 : decode cX4_init 79 = .ok (.getfield 7, 3) := by decide +kernel
theorem dI_X4_82 : decode cX4_init 82 = .ok (.bipush 51, 2) := by decide +kernel
theorem dI_X4_84 : decode cX4_init 84 = .ok (.iload_n 1, 1) := by decide +kernel
theorem dI_X4_85 : decode cX4_init 85 = .ok (.iadd, 1) := by decide +kernel
theorem dI_X4_86 : decode cX4_init 86 = .ok (.bipush 100, 2) := by decide +kernel
theorem dI_X4_88 : decode cX4_init 88 = .ok (.iastore, 1) := by decide +kernel
theorem dI_X4_89 : decode cX4_init 89 = .ok (.iinc 1 1, 3) := by decide +kernel
theorem dI_X4_92 : decode cX4_init 92 = .ok (.goto (-20), 3) := by decide +kernel
theorem dI_X4_95 : decode cX4_init 95 = .ok (.return_, 1) := by decide +kernel
set_option maxHeartbeats 16000000 in
set_option maxRecDepth 100000 in
theorem k_X4 (l : Launch) (γ : GT) (h0 sz : Nat) : Met l yX4_init (wY yX4_init cX4_init 2 none) ({ frames := 4, cells := 6, slots := 586, locals := 400 }) (va_Pc [.ref h0] (fun U => U.heap.size = sz ∧ va_P γ.1 vwCl [(h0, .inr (4, [.null, .int 0, .int 0, .null, .null, .null, .null, .int 0, .int 0, .null, .int 0, .long 0]))] U.heap ∧ (va_K γ.1 vwCl (tysG γ) U ∧ NL U) ∧ va_D (fun _ => True) [(h0, .inr (4, [.null, .int 0, .int 0, .null, .null, .null, .null, .int 0, .int 0, .null, .int 0, .long 0]))])) (va_Qv (fun u : MU => u.2.2.2.2.2.2 0 = 0 ∧ u.2.2.2.2.2.2 1 = 20 ∧ u.2.2.2.2.2.2 2 = 255 ∧ ∀ v, v < 8 → u.2.2.2.2.2.2 (51 + v) = 100) (fun u t => va_P γ.1 vwCl (w_X4 γ h0 u) t.heap ∧ va_D (va_A [(h0, .inr (4, [.null, .int 0, .int 0, .null, .null, .null, .null, .int 0, .int 0, .null, .int 0, .long 0]))] sz) (w_X4 γ h0 u)) (va_A [(h0, .inr (4, [.null, .int 0, .int 0, .null, .null, .null, .null, .int 0, .int 0, .null, .int 0, .long 0]))] sz)) 6 586 (va_A [(h0, .inr (4, [.null, .int 0, .int 0, .null, .null, .null, .null, .int 0, .int 0, .null, .int 0, .long 0]))] sz) := by
  refine Met.ofW (cc := cX4_init) (maxL := 2) (ret := none) (by decide) rfl ?_
  intro p e s m args below meth c s₁ B hml hv
  obtain ⟨rfl, hsz, hP, ⟨hK, hN⟩, hD0⟩ := hv
  have hx := B.exec
  have hb := B.bytes
  have hr := B.returns
  have hts := atoms_spec (ws := wY yX4_init cX4_init 2 none) B.pre
  have hwB : ∀ w : Cond, inB w = true → w.before (#[Value.ref h0]) s = true := fun w h => hts w (List.mem_cons_of_mem _ (inB_BW h))
  have hlw : ∀ w : Cond, decide (w ∈ lw_tbl) = true → goodWord w = true → w.before (#[Value.ref h0]) s = true := fun w h h2 => hwB w (by unfold inB; rw [h, h2]; rfl)
  have hown : s.vm.findClass RX4 = some m.cls := findClass_of_methodNamed B.named
  have hlocks := B.notSynchronized
  have hin : meth.name = "<init>" := (name_of_methodNamed B.named B.method).1
  subst hsz
  have hD := hD0.self (sz := s.heap.size)
  generalize hAe : va_A [(h0, .inr (4, [.null, .int 0, .int 0, .null, .null, .null, .null, .int 0, .int 0, .null, .int 0, .long 0]))] s.heap.size = A at hD ⊢
  have hA : ∀ q : Nat, s.heap.size ≤ q → A q := fun q h => by rw [← hAe]; exact Or.inr h
  have hS : va_S A s.heap s.heap [] := va_S.rf
  have hl := lv_entry ([.ref h0]) (n := 2) (Nat.le_of_ble_eq_true rfl)
  rw [lg_entry_eq]
  generalize (lg_sl ([.ref h0]) ++ List.replicate (2 - (lg_sl ([.ref h0])).length) Slot.unset).toArray = ls at hl ⊢
  have hl : lv_has ls 2 [(0, .ref h0)] := hl
  refine lv_aload_n hx hb dI_X4_0 rfl (lv_at hl 0 rfl) ?_
  refine W.objInit hx hb hown (hwB (.methodLink RX4 1 objectInit) (by decide +kernel)) (hwB (.instanceMethod objectInit) (by decide +kernel)) (hwB (.code objectInit ⟨#[0xb1]⟩ 1 none) (by decide +kernel)) rfl (by rw [hml]; exact hl.1) rfl dI_X4_1 (Nat.le_of_ble_eq_true rfl) (Nat.le_of_ble_eq_true rfl) ?_
  refine W.eq (g2 := F0 m 4 ls []) rfl ?_
  refine lv_aload_n hx hb dI_X4_4 rfl (lv_at hl 0 rfl) ?_
  refine lv_sipush (v := 354) hx hb dI_X4_5 (by decide) ?_
  refine newa_s (atype := .int) (ty := .int) (N' := 354) (a0 := (354, .inl (fun _ => 0))) hx hb (hwB (.arrayClass .int) (by decide +kernel)) rfl hK hP hD hS hA (t0 := 0) rfl (fun _ => rfl) (by decide) rfl (Nat.le_of_ble_eq_true rfl) (Nat.le_of_ble_eq_true rfl) (Nat.le_of_ble_eq_true rfl) dI_X4_8 (fun q1 H hP hD hS => ?_)
  have hP : va_P γ.1 vwCl [(h0, .inr (4, [.null, .int 0, .int 0, .null, .null, .null, .null, .int 0, .int 0, .null, .int 0, .long 0])), (q1, .inl (γ.2 0, 354, .inl (fun _ => 0)))] H := hP
  have hD : va_D A [(h0, .inr (4, [.null, .int 0, .int 0, .null, .null, .null, .null, .int 0, .int 0, .null, .int 0, .long 0])), (q1, .inl (γ.2 0, 354, .inl (fun _ => 0)))] := hD
  refine W.widen (k := 1) (n := 354) (Nat.le_of_ble_eq_true rfl) (Nat.le_of_ble_eq_true rfl) ?_
  refine va_putF (D := γ.1) (ci := 4) (v := .ref q1) (ty := .array .int) (C := RX4) (T := TX4) (N := 12) hx hb hts (fun w hw => List.mem_cons_of_mem _ ((cl_facts 4 _ rfl).1 w hw)) tyX4 tyX4_ok nmX4 hown hK hP hD hS 0 rfl rfl 0 (by decide) (hwB (.fieldLink RX4 7 RX4 "row" "[I") (by decide +kernel)) (fun _ h9 => h9) rfl hin rfl (by decide +kernel) rfl rfl (Nat.le_of_ble_eq_true rfl) dI_X4_10 (fun H locs hP hD hS => ?_)
  have hP : va_P γ.1 vwCl [(h0, .inr (4, [.ref q1, .int 0, .int 0, .null, .null, .null, .null, .int 0, .int 0, .null, .int 0, .long 0])), (q1, .inl (γ.2 0, 354, .inl (fun _ => 0)))] H := hP
  have hD : va_D A [(h0, .inr (4, [.ref q1, .int 0, .int 0, .null, .null, .null, .null, .int 0, .int 0, .null, .int 0, .long 0])), (q1, .inl (γ.2 0, 354, .inl (fun _ => 0)))] := hD
  refine lv_aload_n hx hb dI_X4_13 rfl (lv_at hl 0 rfl) ?_
  refine lv_bipush (v := 8) hx hb dI_X4_14 (by decide) ?_
  refine newa_s (atype := .int) (ty := .int) (N' := 8) (a0 := (8, .inl (fun _ => 0))) hx hb (hwB (.arrayClass .int) (by decide +kernel)) rfl hK hP hD hS hA (t0 := 0) rfl (fun _ => rfl) (by decide) rfl (Nat.le_of_ble_eq_true rfl) (Nat.le_of_ble_eq_true rfl) (Nat.le_of_ble_eq_true rfl) dI_X4_16 (fun q2 H hP hD hS => ?_)
  have hP : va_P γ.1 vwCl [(h0, .inr (4, [.ref q1, .int 0, .int 0, .null, .null, .null, .null, .int 0, .int 0, .null, .int 0, .long 0])), (q1, .inl (γ.2 0, 354, .inl (fun _ => 0))), (q2, .inl (γ.2 0, 8, .inl (fun _ => 0)))] H := hP
  have hD : va_D A [(h0, .inr (4, [.ref q1, .int 0, .int 0, .null, .null, .null, .null, .int 0, .int 0, .null, .int 0, .long 0])), (q1, .inl (γ.2 0, 354, .inl (fun _ => 0))), (q2, .inl (γ.2 0, 8, .inl (fun _ => 0)))] := hD
  refine W.widen (k := 2) (n := 362) (Nat.le_of_ble_eq_true rfl) (Nat.le_of_ble_eq_true rfl) ?_
  refine va_putF (D := γ.1) (ci := 4) (v := .ref q2) (ty := .array .int) (C := RX4) (T := TX4) (N := 12) hx hb hts (fun w hw => List.mem_cons_of_mem _ ((cl_facts 4 _ rfl).1 w hw)) tyX4 tyX4_ok nmX4 hown hK hP hD hS 0 rfl rfl 3 (by decide) (hwB (.fieldLink RX4 13 RX4 "time" "[I") (by decide +kernel)) (fun _ h9 => h9) rfl hin rfl (by decide +kernel) rfl rfl (Nat.le_of_ble_eq_true rfl) dI_X4_18 (fun H locs hP hD hS => ?_)
  have hP : va_P γ.1 vwCl [(h0, .inr (4, [.ref q1, .int 0, .int 0, .ref q2, .null, .null, .null, .int 0, .int 0, .null, .int 0, .long 0])), (q1, .inl (γ.2 0, 354, .inl (fun _ => 0))), (q2, .inl (γ.2 0, 8, .inl (fun _ => 0)))] H := hP
  have hD : va_D A [(h0, .inr (4, [.ref q1, .int 0, .int 0, .ref q2, .null, .null, .null, .int 0, .int 0, .null, .int 0, .long 0])), (q1, .inl (γ.2 0, 354, .inl (fun _ => 0))), (q2, .inl (γ.2 0, 8, .inl (fun _ => 0)))] := hD
  refine lv_aload_n hx hb dI_X4_21 rfl (lv_at hl 0 rfl) ?_
  refine lv_bipush (v := 8) hx hb dI_X4_22 (by decide) ?_
  refine newa_s (atype := .long) (ty := .long) (N' := 8) (a0 := (8, .inr (.inl (fun _ => 0)))) hx hb (hwB (.arrayClass .long) (by decide +kernel)) rfl hK hP hD hS hA (t0 := 1) rfl (fun _ => rfl) (by decide) rfl (Nat.le_of_ble_eq_true rfl) (Nat.le_of_ble_eq_true rfl) (Nat.le_of_ble_eq_true rfl) dI_X4_24 (fun q3 H hP hD hS => ?_)
  have hP : va_P γ.1 vwCl [(h0, .inr (4, [.ref q1, .int 0, .int 0, .ref q2, .null, .null, .null, .int 0, .int 0, .null, .int 0, .long 0])), (q1, .inl (γ.2 0, 354, .inl (fun _ => 0))), (q2, .inl (γ.2 0, 8, .inl (fun _ => 0))), (q3, .inl (γ.2 1, 8, .inr (.inl (fun _ => 0))))] H := hP
  have hD : va_D A [(h0, .inr (4, [.ref q1, .int 0, .int 0, .ref q2, .null, .null, .null, .int 0, .int 0, .null, .int 0, .long 0])), (q1, .inl (γ.2 0, 354, .inl (fun _ => 0))), (q2, .inl (γ.2 0, 8, .inl (fun _ => 0))), (q3, .inl (γ.2 1, 8, .inr (.inl (fun _ => 0))))] := hD
  refine W.widen (k := 3) (n := 370) (Nat.le_of_ble_eq_true rfl) (Nat.le_of_ble_eq_true rfl) ?_
  refine va_putF (D := γ.1) (ci := 4) (v := .ref q3) (ty := .array .long) (C := RX4) (T := TX4) (N := 12) hx hb hts (fun w hw => List.mem_cons_of_mem _ ((cl_facts 4 _ rfl).1 w hw)) tyX4 tyX4_ok nmX4 hown hK hP hD hS 0 rfl rfl 4 (by decide) (hwB (.fieldLink RX4 16 RX4 "single" "[J") (by decide +kernel)) (fun _ h9 => h9) rfl hin rfl (by decide +kernel) rfl rfl (Nat.le_of_ble_eq_true rfl) dI_X4_26 (fun H locs hP hD hS => ?_)
  have hP : va_P γ.1 vwCl [(h0, .inr (4, [.ref q1, .int 0, .int 0, .ref q2, .ref q3, .null, .null, .int 0, .int 0, .null, .int 0, .long 0])), (q1, .inl (γ.2 0, 354, .inl (fun _ => 0))), (q2, .inl (γ.2 0, 8, .inl (fun _ => 0))), (q3, .inl (γ.2 1, 8, .inr (.inl (fun _ => 0))))] H := hP
  have hD : va_D A [(h0, .inr (4, [.ref q1, .int 0, .int 0, .ref q2, .ref q3, .null, .null, .int 0, .int 0, .null, .int 0, .long 0])), (q1, .inl (γ.2 0, 354, .inl (fun _ => 0))), (q2, .inl (γ.2 0, 8, .inl (fun _ => 0))), (q3, .inl (γ.2 1, 8, .inr (.inl (fun _ => 0))))] := hD
  refine lv_aload_n hx hb dI_X4_29 rfl (lv_at hl 0 rfl) ?_
  refine lv_bipush (v := 32) hx hb dI_X4_30 (by decide) ?_
  refine newa_s (atype := .boolean) (ty := .boolean) (N' := 32) (a0 := (32, .inl (fun _ => 0))) hx hb (hwB (.arrayClass .boolean) (by decide +kernel)) rfl hK hP hD hS hA (t0 := 2) rfl (fun _ => rfl) (by decide) rfl (Nat.le_of_ble_eq_true rfl) (Nat.le_of_ble_eq_true rfl) (Nat.le_of_ble_eq_true rfl) dI_X4_32 (fun q4 H hP hD hS => ?_)
  have hP : va_P γ.1 vwCl [(h0, .inr (4, [.ref q1, .int 0, .int 0, .ref q2, .ref q3, .null, .null, .int 0, .int 0, .null, .int 0, .long 0])), (q1, .inl (γ.2 0, 354, .inl (fun _ => 0))), (q2, .inl (γ.2 0, 8, .inl (fun _ => 0))), (q3, .inl (γ.2 1, 8, .inr (.inl (fun _ => 0)))), (q4, .inl (γ.2 2, 32, .inl (fun _ => 0)))] H := hP
  have hD : va_D A [(h0, .inr (4, [.ref q1, .int 0, .int 0, .ref q2, .ref q3, .null, .null, .int 0, .int 0, .null, .int 0, .long 0])), (q1, .inl (γ.2 0, 354, .inl (fun _ => 0))), (q2, .inl (γ.2 0, 8, .inl (fun _ => 0))), (q3, .inl (γ.2 1, 8, .inr (.inl (fun _ => 0)))), (q4, .inl (γ.2 2, 32, .inl (fun _ => 0)))] := hD
  refine W.widen (k := 4) (n := 402) (Nat.le_of_ble_eq_true rfl) (Nat.le_of_ble_eq_true rfl) ?_
  refine va_putF (D := γ.1) (ci := 4) (v := .ref q4) (ty := .array .boolean) (C := RX4) (T := TX4) (N := 12) hx hb hts (fun w hw => List.mem_cons_of_mem _ ((cl_facts 4 _ rfl).1 w hw)) tyX4 tyX4_ok nmX4 hown hK hP hD hS 0 rfl rfl 5 (by decide) (hwB (.fieldLink RX4 20 RX4 "occurs" "[Z") (by decide +kernel)) (fun _ h9 => h9) rfl hin rfl (by decide +kernel) rfl rfl (Nat.le_of_ble_eq_true rfl) dI_X4_34 (fun H locs hP hD hS => ?_)
  have hP : va_P γ.1 vwCl [(h0, .inr (4, [.ref q1, .int 0, .int 0, .ref q2, .ref q3, .ref q4, .null, .int 0, .int 0, .null, .int 0, .long 0])), (q1, .inl (γ.2 0, 354, .inl (fun _ => 0))), (q2, .inl (γ.2 0, 8, .inl (fun _ => 0))), (q3, .inl (γ.2 1, 8, .inr (.inl (fun _ => 0)))), (q4, .inl (γ.2 2, 32, .inl (fun _ => 0)))] H := hP
  have hD : va_D A [(h0, .inr (4, [.ref q1, .int 0, .int 0, .ref q2, .ref q3, .ref q4, .null, .int 0, .int 0, .null, .int 0, .long 0])), (q1, .inl (γ.2 0, 354, .inl (fun _ => 0))), (q2, .inl (γ.2 0, 8, .inl (fun _ => 0))), (q3, .inl (γ.2 1, 8, .inr (.inl (fun _ => 0)))), (q4, .inl (γ.2 2, 32, .inl (fun _ => 0)))] := hD
  refine lv_aload_n hx hb dI_X4_37 rfl (lv_at hl 0 rfl) ?_
  refine lv_bipush (v := 120) hx hb dI_X4_38 (by decide) ?_
  refine newa_s (atype := .int) (ty := .int) (N' := 120) (a0 := (120, .inl (fun _ => 0))) hx hb (hwB (.arrayClass .int) (by decide +kernel)) rfl hK hP hD hS hA (t0 := 0) rfl (fun _ => rfl) (by decide) rfl (Nat.le_of_ble_eq_true rfl) (Nat.le_of_ble_eq_true rfl) (Nat.le_of_ble_eq_true rfl) dI_X4_40 (fun q5 H hP hD hS => ?_)
  have hP : va_P γ.1 vwCl [(h0, .inr (4, [.ref q1, .int 0, .int 0, .ref q2, .ref q3, .ref q4, .null, .int 0, .int 0, .null, .int 0, .long 0])), (q1, .inl (γ.2 0, 354, .inl (fun _ => 0))), (q2, .inl (γ.2 0, 8, .inl (fun _ => 0))), (q3, .inl (γ.2 1, 8, .inr (.inl (fun _ => 0)))), (q4, .inl (γ.2 2, 32, .inl (fun _ => 0))), (q5, .inl (γ.2 0, 120, .inl (fun _ => 0)))] H := hP
  have hD : va_D A [(h0, .inr (4, [.ref q1, .int 0, .int 0, .ref q2, .ref q3, .ref q4, .null, .int 0, .int 0, .null, .int 0, .long 0])), (q1, .inl (γ.2 0, 354, .inl (fun _ => 0))), (q2, .inl (γ.2 0, 8, .inl (fun _ => 0))), (q3, .inl (γ.2 1, 8, .inr (.inl (fun _ => 0)))), (q4, .inl (γ.2 2, 32, .inl (fun _ => 0))), (q5, .inl (γ.2 0, 120, .inl (fun _ => 0)))] := hD
  refine W.widen (k := 5) (n := 522) (Nat.le_of_ble_eq_true rfl) (Nat.le_of_ble_eq_true rfl) ?_
  refine va_putF (D := γ.1) (ci := 4) (v := .ref q5) (ty := .array .int) (C := RX4) (T := TX4) (N := 12) hx hb hts (fun w hw => List.mem_cons_of_mem _ ((cl_facts 4 _ rfl).1 w hw)) tyX4 tyX4_ok nmX4 hown hK hP hD hS 0 rfl rfl 6 (by decide) (hwB (.fieldLink RX4 24 RX4 "text" "[I") (by decide +kernel)) (fun _ h9 => h9) rfl hin rfl (by decide +kernel) rfl rfl (Nat.le_of_ble_eq_true rfl) dI_X4_42 (fun H locs hP hD hS => ?_)
  have hP : va_P γ.1 vwCl [(h0, .inr (4, [.ref q1, .int 0, .int 0, .ref q2, .ref q3, .ref q4, .ref q5, .int 0, .int 0, .null, .int 0, .long 0])), (q1, .inl (γ.2 0, 354, .inl (fun _ => 0))), (q2, .inl (γ.2 0, 8, .inl (fun _ => 0))), (q3, .inl (γ.2 1, 8, .inr (.inl (fun _ => 0)))), (q4, .inl (γ.2 2, 32, .inl (fun _ => 0))), (q5, .inl (γ.2 0, 120, .inl (fun _ => 0)))] H := hP
  have hD : va_D A [(h0, .inr (4, [.ref q1, .int 0, .int 0, .ref q2, .ref q3, .ref q4, .ref q5, .int 0, .int 0, .null, .int 0, .long 0])), (q1, .inl (γ.2 0, 354, .inl (fun _ => 0))), (q2, .inl (γ.2 0, 8, .inl (fun _ => 0))), (q3, .inl (γ.2 1, 8, .inr (.inl (fun _ => 0)))), (q4, .inl (γ.2 2, 32, .inl (fun _ => 0))), (q5, .inl (γ.2 0, 120, .inl (fun _ => 0)))] := hD
  refine lv_aload_n hx hb dI_X4_45 rfl (lv_at hl 0 rfl) ?_
  refine lv_bipush (v := 64) hx hb dI_X4_46 (by decide) ?_
  refine newa_s (atype := .boolean) (ty := .boolean) (N' := 64) (a0 := (64, .inl (fun _ => 0))) hx hb (hwB (.arrayClass .boolean) (by decide +kernel)) rfl hK hP hD hS hA (t0 := 2) rfl (fun _ => rfl) (by decide) rfl (Nat.le_of_ble_eq_true rfl) (Nat.le_of_ble_eq_true rfl) (Nat.le_of_ble_eq_true rfl) dI_X4_48 (fun q6 H hP hD hS => ?_)
  have hP : va_P γ.1 vwCl [(h0, .inr (4, [.ref q1, .int 0, .int 0, .ref q2, .ref q3, .ref q4, .ref q5, .int 0, .int 0, .null, .int 0, .long 0])), (q1, .inl (γ.2 0, 354, .inl (fun _ => 0))), (q2, .inl (γ.2 0, 8, .inl (fun _ => 0))), (q3, .inl (γ.2 1, 8, .inr (.inl (fun _ => 0)))), (q4, .inl (γ.2 2, 32, .inl (fun _ => 0))), (q5, .inl (γ.2 0, 120, .inl (fun _ => 0))), (q6, .inl (γ.2 2, 64, .inl (fun _ => 0)))] H := hP
  have hD : va_D A [(h0, .inr (4, [.ref q1, .int 0, .int 0, .ref q2, .ref q3, .ref q4, .ref q5, .int 0, .int 0, .null, .int 0, .long 0])), (q1, .inl (γ.2 0, 354, .inl (fun _ => 0))), (q2, .inl (γ.2 0, 8, .inl (fun _ => 0))), (q3, .inl (γ.2 1, 8, .inr (.inl (fun _ => 0)))), (q4, .inl (γ.2 2, 32, .inl (fun _ => 0))), (q5, .inl (γ.2 0, 120, .inl (fun _ => 0))), (q6, .inl (γ.2 2, 64, .inl (fun _ => 0)))] := hD
  refine W.widen (k := 6) (n := 586) (Nat.le_of_ble_eq_true rfl) (Nat.le_of_ble_eq_true rfl) ?_
  refine va_putF (D := γ.1) (ci := 4) (v := .ref q6) (ty := .array .boolean) (C := RX4) (T := TX4) (N := 12) hx hb hts (fun w hw => List.mem_cons_of_mem _ ((cl_facts 4 _ rfl).1 w hw)) tyX4 tyX4_ok nmX4 hown hK hP hD hS 0 rfl rfl 9 (by decide) (hwB (.fieldLink RX4 27 RX4 "linked" "[Z") (by decide +kernel)) (fun _ h9 => h9) rfl hin rfl (by decide +kernel) rfl rfl (Nat.le_of_ble_eq_true rfl) dI_X4_50 (fun H locs hP hD hS => ?_)
  have hP : va_P γ.1 vwCl [(h0, .inr (4, [.ref q1, .int 0, .int 0, .ref q2, .ref q3, .ref q4, .ref q5, .int 0, .int 0, .ref q6, .int 0, .long 0])), (q1, .inl (γ.2 0, 354, .inl (fun _ => 0))), (q2, .inl (γ.2 0, 8, .inl (fun _ => 0))), (q3, .inl (γ.2 1, 8, .inr (.inl (fun _ => 0)))), (q4, .inl (γ.2 2, 32, .inl (fun _ => 0))), (q5, .inl (γ.2 0, 120, .inl (fun _ => 0))), (q6, .inl (γ.2 2, 64, .inl (fun _ => 0)))] H := hP
  have hD : va_D A [(h0, .inr (4, [.ref q1, .int 0, .int 0, .ref q2, .ref q3, .ref q4, .ref q5, .int 0, .int 0, .ref q6, .int 0, .long 0])), (q1, .inl (γ.2 0, 354, .inl (fun _ => 0))), (q2, .inl (γ.2 0, 8, .inl (fun _ => 0))), (q3, .inl (γ.2 1, 8, .inr (.inl (fun _ => 0)))), (q4, .inl (γ.2 2, 32, .inl (fun _ => 0))), (q5, .inl (γ.2 0, 120, .inl (fun _ => 0))), (q6, .inl (γ.2 2, 64, .inl (fun _ => 0)))] := hD
  refine lv_aload_n hx hb dI_X4_53 rfl (lv_at hl 0 rfl) ?_
  refine va_get (D := γ.1) (ci := 4) (v := .ref q1) (C := RX4) (T := TX4) (N := 12) hx hb hts (fun w hw => List.mem_cons_of_mem _ ((cl_facts 4 _ rfl).1 w hw)) hown hK hP 0 rfl rfl 0 (by decide) (hwB (.fieldLink RX4 7 RX4 "row" "[I") (by decide +kernel)) (fun _ h9 => h9) rfl dI_X4_54 ?_
  refine lv_iconst (v := 1) hx hb dI_X4_57 (by decide) ?_
  refine lv_bipush (v := 20) hx hb dI_X4_58 (by decide) ?_
  refine va_iast hx hb hK hP hD hS 1 0 rfl rfl (i := 1) (x := 20) (by unfold vp_in; decide) dI_X4_60 (fun H locs hP hD hS => ?_)
  have hP : va_P γ.1 vwCl [(h0, .inr (4, [.ref q1, .int 0, .int 0, .ref q2, .ref q3, .ref q4, .ref q5, .int 0, .int 0, .ref q6, .int 0, .long 0])), (q1, .inl (γ.2 0, 354, .inl (upd (fun _ => 0) 1 20))), (q2, .inl (γ.2 0, 8, .inl (fun _ => 0))), (q3, .inl (γ.2 1, 8, .inr (.inl (fun _ => 0)))), (q4, .inl (γ.2 2, 32, .inl (fun _ => 0))), (q5, .inl (γ.2 0, 120, .inl (fun _ => 0))), (q6, .inl (γ.2 2, 64, .inl (fun _ => 0)))] H := hP
  have hD : va_D A [(h0, .inr (4, [.ref q1, .int 0, .int 0, .ref q2, .ref q3, .ref q4, .ref q5, .int 0, .int 0, .ref q6, .int 0, .long 0])), (q1, .inl (γ.2 0, 354, .inl (upd (fun _ => 0) 1 20))), (q2, .inl (γ.2 0, 8, .inl (fun _ => 0))), (q3, .inl (γ.2 1, 8, .inr (.inl (fun _ => 0)))), (q4, .inl (γ.2 2, 32, .inl (fun _ => 0))), (q5, .inl (γ.2 0, 120, .inl (fun _ => 0))), (q6, .inl (γ.2 2, 64, .inl (fun _ => 0)))] := hD
  refine lv_aload_n hx hb dI_X4_61 rfl (lv_at hl 0 rfl) ?_
  refine va_get (D := γ.1) (ci := 4) (v := .ref q1) (C := RX4) (T := TX4) (N := 12) hx hb hts (fun w hw => List.mem_cons_of_mem _ ((cl_facts 4 _ rfl).1 w hw)) hown hK hP 0 rfl rfl 0 (by decide) (hwB (.fieldLink RX4 7 RX4 "row" "[I") (by decide +kernel)) (fun _ h9 => h9) rfl dI_X4_62 ?_
  refine lv_iconst (v := 2) hx hb dI_X4_65 (by decide) ?_
  refine lv_sipush (v := 255) hx hb dI_X4_66 (by decide) ?_
  refine va_iast hx hb hK hP hD hS 1 0 rfl rfl (i := 2) (x := 255) (by unfold vp_in; decide) dI_X4_69 (fun H locs hP hD hS => ?_)
  have hP : va_P γ.1 vwCl [(h0, .inr (4, [.ref q1, .int 0, .int 0, .ref q2, .ref q3, .ref q4, .ref q5, .int 0, .int 0, .ref q6, .int 0, .long 0])), (q1, .inl (γ.2 0, 354, .inl (upd (upd (fun _ => 0) 1 20) 2 255))), (q2, .inl (γ.2 0, 8, .inl (fun _ => 0))), (q3, .inl (γ.2 1, 8, .inr (.inl (fun _ => 0)))), (q4, .inl (γ.2 2, 32, .inl (fun _ => 0))), (q5, .inl (γ.2 0, 120, .inl (fun _ => 0))), (q6, .inl (γ.2 2, 64, .inl (fun _ => 0)))] H := hP
  have hD : va_D A [(h0, .inr (4, [.ref q1, .int 0, .int 0, .ref q2, .ref q3, .ref q4, .ref q5, .int 0, .int 0, .ref q6, .int 0, .long 0])), (q1, .inl (γ.2 0, 354, .inl (upd (upd (fun _ => 0) 1 20) 2 255))), (q2, .inl (γ.2 0, 8, .inl (fun _ => 0))), (q3, .inl (γ.2 1, 8, .inr (.inl (fun _ => 0)))), (q4, .inl (γ.2 2, 32, .inl (fun _ => 0))), (q5, .inl (γ.2 0, 120, .inl (fun _ => 0))), (q6, .inl (γ.2 2, 64, .inl (fun _ => 0)))] := hD
  refine lv_iconst (v := 0) hx hb dI_X4_70 (by decide) ?_
  refine lv_istore_n (lv' := [(1, .int 0), (0, .ref h0)]) hx hb dI_X4_71 rfl hl (by decide) rfl (fun ls hl => ?_)
  refine lv_iload_n hx hb dI_X4_72 rfl (lv_at hl 0 rfl) ?_
  refine lv_bipush (v := 8) hx hb dI_X4_73 (by decide) ?_
  refine lv_icmp_ge (tgt := 95) hx hb dI_X4_75 (by decide) (fun c9 => ?_) (fun c9 => ?_)
  · exact absurd c9 (by decide)
  refine lv_aload_n hx hb dI_X4_78 rfl (lv_at hl 1 rfl) ?_
  refine va_get (D := γ.1) (ci := 4) (v := .ref q1) (C := RX4) (T := TX4) (N := 12) hx hb hts (fun w hw => List.mem_cons_of_mem _ ((cl_facts 4 _ rfl).1 w hw)) hown hK hP 0 rfl rfl 0 (by decide) (hwB (.fieldLink RX4 7 RX4 "row" "[I") (by decide +kernel)) (fun _ h9 => h9) rfl dI_X4_79 ?_
  refine lv_bipush (v := 51) hx hb dI_X4_82 (by decide) ?_
  refine lv_iload_n hx hb dI_X4_84 rfl (lv_at hl 0 rfl) ?_
  refine lv_iadd hx hb dI_X4_85 ?_
  rw [show (51 : Int32) + 0 = 51 from rfl]
  refine lv_bipush (v := 100) hx hb dI_X4_86 (by decide) ?_
  refine va_iast hx hb hK hP hD hS 1 0 rfl rfl (i := 51) (x := 100) (by unfold vp_in; decide) dI_X4_88 (fun H locs hP hD hS => ?_)
  have hP : va_P γ.1 vwCl [(h0, .inr (4, [.ref q1, .int 0, .int 0, .ref q2, .ref q3, .ref q4, .ref q5, .int 0, .int 0, .ref q6, .int 0, .long 0])), (q1, .inl (γ.2 0, 354, .inl (upd (upd (upd (fun _ => 0) 1 20) 2 255) 51 100))), (q2, .inl (γ.2 0, 8, .inl (fun _ => 0))), (q3, .inl (γ.2 1, 8, .inr (.inl (fun _ => 0)))), (q4, .inl (γ.2 2, 32, .inl (fun _ => 0))), (q5, .inl (γ.2 0, 120, .inl (fun _ => 0))), (q6, .inl (γ.2 2, 64, .inl (fun _ => 0)))] H := hP
  have hD : va_D A [(h0, .inr (4, [.ref q1, .int 0, .int 0, .ref q2, .ref q3, .ref q4, .ref q5, .int 0, .int 0, .ref q6, .int 0, .long 0])), (q1, .inl (γ.2 0, 354, .inl (upd (upd (upd (fun _ => 0) 1 20) 2 255) 51 100))), (q2, .inl (γ.2 0, 8, .inl (fun _ => 0))), (q3, .inl (γ.2 1, 8, .inr (.inl (fun _ => 0)))), (q4, .inl (γ.2 2, 32, .inl (fun _ => 0))), (q5, .inl (γ.2 0, 120, .inl (fun _ => 0))), (q6, .inl (γ.2 2, 64, .inl (fun _ => 0)))] := hD
  refine lv_iinc (v := 1) (lv' := [(1, .int 1), (0, .ref h0)]) hx hb dI_X4_89 hl (k := 0) rfl (by decide) (by decide) rfl (fun ls hl => ?_)
  refine lv_goto (tgt := 72) hx hb dI_X4_92 (by decide) ?_
  refine lv_iload_n hx hb dI_X4_72 rfl (lv_at hl 0 rfl) ?_
  refine lv_bipush (v := 8) hx hb dI_X4_73 (by decide) ?_
  refine lv_icmp_ge (tgt := 95) hx hb dI_X4_75 (by decide) (fun c9 => ?_) (fun c9 => ?_)
  · exact absurd c9 (by decide)
  refine lv_aload_n hx hb dI_X4_78 rfl (lv_at hl 1 rfl) ?_
  refine va_get (D := γ.1) (ci := 4) (v := .ref q1) (C := RX4) (T := TX4) (N := 12) hx hb hts (fun w hw => List.mem_cons_of_mem _ ((cl_facts 4 _ rfl).1 w hw)) hown hK hP 0 rfl rfl 0 (by decide) (hwB (.fieldLink RX4 7 RX4 "row" "[I") (by decide +kernel)) (fun _ h9 => h9) rfl dI_X4_79 ?_
  refine lv_bipush (v := 51) hx hb dI_X4_82 (by decide) ?_
  refine lv_iload_n hx hb dI_X4_84 rfl (lv_at hl 0 rfl) ?_
  refine lv_iadd hx hb dI_X4_85 ?_
  rw [show (51 : Int32) + 1 = 52 from rfl]
  refine lv_bipush (v := 100) hx hb dI_X4_86 (by decide) ?_
  refine va_iast hx hb hK hP hD hS 1 0 rfl rfl (i := 52) (x := 100) (by unfold vp_in; decide) dI_X4_88 (fun H locs hP hD hS => ?_)
  have hP : va_P γ.1 vwCl [(h0, .inr (4, [.ref q1, .int 0, .int 0, .ref q2, .ref q3, .ref q4, .ref q5, .int 0, .int 0, .ref q6, .int 0, .long 0])), (q1, .inl (γ.2 0, 354, .inl (upd (upd (upd (upd (fun _ => 0) 1 20) 2 255) 51 100) 52 100))), (q2, .inl (γ.2 0, 8, .inl (fun _ => 0))), (q3, .inl (γ.2 1, 8, .inr (.inl (fun _ => 0)))), (q4, .inl (γ.2 2, 32, .inl (fun _ => 0))), (q5, .inl (γ.2 0, 120, .inl (fun _ => 0))), (q6, .inl (γ.2 2, 64, .inl (fun _ => 0)))] H := hP
  have hD : va_D A [(h0, .inr (4, [.ref q1, .int 0, .int 0, .ref q2, .ref q3, .ref q4, .ref q5, .int 0, .int 0, .ref q6, .int 0, .long 0])), (q1, .inl (γ.2 0, 354, .inl (upd (upd (upd (upd (fun _ => 0) 1 20) 2 255) 51 100) 52 100))), (q2, .inl (γ.2 0, 8, .inl (fun _ => 0))), (q3, .inl (γ.2 1, 8, .inr (.inl (fun _ => 0)))), (q4, .inl (γ.2 2, 32, .inl (fun _ => 0))), (q5, .inl (γ.2 0, 120, .inl (fun _ => 0))), (q6, .inl (γ.2 2, 64, .inl (fun _ => 0)))] := hD
  refine lv_iinc (v := 2) (lv' := [(1, .int 2), (0, .ref h0)]) hx hb dI_X4_89 hl (k := 0) rfl (by decide) (by decide) rfl (fun ls hl => ?_)
  refine lv_goto (tgt := 72) hx hb dI_X4_92 (by decide) ?_
  refine lv_iload_n hx hb dI_X4_72 rfl (lv_at hl 0 rfl) ?_
  refine lv_bipush (v := 8) hx hb dI_X4_73 (by decide) ?_
  refine lv_icmp_ge (tgt := 95) hx hb dI_X4_75 (by decide) (fun c9 => ?_) (fun c9 => ?_)
  · exact absurd c9 (by decide)
  refine lv_aload_n hx hb dI_X4_78 rfl (lv_at hl 1 rfl) ?_
  refine va_get (D := γ.1) (ci := 4) (v := .ref q1) (C := RX4) (T := TX4) (N := 12) hx hb hts (fun w hw => List.mem_cons_of_mem _ ((cl_facts 4 _ rfl).1 w hw)) hown hK hP 0 rfl rfl 0 (by decide) (hwB (.fieldLink RX4 7 RX4 "row" "[I") (by decide +kernel)) (fun _ h9 => h9) rfl dI_X4_79 ?_
  refine lv_bipush (v := 51) hx hb dI_X4_82 (by decide) ?_
  refine lv_iload_n hx hb dI_X4_84 rfl (lv_at hl 0 rfl) ?_
  refine lv_iadd hx hb dI_X4_85 ?_
  rw [show (51 : Int32) + 2 = 53 from rfl]
  refine lv_bipush (v := 100) hx hb dI_X4_86 (by decide) ?_
  refine va_iast hx hb hK hP hD hS 1 0 rfl rfl (i := 53) (x := 100) (by unfold vp_in; decide) dI_X4_88 (fun H locs hP hD hS => ?_)
  have hP : va_P γ.1 vwCl [(h0, .inr (4, [.ref q1, .int 0, .int 0, .ref q2, .ref q3, .ref q4, .ref q5, .int 0, .int 0, .ref q6, .int 0, .long 0])), (q1, .inl (γ.2 0, 354, .inl (upd (upd (upd (upd (upd (fun _ => 0) 1 20) 2 255) 51 100) 52 100) 53 100))), (q2, .inl (γ.2 0, 8, .inl (fun _ => 0))), (q3, .inl (γ.2 1, 8, .inr (.inl (fun _ => 0)))), (q4, .inl (γ.2 2, 32, .inl (fun _ => 0))), (q5, .inl (γ.2 0, 120, .inl (fun _ => 0))), (q6, .inl (γ.2 2, 64, .inl (fun _ => 0)))] H := hP
  have hD : va_D A [(h0, .inr (4, [.ref q1, .int 0, .int 0, .ref q2, .ref q3, .ref q4, .ref q5, .int 0, .int 0, .ref q6, .int 0, .long 0])), (q1, .inl (γ.2 0, 354, .inl (upd (upd (upd (upd (upd (fun _ => 0) 1 20) 2 255) 51 100) 52 100) 53 100))), (q2, .inl (γ.2 0, 8, .inl (fun _ => 0))), (q3, .inl (γ.2 1, 8, .inr (.inl (fun _ => 0)))), (q4, .inl (γ.2 2, 32, .inl (fun _ => 0))), (q5, .inl (γ.2 0, 120, .inl (fun _ => 0))), (q6, .inl (γ.2 2, 64, .inl (fun _ => 0)))] := hD
  refine lv_iinc (v := 3) (lv' := [(1, .int 3), (0, .ref h0)]) hx hb dI_X4_89 hl (k := 0) rfl (by decide) (by decide) rfl (fun ls hl => ?_)
  refine lv_goto (tgt := 72) hx hb dI_X4_92 (by decide) ?_
  refine lv_iload_n hx hb dI_X4_72 rfl (lv_at hl 0 rfl) ?_
  refine lv_bipush (v := 8) hx hb dI_X4_73 (by decide) ?_
  refine lv_icmp_ge (tgt := 95) hx hb dI_X4_75 (by decide) (fun c9 => ?_) (fun c9 => ?_)
  · exact absurd c9 (by decide)
  refine lv_aload_n hx hb dI_X4_78 rfl (lv_at hl 1 rfl) ?_
  refine va_get (D := γ.1) (ci := 4) (v := .ref q1) (C := RX4) (T := TX4) (N := 12) hx hb hts (fun w hw => List.mem_cons_of_mem _ ((cl_facts 4 _ rfl).1 w hw)) hown hK hP 0 rfl rfl 0 (by decide) (hwB (.fieldLink RX4 7 RX4 "row" "[I") (by decide +kernel)) (fun _ h9 => h9) rfl dI_X4_79 ?_
  refine lv_bipush (v := 51) hx hb dI_X4_82 (by decide) ?_
  refine lv_iload_n hx hb dI_X4_84 rfl (lv_at hl 0 rfl) ?_
  refine lv_iadd hx hb dI_X4_85 ?_
  rw [show (51 : Int32) + 3 = 54 from rfl]
  refine lv_bipush (v := 100) hx hb dI_X4_86 (by decide) ?_
  refine va_iast hx hb hK hP hD hS 1 0 rfl rfl (i := 54) (x := 100) (by unfold vp_in; decide) dI_X4_88 (fun H locs hP hD hS => ?_)
  have hP : va_P γ.1 vwCl [(h0, .inr (4, [.ref q1, .int 0, .int 0, .ref q2, .ref q3, .ref q4, .ref q5, .int 0, .int 0, .ref q6, .int 0, .long 0])), (q1, .inl (γ.2 0, 354, .inl (upd (upd (upd (upd (upd (upd (fun _ => 0) 1 20) 2 255) 51 100) 52 100) 53 100) 54 100))), (q2, .inl (γ.2 0, 8, .inl (fun _ => 0))), (q3, .inl (γ.2 1, 8, .inr (.inl (fun _ => 0)))), (q4, .inl (γ.2 2, 32, .inl (fun _ => 0))), (q5, .inl (γ.2 0, 120, .inl (fun _ => 0))), (q6, .inl (γ.2 2, 64, .inl (fun _ => 0)))] H := hP
  have hD : va_D A [(h0, .inr (4, [.ref q1, .int 0, .int 0, .ref q2, .ref q3, .ref q4, .ref q5, .int 0, .int 0, .ref q6, .int 0, .long 0])), (q1, .inl (γ.2 0, 354, .inl (upd (upd (upd (upd (upd (upd (fun _ => 0) 1 20) 2 255) 51 100) 52 100) 53 100) 54 100))), (q2, .inl (γ.2 0, 8, .inl (fun _ => 0))), (q3, .inl (γ.2 1, 8, .inr (.inl (fun _ => 0)))), (q4, .inl (γ.2 2, 32, .inl (fun _ => 0))), (q5, .inl (γ.2 0, 120, .inl (fun _ => 0))), (q6, .inl (γ.2 2, 64, .inl (fun _ => 0)))] := hD
  refine lv_iinc (v := 4) (lv' := [(1, .int 4), (0, .ref h0)]) hx hb dI_X4_89 hl (k := 0) rfl (by decide) (by decide) rfl (fun ls hl => ?_)
  refine lv_goto (tgt := 72) hx hb dI_X4_92 (by decide) ?_
  refine lv_iload_n hx hb dI_X4_72 rfl (lv_at hl 0 rfl) ?_
  refine lv_bipush (v := 8) hx hb dI_X4_73 (by decide) ?_
  refine lv_icmp_ge (tgt := 95) hx hb dI_X4_75 (by decide) (fun c9 => ?_) (fun c9 => ?_)
  · exact absurd c9 (by decide)
  refine lv_aload_n hx hb dI_X4_78 rfl (lv_at hl 1 rfl) ?_
  refine va_get (D := γ.1) (ci := 4) (v := .ref q1) (C := RX4) (T := TX4) (N := 12) hx hb hts (fun w hw => List.mem_cons_of_mem _ ((cl_facts 4 _ rfl).1 w hw)) hown hK hP 0 rfl rfl 0 (by decide) (hwB (.fieldLink RX4 7 RX4 "row" "[I") (by decide +kernel)) (fun _ h9 => h9) rfl dI_X4_79 ?_
  refine lv_bipush (v := 51) hx hb dI_X4_82 (by decide) ?_
  refine lv_iload_n hx hb dI_X4_84 rfl (lv_at hl 0 rfl) ?_
  refine lv_iadd hx hb dI_X4_85 ?_
  rw [show (51 : Int32) + 4 = 55 from rfl]
  refine lv_bipush (v := 100) hx hb dI_X4_86 (by decide) ?_
  refine va_iast hx hb hK hP hD hS 1 0 rfl rfl (i := 55) (x := 100) (by unfold vp_in; decide) dI_X4_88 (fun H locs hP hD hS => ?_)
  have hP : va_P γ.1 vwCl [(h0, .inr (4, [.ref q1, .int 0, .int 0, .ref q2, .ref q3, .ref q4, .ref q5, .int 0, .int 0, .ref q6, .int 0, .long 0])), (q1, .inl (γ.2 0, 354, .inl (upd (upd (upd (upd (upd (upd (upd (fun _ => 0) 1 20) 2 255) 51 100) 52 100) 53 100) 54 100) 55 100))), (q2, .inl (γ.2 0, 8, .inl (fun _ => 0))), (q3, .inl (γ.2 1, 8, .inr (.inl (fun _ => 0)))), (q4, .inl (γ.2 2, 32, .inl (fun _ => 0))), (q5, .inl (γ.2 0, 120, .inl (fun _ => 0))), (q6, .inl (γ.2 2, 64, .inl (fun _ => 0)))] H := hP
  have hD : va_D A [(h0, .inr (4, [.ref q1, .int 0, .int 0, .ref q2, .ref q3, .ref q4, .ref q5, .int 0, .int 0, .ref q6, .int 0, .long 0])), (q1, .inl (γ.2 0, 354, .inl (upd (upd (upd (upd (upd (upd (upd (fun _ => 0) 1 20) 2 255) 51 100) 52 100) 53 100) 54 100) 55 100))), (q2, .inl (γ.2 0, 8, .inl (fun _ => 0))), (q3, .inl (γ.2 1, 8, .inr (.inl (fun _ => 0)))), (q4, .inl (γ.2 2, 32, .inl (fun _ => 0))), (q5, .inl (γ.2 0, 120, .inl (fun _ => 0))), (q6, .inl (γ.2 2, 64, .inl (fun _ => 0)))] := hD
  refine lv_iinc (v := 5) (lv' := [(1, .int 5), (0, .ref h0)]) hx hb dI_X4_89 hl (k := 0) rfl (by decide) (by decide) rfl (fun ls hl => ?_)
  refine lv_goto (tgt := 72) hx hb dI_X4_92 (by decide) ?_
  refine lv_iload_n hx hb dI_X4_72 rfl (lv_at hl 0 rfl) ?_
  refine lv_bipush (v := 8) hx hb dI_X4_73 (by decide) ?_
  refine lv_icmp_ge (tgt := 95) hx hb dI_X4_75 (by decide) (fun c9 => ?_) (fun c9 => ?_)
  · exact absurd c9 (by decide)
  refine lv_aload_n hx hb dI_X4_78 rfl (lv_at hl 1 rfl) ?_
  refine va_get (D := γ.1) (ci := 4) (v := .ref q1) (C := RX4) (T := TX4) (N := 12) hx hb hts (fun w hw => List.mem_cons_of_mem _ ((cl_facts 4 _ rfl).1 w hw)) hown hK hP 0 rfl rfl 0 (by decide) (hwB (.fieldLink RX4 7 RX4 "row" "[I") (by decide +kernel)) (fun _ h9 => h9) rfl dI_X4_79 ?_
  refine lv_bipush (v := 51) hx hb dI_X4_82 (by decide) ?_
  refine lv_iload_n hx hb dI_X4_84 rfl (lv_at hl 0 rfl) ?_
  refine lv_iadd hx hb dI_X4_85 ?_
  rw [show (51 : Int32) + 5 = 56 from rfl]
  refine lv_bipush (v := 100) hx hb dI_X4_86 (by decide) ?_
  refine va_iast hx hb hK hP hD hS 1 0 rfl rfl (i := 56) (x := 100) (by unfold vp_in; decide) dI_X4_88 (fun H locs hP hD hS => ?_)
  have hP : va_P γ.1 vwCl [(h0, .inr (4, [.ref q1, .int 0, .int 0, .ref q2, .ref q3, .ref q4, .ref q5, .int 0, .int 0, .ref q6, .int 0, .long 0])), (q1, .inl (γ.2 0, 354, .inl (upd (upd (upd (upd (upd (upd (upd (upd (fun _ => 0) 1 20) 2 255) 51 100) 52 100) 53 100) 54 100) 55 100) 56 100))), (q2, .inl (γ.2 0, 8, .inl (fun _ => 0))), (q3, .inl (γ.2 1, 8, .inr (.inl (fun _ => 0)))), (q4, .inl (γ.2 2, 32, .inl (fun _ => 0))), (q5, .inl (γ.2 0, 120, .inl (fun _ => 0))), (q6, .inl (γ.2 2, 64, .inl (fun _ => 0)))] H := hP
  have hD : va_D A [(h0, .inr (4, [.ref q1, .int 0, .int 0, .ref q2, .ref q3, .ref q4, .ref q5, .int 0, .int 0, .ref q6, .int 0, .long 0])), (q1, .inl (γ.2 0, 354, .inl (upd (upd (upd (upd (upd (upd (upd (upd (fun _ => 0) 1 20) 2 255) 51 100) 52 100) 53 100) 54 100) 55 100) 56 100))), (q2, .inl (γ.2 0, 8, .inl (fun _ => 0))), (q3, .inl (γ.2 1, 8, .inr (.inl (fun _ => 0)))), (q4, .inl (γ.2 2, 32, .inl (fun _ => 0))), (q5, .inl (γ.2 0, 120, .inl (fun _ => 0))), (q6, .inl (γ.2 2, 64, .inl (fun _ => 0)))] := hD
  refine lv_iinc (v := 6) (lv' := [(1, .int 6), (0, .ref h0)]) hx hb dI_X4_89 hl (k := 0) rfl (by decide) (by decide) rfl (fun ls hl => ?_)
  refine lv_goto (tgt := 72) hx hb dI_X4_92 (by decide) ?_
  refine lv_iload_n hx hb dI_X4_72 rfl (lv_at hl 0 rfl) ?_
  refine lv_bipush (v := 8) hx hb dI_X4_73 (by decide) ?_
  refine lv_icmp_ge (tgt := 95) hx hb dI_X4_75 (by decide) (fun c9 => ?_) (fun c9 => ?_)
  · exact absurd c9 (by decide)
  refine lv_aload_n hx hb dI_X4_78 rfl (lv_at hl 1 rfl) ?_
  refine va_get (D := γ.1) (ci := 4) (v := .ref q1) (C := RX4) (T := TX4) (N := 12) hx hb hts (fun w hw => List.mem_cons_of_mem _ ((cl_facts 4 _ rfl).1 w hw)) hown hK hP 0 rfl rfl 0 (by decide) (hwB (.fieldLink RX4 7 RX4 "row" "[I") (by decide +kernel)) (fun _ h9 => h9) rfl dI_X4_79 ?_
  refine lv_bipush (v := 51) hx hb dI_X4_82 (by decide) ?_
  refine lv_iload_n hx hb dI_X4_84 rfl (lv_at hl 0 rfl) ?_
  refine lv_iadd hx hb dI_X4_85 ?_
  rw [show (51 : Int32) + 6 = 57 from rfl]
  refine lv_bipush (v := 100) hx hb dI_X4_86 (by decide) ?_
  refine va_iast hx hb hK hP hD hS 1 0 rfl rfl (i := 57) (x := 100) (by unfold vp_in; decide) dI_X4_88 (fun H locs hP hD hS => ?_)
  have hP : va_P γ.1 vwCl [(h0, .inr (4, [.ref q1, .int 0, .int 0, .ref q2, .ref q3, .ref q4, .ref q5, .int 0, .int 0, .ref q6, .int 0, .long 0])), (q1, .inl (γ.2 0, 354, .inl (upd (upd (upd (upd (upd (upd (upd (upd (upd (fun _ => 0) 1 20) 2 255) 51 100) 52 100) 53 100) 54 100) 55 100) 56 100) 57 100))), (q2, .inl (γ.2 0, 8, .inl (fun _ => 0))), (q3, .inl (γ.2 1, 8, .inr (.inl (fun _ => 0)))), (q4, .inl (γ.2 2, 32, .inl (fun _ => 0))), (q5, .inl (γ.2 0, 120, .inl (fun _ => 0))), (q6, .inl (γ.2 2, 64, .inl (fun _ => 0)))] H := hP
  have hD : va_D A [(h0, .inr (4, [.ref q1, .int 0, .int 0, .ref q2, .ref q3, .ref q4, .ref q5, .int 0, .int 0, .ref q6, .int 0, .long 0])), (q1, .inl (γ.2 0, 354, .inl (upd (upd (upd (upd (upd (upd (upd (upd (upd (fun _ => 0) 1 20) 2 255) 51 100) 52 100) 53 100) 54 100) 55 100) 56 100) 57 100))), (q2, .inl (γ.2 0, 8, .inl (fun _ => 0))), (q3, .inl (γ.2 1, 8, .inr (.inl (fun _ => 0)))), (q4, .inl (γ.2 2, 32, .inl (fun _ => 0))), (q5, .inl (γ.2 0, 120, .inl (fun _ => 0))), (q6, .inl (γ.2 2, 64, .inl (fun _ => 0)))] := hD
  refine lv_iinc (v := 7) (lv' := [(1, .int 7), (0, .ref h0)]) hx hb dI_X4_89 hl (k := 0) rfl (by decide) (by decide) rfl (fun ls hl => ?_)
  refine lv_goto (tgt := 72) hx hb dI_X4_92 (by decide) ?_
  refine lv_iload_n hx hb dI_X4_72 rfl (lv_at hl 0 rfl) ?_
  refine lv_bipush (v := 8) hx hb dI_X4_73 (by decide) ?_
  refine lv_icmp_ge (tgt := 95) hx hb dI_X4_75 (by decide) (fun c9 => ?_) (fun c9 => ?_)
  · exact absurd c9 (by decide)
  refine lv_aload_n hx hb dI_X4_78 rfl (lv_at hl 1 rfl) ?_
  refine va_get (D := γ.1) (ci := 4) (v := .ref q1) (C := RX4) (T := TX4) (N := 12) hx hb hts (fun w hw => List.mem_cons_of_mem _ ((cl_facts 4 _ rfl).1 w hw)) hown hK hP 0 rfl rfl 0 (by decide) (hwB (.fieldLink RX4 7 RX4 "row" "[I") (by decide +kernel)) (fun _ h9 => h9) rfl dI_X4_79 ?_
  refine lv_bipush (v := 51) hx hb dI_X4_82 (by decide) ?_
  refine lv_iload_n hx hb dI_X4_84 rfl (lv_at hl 0 rfl) ?_
  refine lv_iadd hx hb dI_X4_85 ?_
  rw [show (51 : Int32) + 7 = 58 from rfl]
  refine lv_bipush (v := 100) hx hb dI_X4_86 (by decide) ?_
  refine va_iast hx hb hK hP hD hS 1 0 rfl rfl (i := 58) (x := 100) (by unfold vp_in; decide) dI_X4_88 (fun H locs hP hD hS => ?_)
  have hP : va_P γ.1 vwCl [(h0, .inr (4, [.ref q1, .int 0, .int 0, .ref q2, .ref q3, .ref q4, .ref q5, .int 0, .int 0, .ref q6, .int 0, .long 0])), (q1, .inl (γ.2 0, 354, .inl (upd (upd (upd (upd (upd (upd (upd (upd (upd (upd (fun _ => 0) 1 20) 2 255) 51 100) 52 100) 53 100) 54 100) 55 100) 56 100) 57 100) 58 100))), (q2, .inl (γ.2 0, 8, .inl (fun _ => 0))), (q3, .inl (γ.2 1, 8, .inr (.inl (fun _ => 0)))), (q4, .inl (γ.2 2, 32, .inl (fun _ => 0))), (q5, .inl (γ.2 0, 120, .inl (fun _ => 0))), (q6, .inl (γ.2 2, 64, .inl (fun _ => 0)))] H := hP
  have hD : va_D A [(h0, .inr (4, [.ref q1, .int 0, .int 0, .ref q2, .ref q3, .ref q4, .ref q5, .int 0, .int 0, .ref q6, .int 0, .long 0])), (q1, .inl (γ.2 0, 354, .inl (upd (upd (upd (upd (upd (upd (upd (upd (upd (upd (fun _ => 0) 1 20) 2 255) 51 100) 52 100) 53 100) 54 100) 55 100) 56 100) 57 100) 58 100))), (q2, .inl (γ.2 0, 8, .inl (fun _ => 0))), (q3, .inl (γ.2 1, 8, .inr (.inl (fun _ => 0)))), (q4, .inl (γ.2 2, 32, .inl (fun _ => 0))), (q5, .inl (γ.2 0, 120, .inl (fun _ => 0))), (q6, .inl (γ.2 2, 64, .inl (fun _ => 0)))] := hD
  refine lv_iinc (v := 8) (lv' := [(1, .int 8), (0, .ref h0)]) hx hb dI_X4_89 hl (k := 0) rfl (by decide) (by decide) rfl (fun ls hl => ?_)
  refine lv_goto (tgt := 72) hx hb dI_X4_92 (by decide) ?_
  refine lv_iload_n hx hb dI_X4_72 rfl (lv_at hl 0 rfl) ?_
  refine lv_bipush (v := 8) hx hb dI_X4_73 (by decide) ?_
  refine lv_icmp_ge (tgt := 95) hx hb dI_X4_75 (by decide) (fun c9 => ?_) (fun c9 => ?_)
  rotate_left
  · exact absurd (by decide) c9
  have hP9 := hP.sub (ws' := w_X4 γ h0 (q1, q2, q3, q4, q5, q6, upd (upd (upd (upd (upd (upd (upd (upd (upd (upd (fun _ => 0) 1 20) 2 255) 51 100) 52 100) 53 100) 54 100) 55 100) 56 100) 57 100) 58 100)) [0, 1, 2, 3, 4, 5, 6] rfl
  have hD9 := hD.sub (ws' := w_X4 γ h0 (q1, q2, q3, q4, q5, q6, upd (upd (upd (upd (upd (upd (upd (upd (upd (upd (fun _ => 0) 1 20) 2 255) 51 100) 52 100) 53 100) 54 100) 55 100) 56 100) 57 100) 58 100)) [0, 1, 2, 3, 4, 5, 6] (by decide) rfl
  exact W.vret hx hb hr (fun t ht hW => ⟨⟨(q1, q2, q3, q4, q5, q6, upd (upd (upd (upd (upd (upd (upd (upd (upd (upd (fun _ => 0) 1 20) 2 255) 51 100) 52 100) 53 100) 54 100) 55 100) 56 100) 57 100) 58 100), rfl, ⟨rfl, rfl, rfl, all8 rfl rfl rfl rfl rfl rfl rfl rfl⟩, by rw [ht]; exact hP9, hD9⟩, hS.F ht⟩) hS.2.2 dI_X4_95
end CTOR4
