section CTOR1
theorem dI_X1_0 : decode cX1_init 0 = .ok (.aload_n 0, 1) := by decide +kernel
theorem dI_X1_1 : decode cX1_init 1 = .ok (.invokespecial 3, 3) := by decide +kernel
theorem dI_X1_4 : decode cX1_init 4 = .ok (.aload_n 0, 1) := by decide +kernel
theorem dI_X1_5 : decode cX1_init 5 = .ok (.bipush 8, 2) := by decide +kernel
theorem dI_X1_7 : decode cX1_init 7 = .ok (.newarray .int, 2) := by decide +kernel
theorem dI_X1_9 : decode cX1_init 9 = .ok (.putfield 9, 3) := by decide +kernel
theorem dI_X1_12 : decode cX1_init 12 = .ok (.aload_n 0, 1) := by decide +kernel
theorem dI_X1_13 : decode cX1_init 13 = .ok (.bipush 8, 2) := by decide +kernel
theorem dI_X1_15 : decode cX1_init 15 = .ok (.newarray .int, 2) := by decide +kernel
theorem dI_X1_17 : decode cX1_init 17 = .ok (.putfield 15, 3) := by decide +kernel
theorem dI_X1_20 : decode cX1_init 20 = .ok (.aload_n 0, 1) := by decide +kernel
theorem dI_X1_21 : decode cX1_init 21 = .ok (.lconst 0, 1) := by decide +kernel
theorem dI_X1_22 : decode cX1_init 22 = .ok (.putfield 18, 3) := by decide +kernel
theorem dI_X1_25 : decode cX1_init 25 = .ok (.aload_n 0, 1) := by decide +kernel
theorem dI_X1_26 : decode cX1_init 26 = .ok (.lconst 0, 1) := by decide +kernel
theorem dI_X1_27 : decode cX1_init 27 = .ok (.putfield 22, 3) := by decide +kernel
theorem dI_X1_30 : decode cX1_init 30 = .ok (.aload_n 0, 1) := by decide +kernel
theorem dI_X1_31 : decode cX1_init 31 = .ok (.lconst 0, 1) := by decide +kernel
theorem dI_X1_32 : decode cX1_init 32 = .ok (.putfield 25, 3) := by decide +kernel
theorem dI_X1_35 : decode cX1_init 35 = .ok (.aload_n 0, 1) := by decide +kernel
theorem dI_X1_36 : decode cX1_init 36 = .ok (.iconst (-1), 1) := by decide +kernel
theorem dI_X1_37 : decode cX1_init 37 = .ok (.putfield 28, 3) := by decide +kernel
theorem dI_X1_40 : decode cX1_init 40 = .ok (.aload_n 0, 1) := by decide +kernel
theorem dI_X1_41 : decode cX1_init 41 = .ok (.bipush 8, 2) := by decide +kernel
theorem dI_X1_43 : decode cX1_init 43 = .ok (.newarray .long, 2) := by decide +kernel
theorem dI_X1_45 : decode cX1_init 45 = .ok (.putfield 32, 3) := by decide +kernel
theorem dI_X1_48 : decode cX1_init 48 = .ok (.aload_n 0, 1) := by decide +kernel
theorem dI_X1_49 : decode cX1_init 49 = .ok (.iconst 0, 1) := by decide +kernel
theorem dI_X1_50 : decode cX1_init 50 = .ok (.putfield 36, 3) := by decide +kernel
theorem dI_X1_53 : decode cX1_init 53 = .ok (.return_, 1) := by decide +kernel
set_option maxHeartbeats 16000000 in
set_option maxRecDepth 100000 in
theorem k_X1 (l : Launch) (γ : GT) (h0 sz : Nat) : Met l yX1_init (wY yX1_init cX1_init 1 none) ({ frames := 4, cells := 3, slots := 24, locals := 400 }) (va_Pc [.ref h0] (fun U => U.heap.size = sz ∧ va_P γ.1 vwCl [(h0, .inr (1, [.null, .null, .long 0, .long 0, .long 0, .int 0, .null, .int 0]))] U.heap ∧ (va_K γ.1 vwCl (tysG γ) U ∧ NL U) ∧ va_D (fun _ => True) [(h0, .inr (1, [.null, .null, .long 0, .long 0, .long 0, .int 0, .null, .int 0]))])) (va_Qv (fun _ : PU => True) (fun u t => va_P γ.1 vwCl (w_X1 γ h0 u) t.heap ∧ va_D (va_A [(h0, .inr (1, [.null, .null, .long 0, .long 0, .long 0, .int 0, .null, .int 0]))] sz) (w_X1 γ h0 u)) (va_A [(h0, .inr (1, [.null, .null, .long 0, .long 0, .long 0, .int 0, .null, .int 0]))] sz)) 3 24 (va_A [(h0, .inr (1, [.null, .null, .long 0, .long 0, .long 0, .int 0, .null, .int 0]))] sz) := by
  refine Met.ofW (cc := cX1_init) (maxL := 1) (ret := none) (by decide) rfl ?_
  intro p e s m args below meth c s₁ B hml hv
  obtain ⟨rfl, hsz, hP, ⟨hK, hN⟩, hD0⟩ := hv
  have hx := B.exec
  have hb := B.bytes
  have hr := B.returns
  have hts := atoms_spec (ws := wY yX1_init cX1_init 1 none) B.pre
  have hwB : ∀ w : Cond, inB w = true → w.before (#[Value.ref h0]) s = true := fun w h => hts w (List.mem_cons_of_mem _ (inB_BW h))
  have hlw : ∀ w : Cond, decide (w ∈ lw_tbl) = true → goodWord w = true → w.before (#[Value.ref h0]) s = true := fun w h h2 => hwB w (by unfold inB; rw [h, h2]; rfl)
  have hown : s.vm.findClass RX1 = some m.cls := findClass_of_methodNamed B.named
  have hlocks := B.notSynchronized
  have hin : meth.name = "<init>" := (name_of_methodNamed B.named B.method).1
  subst hsz
  have hD := hD0.self (sz := s.heap.size)
  generalize hAe : va_A [(h0, .inr (1, [.null, .null, .long 0, .long 0, .long 0, .int 0, .null, .int 0]))] s.heap.size = A at hD ⊢
  have hA : ∀ q : Nat, s.heap.size ≤ q → A q := fun q h => by rw [← hAe]; exact Or.inr h
  have hS : va_S A s.heap s.heap [] := va_S.rf
  have hl := lv_entry ([.ref h0]) (n := 1) (Nat.le_of_ble_eq_true rfl)
  rw [lg_entry_eq]
  generalize (lg_sl ([.ref h0]) ++ List.replicate (1 - (lg_sl ([.ref h0])).length) Slot.unset).toArray = ls at hl ⊢
  have hl : lv_has ls 1 [(0, .ref h0)] := hl
  refine lv_aload_n hx hb dI_X1_0 rfl (lv_at hl 0 rfl) ?_
  refine W.objInit hx hb hown (hwB (.methodLink RX1 3 objectInit) (by decide +kernel)) (hwB (.instanceMethod objectInit) (by decide +kernel)) (hwB (.code objectInit ⟨#[0xb1]⟩ 1 none) (by decide +kernel)) rfl (by rw [hml]; exact hl.1) rfl dI_X1_1 (Nat.le_of_ble_eq_true rfl) (Nat.le_of_ble_eq_true rfl) ?_
  refine W.eq (g2 := F0 m 4 ls []) rfl ?_
  refine lv_aload_n hx hb dI_X1_4 rfl (lv_at hl 0 rfl) ?_
  refine lv_bipush (v := 8) hx hb dI_X1_5 (by decide) ?_
  refine newa_s (atype := .int) (ty := .int) (N' := 8) (a0 := (8, .inl (fun _ => 0))) hx hb (hwB (.arrayClass .int) (by decide +kernel)) rfl hK hP hD hS hA (t0 := 0) rfl (fun _ => rfl) (by decide) rfl (Nat.le_of_ble_eq_true rfl) (Nat.le_of_ble_eq_true rfl) (Nat.le_of_ble_eq_true rfl) dI_X1_7 (fun q1 H hP hD hS => ?_)
  have hP : va_P γ.1 vwCl [(h0, .inr (1, [.null, .null, .long 0, .long 0, .long 0, .int 0, .null, .int 0])), (q1, .inl (γ.2 0, 8, .inl (fun _ => 0)))] H := hP
  have hD : va_D A [(h0, .inr (1, [.null, .null, .long 0, .long 0, .long 0, .int 0, .null, .int 0])), (q1, .inl (γ.2 0, 8, .inl (fun _ => 0)))] := hD
  refine W.widen (k := 1) (n := 8) (Nat.le_of_ble_eq_true rfl) (Nat.le_of_ble_eq_true rfl) ?_
  refine va_putF (D := γ.1) (ci := 1) (v := .ref q1) (ty := .array .int) (C := RX1) (T := TX1) (N := 8) hx hb hts (fun w hw => List.mem_cons_of_mem _ ((cl_facts 1 _ rfl).1 w hw)) tyX1 tyX1_ok nmX1 hown hK hP hD hS 0 rfl rfl 0 (by decide) (hwB (.fieldLink RX1 9 RX1 "times" "[I") (by decide +kernel)) (fun _ h9 => h9) rfl hin rfl (by decide +kernel) rfl rfl (Nat.le_of_ble_eq_true rfl) dI_X1_9 (fun H locs hP hD hS => ?_)
  have hP : va_P γ.1 vwCl [(h0, .inr (1, [.ref q1, .null, .long 0, .long 0, .long 0, .int 0, .null, .int 0])), (q1, .inl (γ.2 0, 8, .inl (fun _ => 0)))] H := hP
  have hD : va_D A [(h0, .inr (1, [.ref q1, .null, .long 0, .long 0, .long 0, .int 0, .null, .int 0])), (q1, .inl (γ.2 0, 8, .inl (fun _ => 0)))] := hD
  refine lv_aload_n hx hb dI_X1_12 rfl (lv_at hl 0 rfl) ?_
  refine lv_bipush (v := 8) hx hb dI_X1_13 (by decide) ?_
  refine newa_s (atype := .int) (ty := .int) (N' := 8) (a0 := (8, .inl (fun _ => 0))) hx hb (hwB (.arrayClass .int) (by decide +kernel)) rfl hK hP hD hS hA (t0 := 0) rfl (fun _ => rfl) (by decide) rfl (Nat.le_of_ble_eq_true rfl) (Nat.le_of_ble_eq_true rfl) (Nat.le_of_ble_eq_true rfl) dI_X1_15 (fun q2 H hP hD hS => ?_)
  have hP : va_P γ.1 vwCl [(h0, .inr (1, [.ref q1, .null, .long 0, .long 0, .long 0, .int 0, .null, .int 0])), (q1, .inl (γ.2 0, 8, .inl (fun _ => 0))), (q2, .inl (γ.2 0, 8, .inl (fun _ => 0)))] H := hP
  have hD : va_D A [(h0, .inr (1, [.ref q1, .null, .long 0, .long 0, .long 0, .int 0, .null, .int 0])), (q1, .inl (γ.2 0, 8, .inl (fun _ => 0))), (q2, .inl (γ.2 0, 8, .inl (fun _ => 0)))] := hD
  refine W.widen (k := 2) (n := 16) (Nat.le_of_ble_eq_true rfl) (Nat.le_of_ble_eq_true rfl) ?_
  refine va_putF (D := γ.1) (ci := 1) (v := .ref q2) (ty := .array .int) (C := RX1) (T := TX1) (N := 8) hx hb hts (fun w hw => List.mem_cons_of_mem _ ((cl_facts 1 _ rfl).1 w hw)) tyX1 tyX1_ok nmX1 hown hK hP hD hS 0 rfl rfl 1 (by decide) (hwB (.fieldLink RX1 15 RX1 "wanted" "[I") (by decide +kernel)) (fun _ h9 => h9) rfl hin rfl (by decide +kernel) rfl rfl (Nat.le_of_ble_eq_true rfl) dI_X1_17 (fun H locs hP hD hS => ?_)
  have hP : va_P γ.1 vwCl [(h0, .inr (1, [.ref q1, .ref q2, .long 0, .long 0, .long 0, .int 0, .null, .int 0])), (q1, .inl (γ.2 0, 8, .inl (fun _ => 0))), (q2, .inl (γ.2 0, 8, .inl (fun _ => 0)))] H := hP
  have hD : va_D A [(h0, .inr (1, [.ref q1, .ref q2, .long 0, .long 0, .long 0, .int 0, .null, .int 0])), (q1, .inl (γ.2 0, 8, .inl (fun _ => 0))), (q2, .inl (γ.2 0, 8, .inl (fun _ => 0)))] := hD
  refine lv_aload_n hx hb dI_X1_20 rfl (lv_at hl 0 rfl) ?_
  refine lv_lconst (v := 0) hx hb dI_X1_21 (by decide) ?_
  refine va_put (D := γ.1) (ci := 1) (v := .long 0) (ty := .long) (C := RX1) (T := TX1) (N := 8) hx hb hts (fun w hw => List.mem_cons_of_mem _ ((cl_facts 1 _ rfl).1 w hw)) tyX1 tyX1_ok nmX1 hown hK hP hD hS 0 rfl rfl 2 (by decide) (hwB (.fieldLink RX1 18 RX1 "total" "J") (by decide +kernel)) (fun _ h9 => h9) rfl (by decide +kernel) rfl rfl (Nat.le_of_ble_eq_true rfl) dI_X1_22 (fun H locs hP hD hS => ?_)
  have hP : va_P γ.1 vwCl [(h0, .inr (1, [.ref q1, .ref q2, .long 0, .long 0, .long 0, .int 0, .null, .int 0])), (q1, .inl (γ.2 0, 8, .inl (fun _ => 0))), (q2, .inl (γ.2 0, 8, .inl (fun _ => 0)))] H := hP
  have hD : va_D A [(h0, .inr (1, [.ref q1, .ref q2, .long 0, .long 0, .long 0, .int 0, .null, .int 0])), (q1, .inl (γ.2 0, 8, .inl (fun _ => 0))), (q2, .inl (γ.2 0, 8, .inl (fun _ => 0)))] := hD
  refine lv_aload_n hx hb dI_X1_25 rfl (lv_at hl 0 rfl) ?_
  refine lv_lconst (v := 0) hx hb dI_X1_26 (by decide) ?_
  refine va_put (D := γ.1) (ci := 1) (v := .long 0) (ty := .long) (C := RX1) (T := TX1) (N := 8) hx hb hts (fun w hw => List.mem_cons_of_mem _ ((cl_facts 1 _ rfl).1 w hw)) tyX1 tyX1_ok nmX1 hown hK hP hD hS 0 rfl rfl 3 (by decide) (hwB (.fieldLink RX1 22 RX1 "totalHeard" "J") (by decide +kernel)) (fun _ h9 => h9) rfl (by decide +kernel) rfl rfl (Nat.le_of_ble_eq_true rfl) dI_X1_27 (fun H locs hP hD hS => ?_)
  have hP : va_P γ.1 vwCl [(h0, .inr (1, [.ref q1, .ref q2, .long 0, .long 0, .long 0, .int 0, .null, .int 0])), (q1, .inl (γ.2 0, 8, .inl (fun _ => 0))), (q2, .inl (γ.2 0, 8, .inl (fun _ => 0)))] H := hP
  have hD : va_D A [(h0, .inr (1, [.ref q1, .ref q2, .long 0, .long 0, .long 0, .int 0, .null, .int 0])), (q1, .inl (γ.2 0, 8, .inl (fun _ => 0))), (q2, .inl (γ.2 0, 8, .inl (fun _ => 0)))] := hD
  refine lv_aload_n hx hb dI_X1_30 rfl (lv_at hl 0 rfl) ?_
  refine lv_lconst (v := 0) hx hb dI_X1_31 (by decide) ?_
  refine va_put (D := γ.1) (ci := 1) (v := .long 0) (ty := .long) (C := RX1) (T := TX1) (N := 8) hx hb hts (fun w hw => List.mem_cons_of_mem _ ((cl_facts 1 _ rfl).1 w hw)) tyX1 tyX1_ok nmX1 hown hK hP hD hS 0 rfl rfl 4 (by decide) (hwB (.fieldLink RX1 25 RX1 "bestWeight" "J") (by decide +kernel)) (fun _ h9 => h9) rfl (by decide +kernel) rfl rfl (Nat.le_of_ble_eq_true rfl) dI_X1_32 (fun H locs hP hD hS => ?_)
  have hP : va_P γ.1 vwCl [(h0, .inr (1, [.ref q1, .ref q2, .long 0, .long 0, .long 0, .int 0, .null, .int 0])), (q1, .inl (γ.2 0, 8, .inl (fun _ => 0))), (q2, .inl (γ.2 0, 8, .inl (fun _ => 0)))] H := hP
  have hD : va_D A [(h0, .inr (1, [.ref q1, .ref q2, .long 0, .long 0, .long 0, .int 0, .null, .int 0])), (q1, .inl (γ.2 0, 8, .inl (fun _ => 0))), (q2, .inl (γ.2 0, 8, .inl (fun _ => 0)))] := hD
  refine lv_aload_n hx hb dI_X1_35 rfl (lv_at hl 0 rfl) ?_
  refine lv_iconst (v := (-1)) hx hb dI_X1_36 (by decide) ?_
  refine va_put (D := γ.1) (ci := 1) (v := .int (-1)) (ty := .int) (C := RX1) (T := TX1) (N := 8) hx hb hts (fun w hw => List.mem_cons_of_mem _ ((cl_facts 1 _ rfl).1 w hw)) tyX1 tyX1_ok nmX1 hown hK hP hD hS 0 rfl rfl 5 (by decide) (hwB (.fieldLink RX1 28 RX1 "bestOutcome" "I") (by decide +kernel)) (fun _ h9 => h9) rfl (by decide +kernel) rfl rfl (Nat.le_of_ble_eq_true rfl) dI_X1_37 (fun H locs hP hD hS => ?_)
  have hP : va_P γ.1 vwCl [(h0, .inr (1, [.ref q1, .ref q2, .long 0, .long 0, .long 0, .int (-1), .null, .int 0])), (q1, .inl (γ.2 0, 8, .inl (fun _ => 0))), (q2, .inl (γ.2 0, 8, .inl (fun _ => 0)))] H := hP
  have hD : va_D A [(h0, .inr (1, [.ref q1, .ref q2, .long 0, .long 0, .long 0, .int (-1), .null, .int 0])), (q1, .inl (γ.2 0, 8, .inl (fun _ => 0))), (q2, .inl (γ.2 0, 8, .inl (fun _ => 0)))] := hD
  refine lv_aload_n hx hb dI_X1_40 rfl (lv_at hl 0 rfl) ?_
  refine lv_bipush (v := 8) hx hb dI_X1_41 (by decide) ?_
  refine newa_s (atype := .long) (ty := .long) (N' := 8) (a0 := (8, .inr (.inl (fun _ => 0)))) hx hb (hwB (.arrayClass .long) (by decide +kernel)) rfl hK hP hD hS hA (t0 := 1) rfl (fun _ => rfl) (by decide) rfl (Nat.le_of_ble_eq_true rfl) (Nat.le_of_ble_eq_true rfl) (Nat.le_of_ble_eq_true rfl) dI_X1_43 (fun q3 H hP hD hS => ?_)
  have hP : va_P γ.1 vwCl [(h0, .inr (1, [.ref q1, .ref q2, .long 0, .long 0, .long 0, .int (-1), .null, .int 0])), (q1, .inl (γ.2 0, 8, .inl (fun _ => 0))), (q2, .inl (γ.2 0, 8, .inl (fun _ => 0))), (q3, .inl (γ.2 1, 8, .inr (.inl (fun _ => 0))))] H := hP
  have hD : va_D A [(h0, .inr (1, [.ref q1, .ref q2, .long 0, .long 0, .long 0, .int (-1), .null, .int 0])), (q1, .inl (γ.2 0, 8, .inl (fun _ => 0))), (q2, .inl (γ.2 0, 8, .inl (fun _ => 0))), (q3, .inl (γ.2 1, 8, .inr (.inl (fun _ => 0))))] := hD
  refine W.widen (k := 3) (n := 24) (Nat.le_of_ble_eq_true rfl) (Nat.le_of_ble_eq_true rfl) ?_
  refine va_putF (D := γ.1) (ci := 1) (v := .ref q3) (ty := .array .long) (C := RX1) (T := TX1) (N := 8) hx hb hts (fun w hw => List.mem_cons_of_mem _ ((cl_facts 1 _ rfl).1 w hw)) tyX1 tyX1_ok nmX1 hown hK hP hD hS 0 rfl rfl 6 (by decide) (hwB (.fieldLink RX1 32 RX1 "met" "[J") (by decide +kernel)) (fun _ h9 => h9) rfl hin rfl (by decide +kernel) rfl rfl (Nat.le_of_ble_eq_true rfl) dI_X1_45 (fun H locs hP hD hS => ?_)
  have hP : va_P γ.1 vwCl [(h0, .inr (1, [.ref q1, .ref q2, .long 0, .long 0, .long 0, .int (-1), .ref q3, .int 0])), (q1, .inl (γ.2 0, 8, .inl (fun _ => 0))), (q2, .inl (γ.2 0, 8, .inl (fun _ => 0))), (q3, .inl (γ.2 1, 8, .inr (.inl (fun _ => 0))))] H := hP
  have hD : va_D A [(h0, .inr (1, [.ref q1, .ref q2, .long 0, .long 0, .long 0, .int (-1), .ref q3, .int 0])), (q1, .inl (γ.2 0, 8, .inl (fun _ => 0))), (q2, .inl (γ.2 0, 8, .inl (fun _ => 0))), (q3, .inl (γ.2 1, 8, .inr (.inl (fun _ => 0))))] := hD
  refine lv_aload_n hx hb dI_X1_48 rfl (lv_at hl 0 rfl) ?_
  refine lv_iconst (v := 0) hx hb dI_X1_49 (by decide) ?_
  refine va_put (D := γ.1) (ci := 1) (v := .int 0) (ty := .boolean) (C := RX1) (T := TX1) (N := 8) hx hb hts (fun w hw => List.mem_cons_of_mem _ ((cl_facts 1 _ rfl).1 w hw)) tyX1 tyX1_ok nmX1 hown hK hP hD hS 0 rfl rfl 7 (by decide) (hwB (.fieldLink RX1 36 RX1 "anyWillDo" "Z") (by decide +kernel)) (fun _ h9 => h9) rfl (by decide +kernel) rfl rfl (Nat.le_of_ble_eq_true rfl) dI_X1_50 (fun H locs hP hD hS => ?_)
  have hP : va_P γ.1 vwCl [(h0, .inr (1, [.ref q1, .ref q2, .long 0, .long 0, .long 0, .int (-1), .ref q3, .int 0])), (q1, .inl (γ.2 0, 8, .inl (fun _ => 0))), (q2, .inl (γ.2 0, 8, .inl (fun _ => 0))), (q3, .inl (γ.2 1, 8, .inr (.inl (fun _ => 0))))] H := hP
  have hD : va_D A [(h0, .inr (1, [.ref q1, .ref q2, .long 0, .long 0, .long 0, .int (-1), .ref q3, .int 0])), (q1, .inl (γ.2 0, 8, .inl (fun _ => 0))), (q2, .inl (γ.2 0, 8, .inl (fun _ => 0))), (q3, .inl (γ.2 1, 8, .inr (.inl (fun _ => 0))))] := hD
  have hP9 := hP.sub (ws' := w_X1 γ h0 (q1, q2, q3)) [0, 1, 2, 3] rfl
  have hD9 := hD.sub (ws' := w_X1 γ h0 (q1, q2, q3)) [0, 1, 2, 3] (by decide) rfl
  exact W.vret hx hb hr (fun t ht hW => ⟨⟨(q1, q2, q3), rfl, trivial, by rw [ht]; exact hP9, hD9⟩, hS.F ht⟩) hS.2.2 dI_X1_53
theorem dI_X2_0 : decode cX2_init 0 = .ok (.aload_n 0, 1) := by decide +kernel
theorem dI_X2_1 : decode cX2_init 1 = .ok (.invokespecial 3, 3) := by decide +kernel
theorem dI_X2_4 : decode cX2_init 4 = .ok (.aload_n 0, 1) := by decide +kernel
theorem dI_X2_5 : decode cX2_init 5 = .ok (.bipush 120, 2) := by decide +kernel
theorem dI_X2_7 : decode cX2_init 7 = .ok (.newarray .int, 2) := by decide +kernel
theorem dI_X2_9 : decode cX2_init 9 = .ok (.putfield 9, 3) := by decide +kernel
theorem dI_X2_12 : decode cX2_init 12 = .ok (.aload_n 0, 1) := by decide +kernel
theorem dI_X2_13 : decode cX2_init 13 = .ok (.iconst 0, 1) := by decide +kernel
theorem dI_X2_14 : decode cX2_init 14 = .ok (.putfield 15, 3) := by decide +kernel
theorem dI_X2_17 : decode cX2_init 17 = .ok (.aload_n 0, 1) := by decide +kernel
theorem dI_X2_18 : decode cX2_init 18 = .ok (.new 19, 3) := by decide +kernel
theorem dI_X2_21 : decode cX2_init 21 = .ok (.dup, 1) := by decide +kernel
theorem dI_X2_22 : decode cX2_init 22 = .ok (.invokespecial 21, 3) := by decide +kernel
theorem dI_X2_25 : decode cX2_init 25 = .ok (.putfield 22, 3) := by decide +kernel
theorem dI_X2_28 : decode cX2_init 28 = .ok (.aload_n 0, 1) := by decide +kernel
theorem dI_X2_29 : decode cX2_init 29 = .ok (.iconst 0, 1) := by decide +kernel
theorem dI_X2_30 : decode cX2_init 30 = .ok (.putfield 26, 3) := by decide +kernel
theorem dI_X2_33 : decode cX2_init 33 = .ok (.aload_n 0, 1) := by decide +kernel
theorem dI_X2_34 : decode cX2_init 34 = .ok (.iconst (-1), 1) := by decide +kernel
theorem dI_X2_35 : decode cX2_init 35 = .ok (.putfield 29, 3) := by decide +kernel
theorem dI_X2_38 : decode cX2_init 38 = .ok (.return_, 1) := by decide +kernel
set_option maxHeartbeats 16000000 in
set_option maxRecDepth 100000 in
theorem k_X2 (l : Launch) (γ : GT) (h0 sz : Nat) : Met l yX2_init (wY yX2_init cX2_init 1 none) ({ frames := 8, cells := 7, slots := 184, locals := 800 }) (va_Pc [.ref h0] (fun U => U.heap.size = sz ∧ va_P γ.1 vwCl [(h0, .inr (2, [.null, .int 0, .null, .int 0, .int 0]))] U.heap ∧ (va_K γ.1 vwCl (tysG γ) U ∧ NL U) ∧ va_D (fun _ => True) [(h0, .inr (2, [.null, .int 0, .null, .int 0, .int 0]))])) (va_Qv (fun u : TU => ∀ v, v < 8 → u.2.2.2.2.2.2.2 v = 100) (fun u t => va_P γ.1 vwCl (w_X2 γ h0 u) t.heap ∧ va_D (va_A [(h0, .inr (2, [.null, .int 0, .null, .int 0, .int 0]))] sz) (w_X2 γ h0 u)) (va_A [(h0, .inr (2, [.null, .int 0, .null, .int 0, .int 0]))] sz)) 7 184 (va_A [(h0, .inr (2, [.null, .int 0, .null, .int 0, .int 0]))] sz) := by
  refine Met.ofW (cc := cX2_init) (maxL := 1) (ret := none) (by decide) rfl ?_
  intro p e s m args below meth c s₁ B hml hv
  obtain ⟨rfl, hsz, hP, ⟨hK, hN⟩, hD0⟩ := hv
  have hx := B.exec
  have hb := B.bytes
  have hr := B.returns
  have hts := atoms_spec (ws := wY yX2_init cX2_init 1 none) B.pre
  have hwB : ∀ w : Cond, inB w = true → w.before (#[Value.ref h0]) s = true := fun w h => hts w (List.mem_cons_of_mem _ (inB_BW h))
  have hlw : ∀ w : Cond, decide (w ∈ lw_tbl) = true → goodWord w = true → w.before (#[Value.ref h0]) s = true := fun w h h2 => hwB w (by unfold inB; rw [h, h2]; rfl)
  have hown : s.vm.findClass RX2 = some m.cls := findClass_of_methodNamed B.named
  have hlocks := B.notSynchronized
  have hin : meth.name = "<init>" := (name_of_methodNamed B.named B.method).1
  subst hsz
  have hD := hD0.self (sz := s.heap.size)
  generalize hAe : va_A [(h0, .inr (2, [.null, .int 0, .null, .int 0, .int 0]))] s.heap.size = A at hD ⊢
  have hA : ∀ q : Nat, s.heap.size ≤ q → A q := fun q h => by rw [← hAe]; exact Or.inr h
  have hS : va_S A s.heap s.heap [] := va_S.rf
  have hl := lv_entry ([.ref h0]) (n := 1) (Nat.le_of_ble_eq_true rfl)
  rw [lg_entry_eq]
  generalize (lg_sl ([.ref h0]) ++ List.replicate (1 - (lg_sl ([.ref h0])).length) Slot.unset).toArray = ls at hl ⊢
  have hl : lv_has ls 1 [(0, .ref h0)] := hl
  refine lv_aload_n hx hb dI_X2_0 rfl (lv_at hl 0 rfl) ?_
  refine W.objInit hx hb hown (hwB (.methodLink RX2 3 objectInit) (by decide +kernel)) (hwB (.instanceMethod objectInit) (by decide +kernel)) (hwB (.code objectInit ⟨#[0xb1]⟩ 1 none) (by decide +kernel)) rfl (by rw [hml]; exact hl.1) rfl dI_X2_1 (Nat.le_of_ble_eq_true rfl) (Nat.le_of_ble_eq_true rfl) ?_
  refine W.eq (g2 := F0 m 4 ls []) rfl ?_
  refine lv_aload_n hx hb dI_X2_4 rfl (lv_at hl 0 rfl) ?_
  refine lv_bipush (v := 120) hx hb dI_X2_5 (by decide) ?_
  refine newa_s (atype := .int) (ty := .int) (N' := 120) (a0 := (120, .inl (fun _ => 0))) hx hb (hwB (.arrayClass .int) (by decide +kernel)) rfl hK hP hD hS hA (t0 := 0) rfl (fun _ => rfl) (by decide) rfl (Nat.le_of_ble_eq_true rfl) (Nat.le_of_ble_eq_true rfl) (Nat.le_of_ble_eq_true rfl) dI_X2_7 (fun q1 H hP hD hS => ?_)
  have hP : va_P γ.1 vwCl [(h0, .inr (2, [.null, .int 0, .null, .int 0, .int 0])), (q1, .inl (γ.2 0, 120, .inl (fun _ => 0)))] H := hP
  have hD : va_D A [(h0, .inr (2, [.null, .int 0, .null, .int 0, .int 0])), (q1, .inl (γ.2 0, 120, .inl (fun _ => 0)))] := hD
  refine W.widen (k := 1) (n := 120) (Nat.le_of_ble_eq_true rfl) (Nat.le_of_ble_eq_true rfl) ?_
  refine va_putF (D := γ.1) (ci := 2) (v := .ref q1) (ty := .array .int) (C := RX2) (T := TX2) (N := 5) hx hb hts (fun w hw => List.mem_cons_of_mem _ ((cl_facts 2 _ rfl).1 w hw)) tyX2 tyX2_ok nmX2 hown hK hP hD hS 0 rfl rfl 0 (by decide) (hwB (.fieldLink RX2 9 RX2 "bytes" "[I") (by decide +kernel)) (fun _ h9 => h9) rfl hin rfl (by decide +kernel) rfl rfl (Nat.le_of_ble_eq_true rfl) dI_X2_9 (fun H locs hP hD hS => ?_)
  have hP : va_P γ.1 vwCl [(h0, .inr (2, [.ref q1, .int 0, .null, .int 0, .int 0])), (q1, .inl (γ.2 0, 120, .inl (fun _ => 0)))] H := hP
  have hD : va_D A [(h0, .inr (2, [.ref q1, .int 0, .null, .int 0, .int 0])), (q1, .inl (γ.2 0, 120, .inl (fun _ => 0)))] := hD
  refine lv_aload_n hx hb dI_X2_12 rfl (lv_at hl 0 rfl) ?_
  refine lv_iconst (v := 0) hx hb dI_X2_13 (by decide) ?_
  refine va_put (D := γ.1) (ci := 2) (v := .int 0) (ty := .int) (C := RX2) (T := TX2) (N := 5) hx hb hts (fun w hw => List.mem_cons_of_mem _ ((cl_facts 2 _ rfl).1 w hw)) tyX2 tyX2_ok nmX2 hown hK hP hD hS 0 rfl rfl 1 (by decide) (hwB (.fieldLink RX2 15 RX2 "size" "I") (by decide +kernel)) (fun _ h9 => h9) rfl (by decide +kernel) rfl rfl (Nat.le_of_ble_eq_true rfl) dI_X2_14 (fun H locs hP hD hS => ?_)
  have hP : va_P γ.1 vwCl [(h0, .inr (2, [.ref q1, .int 0, .null, .int 0, .int 0])), (q1, .inl (γ.2 0, 120, .inl (fun _ => 0)))] H := hP
  have hD : va_D A [(h0, .inr (2, [.ref q1, .int 0, .null, .int 0, .int 0])), (q1, .inl (γ.2 0, 120, .inl (fun _ => 0)))] := hD
  refine lv_aload_n hx hb dI_X2_17 rfl (lv_at hl 0 rfl) ?_
  refine va_new (ci := 0) (fs := [.null, .null, .null, .null, .int 0, .int 0, .null, .int 0]) (C := RX0) (T := TX0) (N := 8) hx hb hts (fun w hw => List.mem_cons_of_mem _ ((cl_facts 0 _ rfl).1 w hw)) tyX0 tyX0_ok hown (hwB (.classLink RX2 19 RX0) (by decide +kernel)) (hwB (.instantiable RX0 8) (by decide +kernel)) (hwB (.initialized RX0) (by decide +kernel)) hK hP hD hS hA rfl (fun j hj => by rcases (show j = 0 ∨ j = 1 ∨ j = 2 ∨ j = 3 ∨ j = 4 ∨ j = 5 ∨ j = 6 ∨ j = 7 by omega) with rfl | rfl | rfl | rfl | rfl | rfl | rfl | rfl <;> rfl) (Nat.le_of_ble_eq_true rfl) (Nat.le_of_ble_eq_true rfl) dI_X2_18 (fun q2 H hP hD hS => ?_)
  have hP : va_P γ.1 vwCl [(h0, .inr (2, [.ref q1, .int 0, .null, .int 0, .int 0])), (q1, .inl (γ.2 0, 120, .inl (fun _ => 0))), (q2, .inr (0, [.null, .null, .null, .null, .int 0, .int 0, .null, .int 0]))] H := hP
  have hD : va_D A [(h0, .inr (2, [.ref q1, .int 0, .null, .int 0, .int 0])), (q1, .inl (γ.2 0, 120, .inl (fun _ => 0))), (q2, .inr (0, [.null, .null, .null, .null, .int 0, .int 0, .null, .int 0]))] := hD
  refine W.widen (k := 2) (n := 128) (Nat.le_of_ble_eq_true rfl) (Nat.le_of_ble_eq_true rfl) ?_
  refine lv_dup hx hb dI_X2_21 rfl ?_
  have hPc := hP.sub (ws' := [(q2, .inr (0, [.null, .null, .null, .null, .int 0, .int 0, .null, .int 0]))]) [2] rfl
  have hDc := hD.sub (ws' := [(q2, .inr (0, [.null, .null, .null, .null, .int 0, .int 0, .null, .int 0]))]) [2] (by decide) rfl
  have hFc := va_free (wc := [(q2, .inr (0, [.null, .null, .null, .null, .int 0, .int 0, .null, .int 0]))]) hD hS hA [2] rfl
  refine va_callv (va_runIN (As := []) (rest := [.ref q2, .ref h0]) (host := "RumourSource") ⟨hx, hb, hml, hown, hts⟩ (k_X0 l γ q2 H.size) ⟨va_cnB 0 hts (goodBW (wY_BW (by decide +kernel))) rfl rfl rfl (hN.2 _ (by decide +kernel : (RX2, 21, yX0_init, "RumourSource") ∈ nwM)) (hwB (.initialized RX0) (by decide +kernel)) ⟨by decide +kernel, by decide +kernel, by decide +kernel⟩ ⟨Nat.le_of_ble_eq_true rfl, Nat.le_of_ble_eq_true rfl⟩, rfl, hwB (.instanceMethod yX0_init) (by decide +kernel)⟩ ⟨fun a U g mk q => by obtain ⟨q0, q1, qP, ⟨qK, qN⟩, qD⟩ := q; exact ⟨q0, q1, qP, ⟨va_K.moved (u := U) (U := U.calling g mk a) (Vm.Alike.refl U.vm) qK, NL.same (u := U) (U := U.calling g mk a) rfl qN⟩, qD⟩, fun U hU hW => ⟨rfl, by rw [hU], by rw [hU]; exact hPc, ⟨va_K.moved hW.alike hK, NL.warm hW hN⟩, hDc.weaken (fun _ _ _ _ => trivial)⟩⟩ rfl rfl hl.1 rfl (lv_room (Nat.le_of_ble_eq_true rfl)) dI_X2_22 ⟨Nat.le_of_ble_eq_true rfl, Nat.le_of_ble_eq_true rfl⟩) hS (fun q _ h => hFc q h) hFc (fun u t H1 locs ht hvm hw hB hz1 hk1 hS => ?_)
  obtain ⟨v3_a, v3_b, v3_c, v3_d, v3_e, v3_f⟩ := u
  obtain ⟨hP1, hD1⟩ := hB
  rw [ht] at hP1
  obtain ⟨hP, hD⟩ := va_join (wr := [(h0, .inr (2, [.ref q1, .int 0, .null, .int 0, .int 0])), (q1, .inl (γ.2 0, 120, .inl (fun _ => 0)))]) (w1 := [(q2, .inr (0, [.ref v3_a, .ref v3_b, .ref v3_c, .ref v3_d, .int 0, .int 20, .ref v3_e, .int 255])), (v3_a, .inl (γ.2 0, 12, .inl (fun _ => 0))), (v3_b, .inl (γ.2 0, 12, .inl (fun _ => 0))), (v3_c, .inl (γ.2 0, 12, .inl (fun _ => 0))), (v3_d, .inl (γ.2 0, 12, .inl (fun _ => 0))), (v3_e, .inl (γ.2 0, 8, .inl (v3_f)))]) hP hD [2] [0, 1] rfl rfl (by decide) (by decide) hk1 hFc hP1 hD1
  have hw3 := hw
  generalize H1 = H at hP hS ⊢
  have hP : va_P γ.1 vwCl [(h0, .inr (2, [.ref q1, .int 0, .null, .int 0, .int 0])), (q1, .inl (γ.2 0, 120, .inl (fun _ => 0))), (q2, .inr (0, [.ref v3_a, .ref v3_b, .ref v3_c, .ref v3_d, .int 0, .int 20, .ref v3_e, .int 255])), (v3_a, .inl (γ.2 0, 12, .inl (fun _ => 0))), (v3_b, .inl (γ.2 0, 12, .inl (fun _ => 0))), (v3_c, .inl (γ.2 0, 12, .inl (fun _ => 0))), (v3_d, .inl (γ.2 0, 12, .inl (fun _ => 0))), (v3_e, .inl (γ.2 0, 8, .inl (v3_f)))] H := hP
  have hD : va_D A [(h0, .inr (2, [.ref q1, .int 0, .null, .int 0, .int 0])), (q1, .inl (γ.2 0, 120, .inl (fun _ => 0))), (q2, .inr (0, [.ref v3_a, .ref v3_b, .ref v3_c, .ref v3_d, .int 0, .int 20, .ref v3_e, .int 255])), (v3_a, .inl (γ.2 0, 12, .inl (fun _ => 0))), (v3_b, .inl (γ.2 0, 12, .inl (fun _ => 0))), (v3_c, .inl (γ.2 0, 12, .inl (fun _ => 0))), (v3_d, .inl (γ.2 0, 12, .inl (fun _ => 0))), (v3_e, .inl (γ.2 0, 8, .inl (v3_f)))] := hD
  refine W.widen (k := 7) (n := 184) (Nat.le_of_ble_eq_true rfl) (Nat.le_of_ble_eq_true rfl) ?_
  refine va_putF (D := γ.1) (ci := 2) (v := .ref q2) (ty := .object "RumourSource$Scene") (C := RX2) (T := TX2) (N := 5) hx hb hts (fun w hw => List.mem_cons_of_mem _ ((cl_facts 2 _ rfl).1 w hw)) tyX2 tyX2_ok nmX2 hown hK hP hD hS 0 rfl rfl 2 (by decide) (hwB (.fieldLink RX2 22 RX2 "draft" "LRumourSource$Scene;") (by decide +kernel)) (fun _ h9 => h9) rfl hin rfl (by decide +kernel) rfl rfl (Nat.le_of_ble_eq_true rfl) dI_X2_25 (fun H locs hP hD hS => ?_)
  have hP : va_P γ.1 vwCl [(h0, .inr (2, [.ref q1, .int 0, .ref q2, .int 0, .int 0])), (q1, .inl (γ.2 0, 120, .inl (fun _ => 0))), (q2, .inr (0, [.ref v3_a, .ref v3_b, .ref v3_c, .ref v3_d, .int 0, .int 20, .ref v3_e, .int 255])), (v3_a, .inl (γ.2 0, 12, .inl (fun _ => 0))), (v3_b, .inl (γ.2 0, 12, .inl (fun _ => 0))), (v3_c, .inl (γ.2 0, 12, .inl (fun _ => 0))), (v3_d, .inl (γ.2 0, 12, .inl (fun _ => 0))), (v3_e, .inl (γ.2 0, 8, .inl (v3_f)))] H := hP
  have hD : va_D A [(h0, .inr (2, [.ref q1, .int 0, .ref q2, .int 0, .int 0])), (q1, .inl (γ.2 0, 120, .inl (fun _ => 0))), (q2, .inr (0, [.ref v3_a, .ref v3_b, .ref v3_c, .ref v3_d, .int 0, .int 20, .ref v3_e, .int 255])), (v3_a, .inl (γ.2 0, 12, .inl (fun _ => 0))), (v3_b, .inl (γ.2 0, 12, .inl (fun _ => 0))), (v3_c, .inl (γ.2 0, 12, .inl (fun _ => 0))), (v3_d, .inl (γ.2 0, 12, .inl (fun _ => 0))), (v3_e, .inl (γ.2 0, 8, .inl (v3_f)))] := hD
  refine lv_aload_n hx hb dI_X2_28 rfl (lv_at hl 0 rfl) ?_
  refine lv_iconst (v := 0) hx hb dI_X2_29 (by decide) ?_
  refine va_put (D := γ.1) (ci := 2) (v := .int 0) (ty := .int) (C := RX2) (T := TX2) (N := 5) hx hb hts (fun w hw => List.mem_cons_of_mem _ ((cl_facts 2 _ rfl).1 w hw)) tyX2 tyX2_ok nmX2 hown hK hP hD hS 0 rfl rfl 3 (by decide) (hwB (.fieldLink RX2 26 RX2 "at" "I") (by decide +kernel)) (fun _ h9 => h9) rfl (by decide +kernel) rfl rfl (Nat.le_of_ble_eq_true rfl) dI_X2_30 (fun H locs hP hD hS => ?_)
  have hP : va_P γ.1 vwCl [(h0, .inr (2, [.ref q1, .int 0, .ref q2, .int 0, .int 0])), (q1, .inl (γ.2 0, 120, .inl (fun _ => 0))), (q2, .inr (0, [.ref v3_a, .ref v3_b, .ref v3_c, .ref v3_d, .int 0, .int 20, .ref v3_e, .int 255])), (v3_a, .inl (γ.2 0, 12, .inl (fun _ => 0))), (v3_b, .inl (γ.2 0, 12, .inl (fun _ => 0))), (v3_c, .inl (γ.2 0, 12, .inl (fun _ => 0))), (v3_d, .inl (γ.2 0, 12, .inl (fun _ => 0))), (v3_e, .inl (γ.2 0, 8, .inl (v3_f)))] H := hP
  have hD : va_D A [(h0, .inr (2, [.ref q1, .int 0, .ref q2, .int 0, .int 0])), (q1, .inl (γ.2 0, 120, .inl (fun _ => 0))), (q2, .inr (0, [.ref v3_a, .ref v3_b, .ref v3_c, .ref v3_d, .int 0, .int 20, .ref v3_e, .int 255])), (v3_a, .inl (γ.2 0, 12, .inl (fun _ => 0))), (v3_b, .inl (γ.2 0, 12, .inl (fun _ => 0))), (v3_c, .inl (γ.2 0, 12, .inl (fun _ => 0))), (v3_d, .inl (γ.2 0, 12, .inl (fun _ => 0))), (v3_e, .inl (γ.2 0, 8, .inl (v3_f)))] := hD
  refine lv_aload_n hx hb dI_X2_33 rfl (lv_at hl 0 rfl) ?_
  refine lv_iconst (v := (-1)) hx hb dI_X2_34 (by decide) ?_
  refine va_put (D := γ.1) (ci := 2) (v := .int (-1)) (ty := .int) (C := RX2) (T := TX2) (N := 5) hx hb hts (fun w hw => List.mem_cons_of_mem _ ((cl_facts 2 _ rfl).1 w hw)) tyX2 tyX2_ok nmX2 hown hK hP hD hS 0 rfl rfl 4 (by decide) (hwB (.fieldLink RX2 29 RX2 "fault" "I") (by decide +kernel)) (fun _ h9 => h9) rfl (by decide +kernel) rfl rfl (Nat.le_of_ble_eq_true rfl) dI_X2_35 (fun H locs hP hD hS => ?_)
  have hP : va_P γ.1 vwCl [(h0, .inr (2, [.ref q1, .int 0, .ref q2, .int 0, .int (-1)])), (q1, .inl (γ.2 0, 120, .inl (fun _ => 0))), (q2, .inr (0, [.ref v3_a, .ref v3_b, .ref v3_c, .ref v3_d, .int 0, .int 20, .ref v3_e, .int 255])), (v3_a, .inl (γ.2 0, 12, .inl (fun _ => 0))), (v3_b, .inl (γ.2 0, 12, .inl (fun _ => 0))), (v3_c, .inl (γ.2 0, 12, .inl (fun _ => 0))), (v3_d, .inl (γ.2 0, 12, .inl (fun _ => 0))), (v3_e, .inl (γ.2 0, 8, .inl (v3_f)))] H := hP
  have hD : va_D A [(h0, .inr (2, [.ref q1, .int 0, .ref q2, .int 0, .int (-1)])), (q1, .inl (γ.2 0, 120, .inl (fun _ => 0))), (q2, .inr (0, [.ref v3_a, .ref v3_b, .ref v3_c, .ref v3_d, .int 0, .int 20, .ref v3_e, .int 255])), (v3_a, .inl (γ.2 0, 12, .inl (fun _ => 0))), (v3_b, .inl (γ.2 0, 12, .inl (fun _ => 0))), (v3_c, .inl (γ.2 0, 12, .inl (fun _ => 0))), (v3_d, .inl (γ.2 0, 12, .inl (fun _ => 0))), (v3_e, .inl (γ.2 0, 8, .inl (v3_f)))] := hD
  have hP9 := hP.sub (ws' := w_X2 γ h0 (q1, q2, v3_a, v3_b, v3_c, v3_d, v3_e, v3_f)) [0, 1, 2, 3, 4, 5, 6, 7] rfl
  have hD9 := hD.sub (ws' := w_X2 γ h0 (q1, q2, v3_a, v3_b, v3_c, v3_d, v3_e, v3_f)) [0, 1, 2, 3, 4, 5, 6, 7] (by decide) rfl
  exact W.vret hx hb hr (fun t ht hW => ⟨⟨(q1, q2, v3_a, v3_b, v3_c, v3_d, v3_e, v3_f), rfl, hw3, by rw [ht]; exact hP9, hD9⟩, hS.F ht⟩) hS.2.2 dI_X2_38
end CTOR1
