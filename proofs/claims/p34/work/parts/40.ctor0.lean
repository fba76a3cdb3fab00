section CTOR0
abbrev SU : Type := Nat × Nat × Nat × Nat × Nat × (Nat → Int32)
def w_X0 (γ : GT) (h0 : Nat) (u : SU) : va_W := match u with
  | (va, vb, vc, vd, ve, vf) => [(h0, .inr (0, [.ref va, .ref vb, .ref vc, .ref vd, .int 0, .int 20, .ref ve, .int 255])), (va, .inl (γ.2 0, 12, .inl (fun _ => 0))), (vb, .inl (γ.2 0, 12, .inl (fun _ => 0))), (vc, .inl (γ.2 0, 12, .inl (fun _ => 0))), (vd, .inl (γ.2 0, 12, .inl (fun _ => 0))), (ve, .inl (γ.2 0, 8, .inl (vf)))]
abbrev PU : Type := Nat × Nat × Nat
def w_X1 (γ : GT) (h0 : Nat) (u : PU) : va_W := match u with
  | (va, vb, vc) => [(h0, .inr (1, [.ref va, .ref vb, .long 0, .long 0, .long 0, .int (-1), .ref vc, .int 0])), (va, .inl (γ.2 0, 8, .inl (fun _ => 0))), (vb, .inl (γ.2 0, 8, .inl (fun _ => 0))), (vc, .inl (γ.2 1, 8, .inr (.inl (fun _ => 0))))]
abbrev TU : Type := Nat × Nat × SU
def w_X2 (γ : GT) (h0 : Nat) (u : TU) : va_W := match u with
  | (vx, vy, va, vb, vc, vd, ve, vf) => [(h0, .inr (2, [.ref vx, .int 0, .ref vy, .int 0, .int (-1)])), (vx, .inl (γ.2 0, 120, .inl (fun _ => 0))), (vy, .inr (0, [.ref va, .ref vb, .ref vc, .ref vd, .int 0, .int 20, .ref ve, .int 255])), (va, .inl (γ.2 0, 12, .inl (fun _ => 0))), (vb, .inl (γ.2 0, 12, .inl (fun _ => 0))), (vc, .inl (γ.2 0, 12, .inl (fun _ => 0))), (vd, .inl (γ.2 0, 12, .inl (fun _ => 0))), (ve, .inl (γ.2 0, 8, .inl (vf)))]
theorem all8 {P : Nat → Prop} (h0 : P 0) (h1 : P 1) (h2 : P 2) (h3 : P 3) (h4 : P 4) (h5 : P 5) (h6 : P 6) (h7 : P 7) : ∀ v, v < 8 → P v := by
  intro v hv
  have h8 : v = 0 ∨ v = 1 ∨ v = 2 ∨ v = 3 ∨ v = 4 ∨ v = 5 ∨ v = 6 ∨ v = 7 := by omega
  rcases h8 with rfl | rfl | rfl | rfl | rfl | rfl | rfl | rfl <;> assumption
theorem ra_inj {U : State} {a b : ClassId} {ty : FieldType} (h1 : va_RA U a ty) (h2 : va_RA U b ty) : a = b := by
  cases ty <;> first | exact Option.some.inj (Eq.trans (Eq.symm h1) h2) | (obtain ⟨_, _, _, _, _, g1⟩ := h1; obtain ⟨_, _, _, _, _, g2⟩ := h2; exact Option.some.inj (Eq.trans (Eq.symm g1) g2))
theorem va_AO.of2 {C : String} {A : Array Value} {U : State} (h : (Cond.arrayOver (.object C)).before A U = true) : va_AO C U := h
section NEWS
variable {p : Program} {l : Launch} {e : Env} {R : Room} {s : State} {m : MethodId} {args : Array Value} {below : List Frame} {meth : Method} {c : Code} {H H0 : Heap} {locs : List Loc} {cells0 slots0 : Nat} {Q : State → Prop} {A : Nat → Prop} {ls : Array Slot} {pc : Nat} {rest : List Value} {D : va_G} {cl : List vw_C} {tys : List (ClassId × FieldType)} {ws : va_W} {cc : ByteArray}
/-- a new row, of an array class that is known -/
theorem newa_s (hexec : p.tables.exec = Jvm.exec) (hb : c.code = cc) {atype : ArrayType} {ty : FieldType} (harr : (Cond.arrayClass (newarray.typeOf atype)).before args s = true) (hty : newarray.typeOf atype = ty) (hK : va_K D cl tys s) (hP : va_P D cl ws H) (hD : va_D A ws) (hS : va_S A H0 H locs) (hA : ∀ q, H0.size ≤ q → A q) {t0 : Nat} {cA0 : ClassId} (ht : tys[t0]? = some (cA0, ty))
    {n : Int32} {N' : Nat} {a0 : vp_A} (ha : ∀ cA : ClassId, vp_cell cA a0 = arrV cA N' (fun _ => defaultValue ty)) (hn : ¬ n < 0) (hN : n.toNatClampNeg = N') (hbytes : N' * componentBytes ty ≤ 536870912) (hcells : cells0 + 1 ≤ R.cells) (hslots : slots0 + N' ≤ R.slots) (hdg : decode cc pc = .ok (.newarray atype, 2))
    (kk : ∀ (q : Nat) (H1 : Heap), va_P D cl (ws ++ [(q, .inl (cA0, a0))]) H1 → va_D A (ws ++ [(q, .inl (cA0, a0))]) → va_S A H0 H1 locs → W p l e R s m args below meth c H1 locs (cells0 + 1) (slots0 + N') Q (F0 m (pc + 2) ls (.ref q :: rest))) : W p l e R s m args below meth c H locs cells0 slots0 Q (F0 m pc ls (.int n :: rest)) := by
  refine va_newa hexec hb harr hty hK hP hD hS hA ha hn hN hbytes hcells hslots hdg (fun q cA H1 hK1 hP1 hD1 hS1 => ?_)
  have h1 := (hK.2 t0 _ ht).2
  have h2 := (hK1.2 tys.length (cA, ty) (by simp)).2
  have h3 := ra_inj h2 h1
  subst h3
  exact kk q H1 hP1 hD1 hS1
theorem newq_s (hexec : p.tables.exec = Jvm.exec) (hb : c.code = cc) {own C : String} {index : Nat} (hown : s.vm.findClass own = some m.cls) (hclink : (Cond.classLink own index C).before args s = true) (hover : va_AO C s) (hK : va_K D cl tys s) (hP : va_P D cl ws H) (hD : va_D A ws) (hS : va_S A H0 H locs) (hA : ∀ q, H0.size ≤ q → A q) {t0 : Nat} {cA0 : ClassId} (ht : tys[t0]? = some (cA0, .object C))
    {n : Int32} {N' : Nat} (hn : ¬ n < 0) (hN : n.toNatClampNeg = N') (hbytes : N' * 4 ≤ 536870912) (hcells : cells0 + 1 ≤ R.cells) (hslots : slots0 + N' ≤ R.slots) (hdg : decode cc pc = .ok (.anewarray index, 3))
    (kk : ∀ (q : Nat) (H1 : Heap), va_P D cl (ws ++ [(q, .inl (cA0, N', .inr (.inr (.inr (.inr (fun _ => none))))))]) H1 → va_D A (ws ++ [(q, .inl (cA0, N', .inr (.inr (.inr (.inr (fun _ => none))))))]) → va_S A H0 H1 locs → W p l e R s m args below meth c H1 locs (cells0 + 1) (slots0 + N') Q (F0 m (pc + 3) ls (.ref q :: rest))) : W p l e R s m args below meth c H locs cells0 slots0 Q (F0 m pc ls (.int n :: rest)) := by
  refine va_newq hexec hb hown hclink hover hK hP hD hS hA hn hN hbytes hcells hslots hdg (fun q cA H1 hK1 hP1 hD1 hS1 => ?_)
  have h1 := (hK.2 t0 _ ht).2
  have h2 := (hK1.2 tys.length (cA, .object C) (by simp)).2
  have h3 := ra_inj h2 h1
  subst h3
  exact kk q H1 hP1 hD1 hS1
end NEWS
theorem dI_X0_0 : decode cX0_init 0 = .ok (.aload_n 0, 1) := by decide +kernel
theorem dI_X0_1 : decode cX0_init 1 = .ok (.invokespecial 3, 3) := by decide +kernel
theorem dI_X0_4 : decode cX0_init 4 = .ok (.aload_n 0, 1) := by decide +kernel
theorem dI_X0_5 : decode cX0_init 5 = .ok (.bipush 12, 2) := by decide +kernel
theorem dI_X0_7 : decode cX0_init 7 = .ok (.newarray .int, 2) := by decide +kernel
theorem dI_X0_9 : decode cX0_init 9 = .ok (.putfield 9, 3) := by decide +kernel
theorem dI_X0_12 : decode cX0_init 12 = .ok (.aload_n 0, 1) := by decide +kernel
theorem dI_X0_13 : decode cX0_init 13 = .ok (.bipush 12, 2) := by decide +kernel
theorem dI_X0_15 : decode cX0_init 15 = .ok (.newarray .int, 2) := by decide +kernel
theorem dI_X0_17 : decode cX0_init 17 = .ok (.putfield 15, 3) := by decide +kernel
theorem dI_X0_20 : decode cX0_init 20 = .ok (.aload_n 0, 1) := by decide +kernel
theorem dI_X0_21 : decode cX0_init 21 = .ok (.bipush 12, 2) := by decide +kernel
theorem dI_X0_23 : decode cX0_init 23 = .ok (.newarray .int, 2) := by decide +kernel
theorem dI_X0_25 : decode cX0_init 25 = .ok (.putfield 18, 3) := by decide +kernel
theorem dI_X0_28 : decode cX0_init 28 = .ok (.aload_n 0, 1) := by decide +kernel
theorem dI_X0_29 : decode cX0_init 29 = .ok (.bipush 12, 2) := by decide +kernel
theorem dI_X0_31 : decode cX0_init 31 = .ok (.newarray .int, 2) := by decide +kernel
theorem dI_X0_33 : decode cX0_init 33 = .ok (.putfield 21, 3) := by decide +kernel
theorem dI_X0_36 : decode cX0_init 36 = .ok (.aload_n 0, 1) := by decide +kernel
theorem dI_X0_37 : decode cX0_init 37 = .ok (.iconst 0, 1) := by decide +kernel
theorem dI_X0_38 : decode cX0_init 38 = .ok (.putfield 24, 3) := by decide +kernel
theorem dI_X0_41 : decode cX0_init 41 = .ok (.aload_n 0, 1) := by decide +kernel
theorem dI_X0_42 : decode cX0_init 42 = .ok (.bipush 20, 2) := by decide +kernel
theorem dI_X0_44 : decode cX0_init 44 = .ok (.putfield 28, 3) := by decide +kernel
theorem dI_X0_47 : decode cX0_init 47 = .ok (.aload_n 0, 1) := by decide +kernel
theorem dI_X0_48 : decode cX0_init 48 = .ok (.bipush 8, 2) := by decide +kernel
theorem dI_X0_50 : decode cX0_init 50 = .ok (.newarray .int, 2) := by decide +kernel
theorem dI_X0_52 : decode cX0_init 52 = .ok (.putfield 31, 3) := by decide +kernel
theorem dI_X0_55 : decode cX0_init 55 = .ok (.aload_n 0, 1) := by decide +kernel
theorem dI_X0_56 : decode cX0_init 56 = .ok (.sipush 255, 3) := by decide +kernel
theorem dI_X0_59 : decode cX0_init 59 = .ok (.putfield 34, 3) := by decide +kernel
theorem dI_X0_62 : decode cX0_init 62 = .ok (.iconst 0, 1) := by decide +kernel
theorem dI_X0_63 : decode cX0_init 63 = .ok (.istore_n 1, 1) := by decide +kernel
theorem dI_X0_64 : decode cX0_init 64 = .ok (.iload_n 1, 1) := by decide +kernel
theorem dI_X0_65 : decode cX0_init 65 = .ok (.bipush 8, 2) := by decide +kernel
theorem dI_X0_67 : decode cX0_init 67 = .ok (.if_icmp .ge 17, 3) := by decide +kernel
theorem dI_X0_70 : decode cX0_init 70 = .ok (.aload_n 0, 1) := by decide +kernel
theorem dI_X0_71 : decode cX0_init 71 = .ok (.getfield 31, 3) := by decide +kernel
theorem dI_X0_74 : decode cX0_init 74 = .ok (.iload_n 1, 1) := by decide +kernel
theorem dI_X0_75 : decode cX0_init 75 = .ok (.bipush 100, 2) := by decide +kernel
theorem dI_X0_77 : decode cX0_init 77 = .ok (.iastore, 1) := by decide +kernel
theorem dI_X0_78 : decode cX0_init 78 = .ok (.iinc 1 1, 3) := by decide +kernel
theorem dI_X0_81 : decode cX0_init 81 = .ok (.goto (-17), 3) := by decide +kernel
theorem dI_X0_84 : decode cX0_init 84 = .ok (.return_, 1) := by decide +kernel
set_option maxHeartbeats 16000000 in
set_option maxRecDepth 100000 in
theorem k_X0 (l : Launch) (γ : GT) (h0 sz : Nat) : Met l yX0_init (wY yX0_init cX0_init 2 none) ({ frames := 4, cells := 5, slots := 56, locals := 400 }) (va_Pc [.ref h0] (fun U => U.heap.size = sz ∧ va_P γ.1 vwCl [(h0, .inr (0, [.null, .null, .null, .null, .int 0, .int 0, .null, .int 0]))] U.heap ∧ (va_K γ.1 vwCl (tysG γ) U ∧ NL U) ∧ va_D (fun _ => True) [(h0, .inr (0, [.null, .null, .null, .null, .int 0, .int 0, .null, .int 0]))])) (va_Qv (fun u : SU => ∀ v, v < 8 → u.2.2.2.2.2 v = 100) (fun u t => va_P γ.1 vwCl (w_X0 γ h0 u) t.heap ∧ va_D (va_A [(h0, .inr (0, [.null, .null, .null, .null, .int 0, .int 0, .null, .int 0]))] sz) (w_X0 γ h0 u)) (va_A [(h0, .inr (0, [.null, .null, .null, .null, .int 0, .int 0, .null, .int 0]))] sz)) 5 56 (va_A [(h0, .inr (0, [.null, .null, .null, .null, .int 0, .int 0, .null, .int 0]))] sz) := by
  refine Met.ofW (cc := cX0_init) (maxL := 2) (ret := none) (by decide) rfl ?_
  intro p e s m args below meth c s₁ B hml hv
  obtain ⟨rfl, hsz, hP, ⟨hK, hN⟩, hD0⟩ := hv
  have hx := B.exec
  have hb := B.bytes
  have hr := B.returns
  have hts := atoms_spec (ws := wY yX0_init cX0_init 2 none) B.pre
  have hwB : ∀ w : Cond, inB w = true → w.before (#[Value.ref h0]) s = true := fun w h => hts w (List.mem_cons_of_mem _ (inB_BW h))
  have hlw : ∀ w : Cond, decide (w ∈ lw_tbl) = true → goodWord w = true → w.before (#[Value.ref h0]) s = true := fun w h h2 => hwB w (by unfold inB; rw [h, h2]; rfl)
  have hown : s.vm.findClass RX0 = some m.cls := findClass_of_methodNamed B.named
  have hlocks := B.notSynchronized
  have hin : meth.name = "<init>" := (name_of_methodNamed B.named B.method).1
  subst hsz
  have hD := hD0.self (sz := s.heap.size)
  generalize hAe : va_A [(h0, .inr (0, [.null, .null, .null, .null, .int 0, .int 0, .null, .int 0]))] s.heap.size = A at hD ⊢
  have hA : ∀ q : Nat, s.heap.size ≤ q → A q := fun q h => by rw [← hAe]; exact Or.inr h
  have hS : va_S A s.heap s.heap [] := va_S.rf
  have hl := lv_entry ([.ref h0]) (n := 2) (Nat.le_of_ble_eq_true rfl)
  rw [lg_entry_eq]
  generalize (lg_sl ([.ref h0]) ++ List.replicate (2 - (lg_sl ([.ref h0])).length) Slot.unset).toArray = ls at hl ⊢
  have hl : lv_has ls 2 [(0, .ref h0)] := hl
  refine lv_aload_n hx hb dI_X0_0 rfl (lv_at hl 0 rfl) ?_
  refine W.objInit hx hb hown (hwB (.methodLink RX0 3 objectInit) (by decide +kernel)) (hwB (.instanceMethod objectInit) (by decide +kernel)) (hwB (.code objectInit ⟨#[0xb1]⟩ 1 none) (by decide +kernel)) rfl (by rw [hml]; exact hl.1) rfl dI_X0_1 (Nat.le_of_ble_eq_true rfl) (Nat.le_of_ble_eq_true rfl) ?_
  refine W.eq (g2 := F0 m 4 ls []) rfl ?_
  refine lv_aload_n hx hb dI_X0_4 rfl (lv_at hl 0 rfl) ?_
  refine lv_bipush (v := 12) hx hb dI_X0_5 (by decide) ?_
  refine newa_s (atype := .int) (ty := .int) (N' := 12) (a0 := (12, .inl (fun _ => 0))) hx hb (hwB (.arrayClass .int) (by decide +kernel)) rfl hK hP hD hS hA (t0 := 0) rfl (fun _ => rfl) (by decide) rfl (Nat.le_of_ble_eq_true rfl) (Nat.le_of_ble_eq_true rfl) (Nat.le_of_ble_eq_true rfl) dI_X0_7 (fun q1 H hP hD hS => ?_)
  have hP : va_P γ.1 vwCl [(h0, .inr (0, [.null, .null, .null, .null, .int 0, .int 0, .null, .int 0])), (q1, .inl (γ.2 0, 12, .inl (fun _ => 0)))] H := hP
  have hD : va_D A [(h0, .inr (0, [.null, .null, .null, .null, .int 0, .int 0, .null, .int 0])), (q1, .inl (γ.2 0, 12, .inl (fun _ => 0)))] := hD
  refine W.widen (k := 1) (n := 12) (Nat.le_of_ble_eq_true rfl) (Nat.le_of_ble_eq_true rfl) ?_
  refine va_putF (D := γ.1) (ci := 0) (v := .ref q1) (ty := .array .int) (C := RX0) (T := TX0) (N := 8) hx hb hts (fun w hw => List.mem_cons_of_mem _ ((cl_facts 0 _ rfl).1 w hw)) tyX0 tyX0_ok nmX0 hown hK hP hD hS 0 rfl rfl 0 (by decide) (hwB (.fieldLink RX0 9 RX0 "from" "[I") (by decide +kernel)) (fun _ h9 => h9) rfl hin rfl (by decide +kernel) rfl rfl (Nat.le_of_ble_eq_true rfl) dI_X0_9 (fun H locs hP hD hS => ?_)
  have hP : va_P γ.1 vwCl [(h0, .inr (0, [.ref q1, .null, .null, .null, .int 0, .int 0, .null, .int 0])), (q1, .inl (γ.2 0, 12, .inl (fun _ => 0)))] H := hP
  have hD : va_D A [(h0, .inr (0, [.ref q1, .null, .null, .null, .int 0, .int 0, .null, .int 0])), (q1, .inl (γ.2 0, 12, .inl (fun _ => 0)))] := hD
  refine lv_aload_n hx hb dI_X0_12 rfl (lv_at hl 0 rfl) ?_
  refine lv_bipush (v := 12) hx hb dI_X0_13 (by decide) ?_
  refine newa_s (atype := .int) (ty := .int) (N' := 12) (a0 := (12, .inl (fun _ => 0))) hx hb (hwB (.arrayClass .int) (by decide +kernel)) rfl hK hP hD hS hA (t0 := 0) rfl (fun _ => rfl) (by decide) rfl (Nat.le_of_ble_eq_true rfl) (Nat.le_of_ble_eq_true rfl) (Nat.le_of_ble_eq_true rfl) dI_X0_15 (fun q2 H hP hD hS => ?_)
  have hP : va_P γ.1 vwCl [(h0, .inr (0, [.ref q1, .null, .null, .null, .int 0, .int 0, .null, .int 0])), (q1, .inl (γ.2 0, 12, .inl (fun _ => 0))), (q2, .inl (γ.2 0, 12, .inl (fun _ => 0)))] H := hP
  have hD : va_D A [(h0, .inr (0, [.ref q1, .null, .null, .null, .int 0, .int 0, .null, .int 0])), (q1, .inl (γ.2 0, 12, .inl (fun _ => 0))), (q2, .inl (γ.2 0, 12, .inl (fun _ => 0)))] := hD
  refine W.widen (k := 2) (n := 24) (Nat.le_of_ble_eq_true rfl) (Nat.le_of_ble_eq_true rfl) ?_
  refine va_putF (D := γ.1) (ci := 0) (v := .ref q2) (ty := .array .int) (C := RX0) (T := TX0) (N := 8) hx hb hts (fun w hw => List.mem_cons_of_mem _ ((cl_facts 0 _ rfl).1 w hw)) tyX0 tyX0_ok nmX0 hown hK hP hD hS 0 rfl rfl 1 (by decide) (hwB (.fieldLink RX0 15 RX0 "to" "[I") (by decide +kernel)) (fun _ h9 => h9) rfl hin rfl (by decide +kernel) rfl rfl (Nat.le_of_ble_eq_true rfl) dI_X0_17 (fun H locs hP hD hS => ?_)
  have hP : va_P γ.1 vwCl [(h0, .inr (0, [.ref q1, .ref q2, .null, .null, .int 0, .int 0, .null, .int 0])), (q1, .inl (γ.2 0, 12, .inl (fun _ => 0))), (q2, .inl (γ.2 0, 12, .inl (fun _ => 0)))] H := hP
  have hD : va_D A [(h0, .inr (0, [.ref q1, .ref q2, .null, .null, .int 0, .int 0, .null, .int 0])), (q1, .inl (γ.2 0, 12, .inl (fun _ => 0))), (q2, .inl (γ.2 0, 12, .inl (fun _ => 0)))] := hD
  refine lv_aload_n hx hb dI_X0_20 rfl (lv_at hl 0 rfl) ?_
  refine lv_bipush (v := 12) hx hb dI_X0_21 (by decide) ?_
  refine newa_s (atype := .int) (ty := .int) (N' := 12) (a0 := (12, .inl (fun _ => 0))) hx hb (hwB (.arrayClass .int) (by decide +kernel)) rfl hK hP hD hS hA (t0 := 0) rfl (fun _ => rfl) (by decide) rfl (Nat.le_of_ble_eq_true rfl) (Nat.le_of_ble_eq_true rfl) (Nat.le_of_ble_eq_true rfl) dI_X0_23 (fun q3 H hP hD hS => ?_)
  have hP : va_P γ.1 vwCl [(h0, .inr (0, [.ref q1, .ref q2, .null, .null, .int 0, .int 0, .null, .int 0])), (q1, .inl (γ.2 0, 12, .inl (fun _ => 0))), (q2, .inl (γ.2 0, 12, .inl (fun _ => 0))), (q3, .inl (γ.2 0, 12, .inl (fun _ => 0)))] H := hP
  have hD : va_D A [(h0, .inr (0, [.ref q1, .ref q2, .null, .null, .int 0, .int 0, .null, .int 0])), (q1, .inl (γ.2 0, 12, .inl (fun _ => 0))), (q2, .inl (γ.2 0, 12, .inl (fun _ => 0))), (q3, .inl (γ.2 0, 12, .inl (fun _ => 0)))] := hD
  refine W.widen (k := 3) (n := 36) (Nat.le_of_ble_eq_true rfl) (Nat.le_of_ble_eq_true rfl) ?_
  refine va_putF (D := γ.1) (ci := 0) (v := .ref q3) (ty := .array .int) (C := RX0) (T := TX0) (N := 8) hx hb hts (fun w hw => List.mem_cons_of_mem _ ((cl_facts 0 _ rfl).1 w hw)) tyX0 tyX0_ok nmX0 hown hK hP hD hS 0 rfl rfl 2 (by decide) (hwB (.fieldLink RX0 18 RX0 "trust" "[I") (by decide +kernel)) (fun _ h9 => h9) rfl hin rfl (by decide +kernel) rfl rfl (Nat.le_of_ble_eq_true rfl) dI_X0_25 (fun H locs hP hD hS => ?_)
  have hP : va_P γ.1 vwCl [(h0, .inr (0, [.ref q1, .ref q2, .ref q3, .null, .int 0, .int 0, .null, .int 0])), (q1, .inl (γ.2 0, 12, .inl (fun _ => 0))), (q2, .inl (γ.2 0, 12, .inl (fun _ => 0))), (q3, .inl (γ.2 0, 12, .inl (fun _ => 0)))] H := hP
  have hD : va_D A [(h0, .inr (0, [.ref q1, .ref q2, .ref q3, .null, .int 0, .int 0, .null, .int 0])), (q1, .inl (γ.2 0, 12, .inl (fun _ => 0))), (q2, .inl (γ.2 0, 12, .inl (fun _ => 0))), (q3, .inl (γ.2 0, 12, .inl (fun _ => 0)))] := hD
  refine lv_aload_n hx hb dI_X0_28 rfl (lv_at hl 0 rfl) ?_
  refine lv_bipush (v := 12) hx hb dI_X0_29 (by decide) ?_
  refine newa_s (atype := .int) (ty := .int) (N' := 12) (a0 := (12, .inl (fun _ => 0))) hx hb (hwB (.arrayClass .int) (by decide +kernel)) rfl hK hP hD hS hA (t0 := 0) rfl (fun _ => rfl) (by decide) rfl (Nat.le_of_ble_eq_true rfl) (Nat.le_of_ble_eq_true rfl) (Nat.le_of_ble_eq_true rfl) dI_X0_31 (fun q4 H hP hD hS => ?_)
  have hP : va_P γ.1 vwCl [(h0, .inr (0, [.ref q1, .ref q2, .ref q3, .null, .int 0, .int 0, .null, .int 0])), (q1, .inl (γ.2 0, 12, .inl (fun _ => 0))), (q2, .inl (γ.2 0, 12, .inl (fun _ => 0))), (q3, .inl (γ.2 0, 12, .inl (fun _ => 0))), (q4, .inl (γ.2 0, 12, .inl (fun _ => 0)))] H := hP
  have hD : va_D A [(h0, .inr (0, [.ref q1, .ref q2, .ref q3, .null, .int 0, .int 0, .null, .int 0])), (q1, .inl (γ.2 0, 12, .inl (fun _ => 0))), (q2, .inl (γ.2 0, 12, .inl (fun _ => 0))), (q3, .inl (γ.2 0, 12, .inl (fun _ => 0))), (q4, .inl (γ.2 0, 12, .inl (fun _ => 0)))] := hD
  refine W.widen (k := 4) (n := 48) (Nat.le_of_ble_eq_true rfl) (Nat.le_of_ble_eq_true rfl) ?_
  refine va_putF (D := γ.1) (ci := 0) (v := .ref q4) (ty := .array .int) (C := RX0) (T := TX0) (N := 8) hx hb hts (fun w hw => List.mem_cons_of_mem _ ((cl_facts 0 _ rfl).1 w hw)) tyX0 tyX0_ok nmX0 hown hK hP hD hS 0 rfl rfl 3 (by decide) (hwB (.fieldLink RX0 21 RX0 "delay" "[I") (by decide +kernel)) (fun _ h9 => h9) rfl hin rfl (by decide +kernel) rfl rfl (Nat.le_of_ble_eq_true rfl) dI_X0_33 (fun H locs hP hD hS => ?_)
  have hP : va_P γ.1 vwCl [(h0, .inr (0, [.ref q1, .ref q2, .ref q3, .ref q4, .int 0, .int 0, .null, .int 0])), (q1, .inl (γ.2 0, 12, .inl (fun _ => 0))), (q2, .inl (γ.2 0, 12, .inl (fun _ => 0))), (q3, .inl (γ.2 0, 12, .inl (fun _ => 0))), (q4, .inl (γ.2 0, 12, .inl (fun _ => 0)))] H := hP
  have hD : va_D A [(h0, .inr (0, [.ref q1, .ref q2, .ref q3, .ref q4, .int 0, .int 0, .null, .int 0])), (q1, .inl (γ.2 0, 12, .inl (fun _ => 0))), (q2, .inl (γ.2 0, 12, .inl (fun _ => 0))), (q3, .inl (γ.2 0, 12, .inl (fun _ => 0))), (q4, .inl (γ.2 0, 12, .inl (fun _ => 0)))] := hD
  refine lv_aload_n hx hb dI_X0_36 rfl (lv_at hl 0 rfl) ?_
  refine lv_iconst (v := 0) hx hb dI_X0_37 (by decide) ?_
  refine va_put (D := γ.1) (ci := 0) (v := .int 0) (ty := .int) (C := RX0) (T := TX0) (N := 8) hx hb hts (fun w hw => List.mem_cons_of_mem _ ((cl_facts 0 _ rfl).1 w hw)) tyX0 tyX0_ok nmX0 hown hK hP hD hS 0 rfl rfl 4 (by decide) (hwB (.fieldLink RX0 24 RX0 "count" "I") (by decide +kernel)) (fun _ h9 => h9) rfl (by decide +kernel) rfl rfl (Nat.le_of_ble_eq_true rfl) dI_X0_38 (fun H locs hP hD hS => ?_)
  have hP : va_P γ.1 vwCl [(h0, .inr (0, [.ref q1, .ref q2, .ref q3, .ref q4, .int 0, .int 0, .null, .int 0])), (q1, .inl (γ.2 0, 12, .inl (fun _ => 0))), (q2, .inl (γ.2 0, 12, .inl (fun _ => 0))), (q3, .inl (γ.2 0, 12, .inl (fun _ => 0))), (q4, .inl (γ.2 0, 12, .inl (fun _ => 0)))] H := hP
  have hD : va_D A [(h0, .inr (0, [.ref q1, .ref q2, .ref q3, .ref q4, .int 0, .int 0, .null, .int 0])), (q1, .inl (γ.2 0, 12, .inl (fun _ => 0))), (q2, .inl (γ.2 0, 12, .inl (fun _ => 0))), (q3, .inl (γ.2 0, 12, .inl (fun _ => 0))), (q4, .inl (γ.2 0, 12, .inl (fun _ => 0)))] := hD
  refine lv_aload_n hx hb dI_X0_41 rfl (lv_at hl 0 rfl) ?_
  refine lv_bipush (v := 20) hx hb dI_X0_42 (by decide) ?_
  refine va_put (D := γ.1) (ci := 0) (v := .int 20) (ty := .int) (C := RX0) (T := TX0) (N := 8) hx hb hts (fun w hw => List.mem_cons_of_mem _ ((cl_facts 0 _ rfl).1 w hw)) tyX0 tyX0_ok nmX0 hown hK hP hD hS 0 rfl rfl 5 (by decide) (hwB (.fieldLink RX0 28 RX0 "horizon" "I") (by decide +kernel)) (fun _ h9 => h9) rfl (by decide +kernel) rfl rfl (Nat.le_of_ble_eq_true rfl) dI_X0_44 (fun H locs hP hD hS => ?_)
  have hP : va_P γ.1 vwCl [(h0, .inr (0, [.ref q1, .ref q2, .ref q3, .ref q4, .int 0, .int 20, .null, .int 0])), (q1, .inl (γ.2 0, 12, .inl (fun _ => 0))), (q2, .inl (γ.2 0, 12, .inl (fun _ => 0))), (q3, .inl (γ.2 0, 12, .inl (fun _ => 0))), (q4, .inl (γ.2 0, 12, .inl (fun _ => 0)))] H := hP
  have hD : va_D A [(h0, .inr (0, [.ref q1, .ref q2, .ref q3, .ref q4, .int 0, .int 20, .null, .int 0])), (q1, .inl (γ.2 0, 12, .inl (fun _ => 0))), (q2, .inl (γ.2 0, 12, .inl (fun _ => 0))), (q3, .inl (γ.2 0, 12, .inl (fun _ => 0))), (q4, .inl (γ.2 0, 12, .inl (fun _ => 0)))] := hD
  refine lv_aload_n hx hb dI_X0_47 rfl (lv_at hl 0 rfl) ?_
  refine lv_bipush (v := 8) hx hb dI_X0_48 (by decide) ?_
  refine newa_s (atype := .int) (ty := .int) (N' := 8) (a0 := (8, .inl (fun _ => 0))) hx hb (hwB (.arrayClass .int) (by decide +kernel)) rfl hK hP hD hS hA (t0 := 0) rfl (fun _ => rfl) (by decide) rfl (Nat.le_of_ble_eq_true rfl) (Nat.le_of_ble_eq_true rfl) (Nat.le_of_ble_eq_true rfl) dI_X0_50 (fun q5 H hP hD hS => ?_)
  have hP : va_P γ.1 vwCl [(h0, .inr (0, [.ref q1, .ref q2, .ref q3, .ref q4, .int 0, .int 20, .null, .int 0])), (q1, .inl (γ.2 0, 12, .inl (fun _ => 0))), (q2, .inl (γ.2 0, 12, .inl (fun _ => 0))), (q3, .inl (γ.2 0, 12, .inl (fun _ => 0))), (q4, .inl (γ.2 0, 12, .inl (fun _ => 0))), (q5, .inl (γ.2 0, 8, .inl (fun _ => 0)))] H := hP
  have hD : va_D A [(h0, .inr (0, [.ref q1, .ref q2, .ref q3, .ref q4, .int 0, .int 20, .null, .int 0])), (q1, .inl (γ.2 0, 12, .inl (fun _ => 0))), (q2, .inl (γ.2 0, 12, .inl (fun _ => 0))), (q3, .inl (γ.2 0, 12, .inl (fun _ => 0))), (q4, .inl (γ.2 0, 12, .inl (fun _ => 0))), (q5, .inl (γ.2 0, 8, .inl (fun _ => 0)))] := hD
  refine W.widen (k := 5) (n := 56) (Nat.le_of_ble_eq_true rfl) (Nat.le_of_ble_eq_true rfl) ?_
  refine va_putF (D := γ.1) (ci := 0) (v := .ref q5) (ty := .array .int) (C := RX0) (T := TX0) (N := 8) hx hb hts (fun w hw => List.mem_cons_of_mem _ ((cl_facts 0 _ rfl).1 w hw)) tyX0 tyX0_ok nmX0 hown hK hP hD hS 0 rfl rfl 6 (by decide) (hwB (.fieldLink RX0 31 RX0 "seen" "[I") (by decide +kernel)) (fun _ h9 => h9) rfl hin rfl (by decide +kernel) rfl rfl (Nat.le_of_ble_eq_true rfl) dI_X0_52 (fun H locs hP hD hS => ?_)
  have hP : va_P γ.1 vwCl [(h0, .inr (0, [.ref q1, .ref q2, .ref q3, .ref q4, .int 0, .int 20, .ref q5, .int 0])), (q1, .inl (γ.2 0, 12, .inl (fun _ => 0))), (q2, .inl (γ.2 0, 12, .inl (fun _ => 0))), (q3, .inl (γ.2 0, 12, .inl (fun _ => 0))), (q4, .inl (γ.2 0, 12, .inl (fun _ => 0))), (q5, .inl (γ.2 0, 8, .inl (fun _ => 0)))] H := hP
  have hD : va_D A [(h0, .inr (0, [.ref q1, .ref q2, .ref q3, .ref q4, .int 0, .int 20, .ref q5, .int 0])), (q1, .inl (γ.2 0, 12, .inl (fun _ => 0))), (q2, .inl (γ.2 0, 12, .inl (fun _ => 0))), (q3, .inl (γ.2 0, 12, .inl (fun _ => 0))), (q4, .inl (γ.2 0, 12, .inl (fun _ => 0))), (q5, .inl (γ.2 0, 8, .inl (fun _ => 0)))] := hD
  refine lv_aload_n hx hb dI_X0_55 rfl (lv_at hl 0 rfl) ?_
  refine lv_sipush (v := 255) hx hb dI_X0_56 (by decide) ?_
  refine va_put (D := γ.1) (ci := 0) (v := .int 255) (ty := .int) (C := RX0) (T := TX0) (N := 8) hx hb hts (fun w hw => List.mem_cons_of_mem _ ((cl_facts 0 _ rfl).1 w hw)) tyX0 tyX0_ok nmX0 hown hK hP hD hS 0 rfl rfl 7 (by decide) (hwB (.fieldLink RX0 34 RX0 "sensors" "I") (by decide +kernel)) (fun _ h9 => h9) rfl (by decide +kernel) rfl rfl (Nat.le_of_ble_eq_true rfl) dI_X0_59 (fun H locs hP hD hS => ?_)
  have hP : va_P γ.1 vwCl [(h0, .inr (0, [.ref q1, .ref q2, .ref q3, .ref q4, .int 0, .int 20, .ref q5, .int 255])), (q1, .inl (γ.2 0, 12, .inl (fun _ => 0))), (q2, .inl (γ.2 0, 12, .inl (fun _ => 0))), (q3, .inl (γ.2 0, 12, .inl (fun _ => 0))), (q4, .inl (γ.2 0, 12, .inl (fun _ => 0))), (q5, .inl (γ.2 0, 8, .inl (fun _ => 0)))] H := hP
  have hD : va_D A [(h0, .inr (0, [.ref q1, .ref q2, .ref q3, .ref q4, .int 0, .int 20, .ref q5, .int 255])), (q1, .inl (γ.2 0, 12, .inl (fun _ => 0))), (q2, .inl (γ.2 0, 12, .inl (fun _ => 0))), (q3, .inl (γ.2 0, 12, .inl (fun _ => 0))), (q4, .inl (γ.2 0, 12, .inl (fun _ => 0))), (q5, .inl (γ.2 0, 8, .inl (fun _ => 0)))] := hD
  refine lv_iconst (v := 0) hx hb dI_X0_62 (by decide) ?_
  refine lv_istore_n (lv' := [(1, .int 0), (0, .ref h0)]) hx hb dI_X0_63 rfl hl (by decide) rfl (fun ls hl => ?_)
  refine lv_iload_n hx hb dI_X0_64 rfl (lv_at hl 0 rfl) ?_
  refine lv_bipush (v := 8) hx hb dI_X0_65 (by decide) ?_
  refine lv_icmp_ge (tgt := 84) hx hb dI_X0_67 (by decide) (fun c9 => ?_) (fun c9 => ?_)
  · exact absurd c9 (by decide)
  refine lv_aload_n hx hb dI_X0_70 rfl (lv_at hl 1 rfl) ?_
  refine va_get (D := γ.1) (ci := 0) (v := .ref q5) (C := RX0) (T := TX0) (N := 8) hx hb hts (fun w hw => List.mem_cons_of_mem _ ((cl_facts 0 _ rfl).1 w hw)) hown hK hP 0 rfl rfl 6 (by decide) (hwB (.fieldLink RX0 31 RX0 "seen" "[I") (by decide +kernel)) (fun _ h9 => h9) rfl dI_X0_71 ?_
  refine lv_iload_n hx hb dI_X0_74 rfl (lv_at hl 0 rfl) ?_
  refine lv_bipush (v := 100) hx hb dI_X0_75 (by decide) ?_
  refine va_iast hx hb hK hP hD hS 5 0 rfl rfl (i := 0) (x := 100) (by unfold vp_in; decide) dI_X0_77 (fun H locs hP hD hS => ?_)
  have hP : va_P γ.1 vwCl [(h0, .inr (0, [.ref q1, .ref q2, .ref q3, .ref q4, .int 0, .int 20, .ref q5, .int 255])), (q1, .inl (γ.2 0, 12, .inl (fun _ => 0))), (q2, .inl (γ.2 0, 12, .inl (fun _ => 0))), (q3, .inl (γ.2 0, 12, .inl (fun _ => 0))), (q4, .inl (γ.2 0, 12, .inl (fun _ => 0))), (q5, .inl (γ.2 0, 8, .inl (upd (fun _ => 0) 0 100)))] H := hP
  have hD : va_D A [(h0, .inr (0, [.ref q1, .ref q2, .ref q3, .ref q4, .int 0, .int 20, .ref q5, .int 255])), (q1, .inl (γ.2 0, 12, .inl (fun _ => 0))), (q2, .inl (γ.2 0, 12, .inl (fun _ => 0))), (q3, .inl (γ.2 0, 12, .inl (fun _ => 0))), (q4, .inl (γ.2 0, 12, .inl (fun _ => 0))), (q5, .inl (γ.2 0, 8, .inl (upd (fun _ => 0) 0 100)))] := hD
  refine lv_iinc (v := 1) (lv' := [(1, .int 1), (0, .ref h0)]) hx hb dI_X0_78 hl (k := 0) rfl (by decide) (by decide) rfl (fun ls hl => ?_)
  refine lv_goto (tgt := 64) hx hb dI_X0_81 (by decide) ?_
  refine lv_iload_n hx hb dI_X0_64 rfl (lv_at hl 0 rfl) ?_
  refine lv_bipush (v := 8) hx hb dI_X0_65 (by decide) ?_
  refine lv_icmp_ge (tgt := 84) hx hb dI_X0_67 (by decide) (fun c9 => ?_) (fun c9 => ?_)
  · exact absurd c9 (by decide)
  refine lv_aload_n hx hb dI_X0_70 rfl (lv_at hl 1 rfl) ?_
  refine va_get (D := γ.1) (ci := 0) (v := .ref q5) (C := RX0) (T := TX0) (N := 8) hx hb hts (fun w hw => List.mem_cons_of_mem _ ((cl_facts 0 _ rfl).1 w hw)) hown hK hP 0 rfl rfl 6 (by decide) (hwB (.fieldLink RX0 31 RX0 "seen" "[I") (by decide +kernel)) (fun _ h9 => h9) rfl dI_X0_71 ?_
  refine lv_iload_n hx hb dI_X0_74 rfl (lv_at hl 0 rfl) ?_
  refine lv_bipush (v := 100) hx hb dI_X0_75 (by decide) ?_
  refine va_iast hx hb hK hP hD hS 5 0 rfl rfl (i := 1) (x := 100) (by unfold vp_in; decide) dI_X0_77 (fun H locs hP hD hS => ?_)
  have hP : va_P γ.1 vwCl [(h0, .inr (0, [.ref q1, .ref q2, .ref q3, .ref q4, .int 0, .int 20, .ref q5, .int 255])), (q1, .inl (γ.2 0, 12, .inl (fun _ => 0))), (q2, .inl (γ.2 0, 12, .inl (fun _ => 0))), (q3, .inl (γ.2 0, 12, .inl (fun _ => 0))), (q4, .inl (γ.2 0, 12, .inl (fun _ => 0))), (q5, .inl (γ.2 0, 8, .inl (upd (upd (fun _ => 0) 0 100) 1 100)))] H := hP
  have hD : va_D A [(h0, .inr (0, [.ref q1, .ref q2, .ref q3, .ref q4, .int 0, .int 20, .ref q5, .int 255])), (q1, .inl (γ.2 0, 12, .inl (fun _ => 0))), (q2, .inl (γ.2 0, 12, .inl (fun _ => 0))), (q3, .inl (γ.2 0, 12, .inl (fun _ => 0))), (q4, .inl (γ.2 0, 12, .inl (fun _ => 0))), (q5, .inl (γ.2 0, 8, .inl (upd (upd (fun _ => 0) 0 100) 1 100)))] := hD
  refine lv_iinc (v := 2) (lv' := [(1, .int 2), (0, .ref h0)]) hx hb dI_X0_78 hl (k := 0) rfl (by decide) (by decide) rfl (fun ls hl => ?_)
  refine lv_goto (tgt := 64) hx hb dI_X0_81 (by decide) ?_
  refine lv_iload_n hx hb dI_X0_64 rfl (lv_at hl 0 rfl) ?_
  refine lv_bipush (v := 8) hx hb dI_X0_65 (by decide) ?_
  refine lv_icmp_ge (tgt := 84) hx hb dI_X0_67 (by decide) (fun c9 => ?_) (fun c9 => ?_)
  · exact absurd c9 (by decide)
  refine lv_aload_n hx hb dI_X0_70 rfl (lv_at hl 1 rfl) ?_
  refine va_get (D := γ.1) (ci := 0) (v := .ref q5) (C := RX0) (T := TX0) (N := 8) hx hb hts (fun w hw => List.mem_cons_of_mem _ ((cl_facts 0 _ rfl).1 w hw)) hown hK hP 0 rfl rfl 6 (by decide) (hwB (.fieldLink RX0 31 RX0 "seen" "[I") (by decide +kernel)) (fun _ h9 => h9) rfl dI_X0_71 ?_
  refine lv_iload_n hx hb dI_X0_74 rfl (lv_at hl 0 rfl) ?_
  refine lv_bipush (v := 100) hx hb dI_X0_75 (by decide) ?_
  refine va_iast hx hb hK hP hD hS 5 0 rfl rfl (i := 2) (x := 100) (by unfold vp_in; decide) dI_X0_77 (fun H locs hP hD hS => ?_)
  have hP : va_P γ.1 vwCl [(h0, .inr (0, [.ref q1, .ref q2, .ref q3, .ref q4, .int 0, .int 20, .ref q5, .int 255])), (q1, .inl (γ.2 0, 12, .inl (fun _ => 0))), (q2, .inl (γ.2 0, 12, .inl (fun _ => 0))), (q3, .inl (γ.2 0, 12, .inl (fun _ => 0))), (q4, .inl (γ.2 0, 12, .inl (fun _ => 0))), (q5, .inl (γ.2 0, 8, .inl (upd (upd (upd (fun _ => 0) 0 100) 1 100) 2 100)))] H := hP
  have hD : va_D A [(h0, .inr (0, [.ref q1, .ref q2, .ref q3, .ref q4, .int 0, .int 20, .ref q5, .int 255])), (q1, .inl (γ.2 0, 12, .inl (fun _ => 0))), (q2, .inl (γ.2 0, 12, .inl (fun _ => 0))), (q3, .inl (γ.2 0, 12, .inl (fun _ => 0))), (q4, .inl (γ.2 0, 12, .inl (fun _ => 0))), (q5, .inl (γ.2 0, 8, .inl (upd (upd (upd (fun _ => 0) 0 100) 1 100) 2 100)))] := hD
  refine lv_iinc (v := 3) (lv' := [(1, .int 3), (0, .ref h0)]) hx hb dI_X0_78 hl (k := 0) rfl (by decide) (by decide) rfl (fun ls hl => ?_)
  refine lv_goto (tgt := 64) hx hb dI_X0_81 (by decide) ?_
  refine lv_iload_n hx hb dI_X0_64 rfl (lv_at hl 0 rfl) ?_
  refine lv_bipush (v := 8) hx hb dI_X0_65 (by decide) ?_
  refine lv_icmp_ge (tgt := 84) hx hb dI_X0_67 (by decide) (fun c9 => ?_) (fun c9 => ?_)
  · exact absurd c9 (by decide)
  refine lv_aload_n hx hb dI_X0_70 rfl (lv_at hl 1 rfl) ?_
  refine va_get (D := γ.1) (ci := 0) (v := .ref q5) (C := RX0) (T := TX0) (N := 8) hx hb hts (fun w hw => List.mem_cons_of_mem _ ((cl_facts 0 _ rfl).1 w hw)) hown hK hP 0 rfl rfl 6 (by decide) (hwB (.fieldLink RX0 31 RX0 "seen" "[I") (by decide +kernel)) (fun _ h9 => h9) rfl dI_X0_71 ?_
  refine lv_iload_n hx hb dI_X0_74 rfl (lv_at hl 0 rfl) ?_
  refine lv_bipush (v := 100) hx hb dI_X0_75 (by decide) ?_
  refine va_iast hx hb hK hP hD hS 5 0 rfl rfl (i := 3) (x := 100) (by unfold vp_in; decide) dI_X0_77 (fun H locs hP hD hS => ?_)
  have hP : va_P γ.1 vwCl [(h0, .inr (0, [.ref q1, .ref q2, .ref q3, .ref q4, .int 0, .int 20, .ref q5, .int 255])), (q1, .inl (γ.2 0, 12, .inl (fun _ => 0))), (q2, .inl (γ.2 0, 12, .inl (fun _ => 0))), (q3, .inl (γ.2 0, 12, .inl (fun _ => 0))), (q4, .inl (γ.2 0, 12, .inl (fun _ => 0))), (q5, .inl (γ.2 0, 8, .inl (upd (upd (upd (upd (fun _ => 0) 0 100) 1 100) 2 100) 3 100)))] H := hP
  have hD : va_D A [(h0, .inr (0, [.ref q1, .ref q2, .ref q3, .ref q4, .int 0, .int 20, .ref q5, .int 255])), (q1, .inl (γ.2 0, 12, .inl (fun _ => 0))), (q2, .inl (γ.2 0, 12, .inl (fun _ => 0))), (q3, .inl (γ.2 0, 12, .inl (fun _ => 0))), (q4, .inl (γ.2 0, 12, .inl (fun _ => 0))), (q5, .inl (γ.2 0, 8, .inl (upd (upd (upd (upd (fun _ => 0) 0 100) 1 100) 2 100) 3 100)))] := hD
  refine lv_iinc (v := 4) (lv' := [(1, .int 4), (0, .ref h0)]) hx hb dI_X0_78 hl (k := 0) rfl (by decide) (by decide) rfl (fun ls hl => ?_)
  refine lv_goto (tgt := 64) hx hb dI_X0_81 (by decide) ?_
  refine lv_iload_n hx hb dI_X0_64 rfl (lv_at hl 0 rfl) ?_
  refine lv_bipush (v := 8) hx hb dI_X0_65 (by decide) ?_
  refine lv_icmp_ge (tgt := 84) hx hb dI_X0_67 (by decide) (fun c9 => ?_) (fun c9 => ?_)
  · exact absurd c9 (by decide)
  refine lv_aload_n hx hb dI_X0_70 rfl (lv_at hl 1 rfl) ?_
  refine va_get (D := γ.1) (ci := 0) (v := .ref q5) (C := RX0) (T := TX0) (N := 8) hx hb hts (fun w hw => List.mem_cons_of_mem _ ((cl_facts 0 _ rfl).1 w hw)) hown hK hP 0 rfl rfl 6 (by decide) (hwB (.fieldLink RX0 31 RX0 "seen" "[I") (by decide +kernel)) (fun _ h9 => h9) rfl dI_X0_71 ?_
  refine lv_iload_n hx hb dI_X0_74 rfl (lv_at hl 0 rfl) ?_
  refine lv_bipush (v := 100) hx hb dI_X0_75 (by decide) ?_
  refine va_iast hx hb hK hP hD hS 5 0 rfl rfl (i := 4) (x := 100) (by unfold vp_in; decide) dI_X0_77 (fun H locs hP hD hS => ?_)
  have hP : va_P γ.1 vwCl [(h0, .inr (0, [.ref q1, .ref q2, .ref q3, .ref q4, .int 0, .int 20, .ref q5, .int 255])), (q1, .inl (γ.2 0, 12, .inl (fun _ => 0))), (q2, .inl (γ.2 0, 12, .inl (fun _ => 0))), (q3, .inl (γ.2 0, 12, .inl (fun _ => 0))), (q4, .inl (γ.2 0, 12, .inl (fun _ => 0))), (q5, .inl (γ.2 0, 8, .inl (upd (upd (upd (upd (upd (fun _ => 0) 0 100) 1 100) 2 100) 3 100) 4 100)))] H := hP
  have hD : va_D A [(h0, .inr (0, [.ref q1, .ref q2, .ref q3, .ref q4, .int 0, .int 20, .ref q5, .int 255])), (q1, .inl (γ.2 0, 12, .inl (fun _ => 0))), (q2, .inl (γ.2 0, 12, .inl (fun _ => 0))), (q3, .inl (γ.2 0, 12, .inl (fun _ => 0))), (q4, .inl (γ.2 0, 12, .inl (fun _ => 0))), (q5, .inl (γ.2 0, 8, .inl (upd (upd (upd (upd (upd (fun _ => 0) 0 100) 1 100) 2 100) 3 100) 4 100)))] := hD
  refine lv_iinc (v := 5) (lv' := [(1, .int 5), (0, .ref h0)]) hx hb dI_X0_78 hl (k := 0) rfl (by decide) (by decide) rfl (fun ls hl => ?_)
  refine lv_goto (tgt := 64) hx hb dI_X0_81 (by decide) ?_
  refine lv_iload_n hx hb dI_X0_64 rfl (lv_at hl 0 rfl) ?_
  refine lv_bipush (v := 8) hx hb dI_X0_65 (by decide) ?_
  refine lv_icmp_ge (tgt := 84) hx hb dI_X0_67 (by decide) (fun c9 => ?_) (fun c9 => ?_)
  · exact absurd c9 (by decide)
  refine lv_aload_n hx hb dI_X0_70 rfl (lv_at hl 1 rfl) ?_
  refine va_get (D := γ.1) (ci := 0) (v := .ref q5) (C := RX0) (T := TX0) (N := 8) hx hb hts (fun w hw => List.mem_cons_of_mem _ ((cl_facts 0 _ rfl).1 w hw)) hown hK hP 0 rfl rfl 6 (by decide) (hwB (.fieldLink RX0 31 RX0 "seen" "[I") (by decide +kernel)) (fun _ h9 => h9) rfl dI_X0_71 ?_
  refine lv_iload_n hx hb dI_X0_74 rfl (lv_at hl 0 rfl) ?_
  refine lv_bipush (v := 100) hx hb dI_X0_75 (by decide) ?_
  refine va_iast hx hb hK hP hD hS 5 0 rfl rfl (i := 5) (x := 100) (by unfold vp_in; decide) dI_X0_77 (fun H locs hP hD hS => ?_)
  have hP : va_P γ.1 vwCl [(h0, .inr (0, [.ref q1, .ref q2, .ref q3, .ref q4, .int 0, .int 20, .ref q5, .int 255])), (q1, .inl (γ.2 0, 12, .inl (fun _ => 0))), (q2, .inl (γ.2 0, 12, .inl (fun _ => 0))), (q3, .inl (γ.2 0, 12, .inl (fun _ => 0))), (q4, .inl (γ.2 0, 12, .inl (fun _ => 0))), (q5, .inl (γ.2 0, 8, .inl (upd (upd (upd (upd (upd (upd (fun _ => 0) 0 100) 1 100) 2 100) 3 100) 4 100) 5 100)))] H := hP
  have hD : va_D A [(h0, .inr (0, [.ref q1, .ref q2, .ref q3, .ref q4, .int 0, .int 20, .ref q5, .int 255])), (q1, .inl (γ.2 0, 12, .inl (fun _ => 0))), (q2, .inl (γ.2 0, 12, .inl (fun _ => 0))), (q3, .inl (γ.2 0, 12, .inl (fun _ => 0))), (q4, .inl (γ.2 0, 12, .inl (fun _ => 0))), (q5, .inl (γ.2 0, 8, .inl (upd (upd (upd (upd (upd (upd (fun _ => 0) 0 100) 1 100) 2 100) 3 100) 4 100) 5 100)))] := hD
  refine lv_iinc (v := 6) (lv' := [(1, .int 6), (0, .ref h0)]) hx hb dI_X0_78 hl (k := 0) rfl (by decide) (by decide) rfl (fun ls hl => ?_)
  refine lv_goto (tgt := 64) hx hb dI_X0_81 (by decide) ?_
  refine lv_iload_n hx hb dI_X0_64 rfl (lv_at hl 0 rfl) ?_
  refine lv_bipush (v := 8) hx hb dI_X0_65 (by decide) ?_
  refine lv_icmp_ge (tgt := 84) hx hb dI_X0_67 (by decide) (fun c9 => ?_) (fun c9 => ?_)
  · exact absurd c9 (by decide)
  refine lv_aload_n hx hb dI_X0_70 rfl (lv_at hl 1 rfl) ?_
  refine va_get (D := γ.1) (ci := 0) (v := .ref q5) (C := RX0) (T := TX0) (N := 8) hx hb hts (fun w hw => List.mem_cons_of_mem _ ((cl_facts 0 _ rfl).1 w hw)) hown hK hP 0 rfl rfl 6 (by decide) (hwB (.fieldLink RX0 31 RX0 "seen" "[I") (by decide +kernel)) (fun _ h9 => h9) rfl dI_X0_71 ?_
  refine lv_iload_n hx hb dI_X0_74 rfl (lv_at hl 0 rfl) ?_
  refine lv_bipush (v := 100) hx hb dI_X0_75 (by decide) ?_
  refine va_iast hx hb hK hP hD hS 5 0 rfl rfl (i := 6) (x := 100) (by unfold vp_in; decide) dI_X0_77 (fun H locs hP hD hS => ?_)
  have hP : va_P γ.1 vwCl [(h0, .inr (0, [.ref q1, .ref q2, .ref q3, .ref q4, .int 0, .int 20, .ref q5, .int 255])), (q1, .inl (γ.2 0, 12, .inl (fun _ => 0))), (q2, .inl (γ.2 0, 12, .inl (fun _ => 0))), (q3, .inl (γ.2 0, 12, .inl (fun _ => 0))), (q4, .inl (γ.2 0, 12, .inl (fun _ => 0))), (q5, .inl (γ.2 0, 8, .inl (upd (upd (upd (upd (upd (upd (upd (fun _ => 0) 0 100) 1 100) 2 100) 3 100) 4 100) 5 100) 6 100)))] H := hP
  have hD : va_D A [(h0, .inr (0, [.ref q1, .ref q2, .ref q3, .ref q4, .int 0, .int 20, .ref q5, .int 255])), (q1, .inl (γ.2 0, 12, .inl (fun _ => 0))), (q2, .inl (γ.2 0, 12, .inl (fun _ => 0))), (q3, .inl (γ.2 0, 12, .inl (fun _ => 0))), (q4, .inl (γ.2 0, 12, .inl (fun _ => 0))), (q5, .inl (γ.2 0, 8, .inl (upd (upd (upd (upd (upd (upd (upd (fun _ => 0) 0 100) 1 100) 2 100) 3 100) 4 100) 5 100) 6 100)))] := hD
  refine lv_iinc (v := 7) (lv' := [(1, .int 7), (0, .ref h0)]) hx hb dI_X0_78 hl (k := 0) rfl (by decide) (by decide) rfl (fun ls hl => ?_)
  refine lv_goto (tgt := 64) hx hb dI_X0_81 (by decide) ?_
  refine lv_iload_n hx hb dI_X0_64 rfl (lv_at hl 0 rfl) ?_
  refine lv_bipush (v := 8) hx hb dI_X0_65 (by decide) ?_
  refine lv_icmp_ge (tgt := 84) hx hb dI_X0_67 (by decide) (fun c9 => ?_) (fun c9 => ?_)
  · exact absurd c9 (by decide)
  refine lv_aload_n hx hb dI_X0_70 rfl (lv_at hl 1 rfl) ?_
  refine va_get (D := γ.1) (ci := 0) (v := .ref q5) (C := RX0) (T := TX0) (N := 8) hx hb hts (fun w hw => List.mem_cons_of_mem _ ((cl_facts 0 _ rfl).1 w hw)) hown hK hP 0 rfl rfl 6 (by decide) (hwB (.fieldLink RX0 31 RX0 "seen" "[I") (by decide +kernel)) (fun _ h9 => h9) rfl dI_X0_71 ?_
  refine lv_iload_n hx hb dI_X0_74 rfl (lv_at hl 0 rfl) ?_
  refine lv_bipush (v := 100) hx hb dI_X0_75 (by decide) ?_
  refine va_iast hx hb hK hP hD hS 5 0 rfl rfl (i := 7) (x := 100) (by unfold vp_in; decide) dI_X0_77 (fun H locs hP hD hS => ?_)
  have hP : va_P γ.1 vwCl [(h0, .inr (0, [.ref q1, .ref q2, .ref q3, .ref q4, .int 0, .int 20, .ref q5, .int 255])), (q1, .inl (γ.2 0, 12, .inl (fun _ => 0))), (q2, .inl (γ.2 0, 12, .inl (fun _ => 0))), (q3, .inl (γ.2 0, 12, .inl (fun _ => 0))), (q4, .inl (γ.2 0, 12, .inl (fun _ => 0))), (q5, .inl (γ.2 0, 8, .inl (upd (upd (upd (upd (upd (upd (upd (upd (fun _ => 0) 0 100) 1 100) 2 100) 3 100) 4 100) 5 100) 6 100) 7 100)))] H := hP
  have hD : va_D A [(h0, .inr (0, [.ref q1, .ref q2, .ref q3, .ref q4, .int 0, .int 20, .ref q5, .int 255])), (q1, .inl (γ.2 0, 12, .inl (fun _ => 0))), (q2, .inl (γ.2 0, 12, .inl (fun _ => 0))), (q3, .inl (γ.2 0, 12, .inl (fun _ => 0))), (q4, .inl (γ.2 0, 12, .inl (fun _ => 0))), (q5, .inl (γ.2 0, 8, .inl (upd (upd (upd (upd (upd (upd (upd (upd (fun _ => 0) 0 100) 1 100) 2 100) 3 100) 4 100) 5 100) 6 100) 7 100)))] := hD
  refine lv_iinc (v := 8) (lv' := [(1, .int 8), (0, .ref h0)]) hx hb dI_X0_78 hl (k := 0) rfl (by decide) (by decide) rfl (fun ls hl => ?_)
  refine lv_goto (tgt := 64) hx hb dI_X0_81 (by decide) ?_
  refine lv_iload_n hx hb dI_X0_64 rfl (lv_at hl 0 rfl) ?_
  refine lv_bipush (v := 8) hx hb dI_X0_65 (by decide) ?_
  refine lv_icmp_ge (tgt := 84) hx hb dI_X0_67 (by decide) (fun c9 => ?_) (fun c9 => ?_)
  rotate_left
  · exact absurd (by decide) c9
  have hP9 := hP.sub (ws' := w_X0 γ h0 (q1, q2, q3, q4, q5, upd (upd (upd (upd (upd (upd (upd (upd (fun _ => 0) 0 100) 1 100) 2 100) 3 100) 4 100) 5 100) 6 100) 7 100)) [0, 1, 2, 3, 4, 5] rfl
  have hD9 := hD.sub (ws' := w_X0 γ h0 (q1, q2, q3, q4, q5, upd (upd (upd (upd (upd (upd (upd (upd (fun _ => 0) 0 100) 1 100) 2 100) 3 100) 4 100) 5 100) 6 100) 7 100)) [0, 1, 2, 3, 4, 5] (by decide) rfl
  exact W.vret hx hb hr (fun t ht hW => ⟨⟨(q1, q2, q3, q4, q5, upd (upd (upd (upd (upd (upd (upd (upd (fun _ => 0) 0 100) 1 100) 2 100) 3 100) 4 100) 5 100) 6 100) 7 100), rfl, all8 rfl rfl rfl rfl rfl rfl rfl rfl, by rw [ht]; exact hP9, hD9⟩, hS.F ht⟩) hS.2.2 dI_X0_84
end CTOR0
