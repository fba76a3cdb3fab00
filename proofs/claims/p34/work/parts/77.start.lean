section START
theorem nwF_tbl : nwF.all (fun q => decide (Cond.fieldLinkNest q.1 q.2.1 q.2.2.1 q.2.2.2.1 q.2.2.2.2.1 q.2.2.2.2.2 ∈ lw_tbl)) = true := by decide +kernel
theorem nwM_tbl : nwM.all (fun q => decide (Cond.methodLinkNest q.1 q.2.1 q.2.2.1 q.2.2.2 ∈ lw_tbl)) = true := by decide +kernel
theorem dI_L_0 : decode code 0 = .ok (.new 9, 3) := by decide +kernel
theorem dI_L_3 : decode code 3 = .ok (.dup, 1) := by decide +kernel
theorem dI_L_4 : decode code 4 = .ok (.invokespecial 94, 3) := by decide +kernel
theorem dI_L_7 : decode code 7 = .ok (.astore_n 1, 1) := by decide +kernel
theorem arrV_cg {cA : ClassId} {n : Nat} {f g : Nat → Value} (h : ∀ j, j < n → f j = g j) : arrV cA n f = arrV cA n g := by
  unfold arrV
  rw [show (fun j : Fin n => f j.val) = (fun j : Fin n => g j.val) from funext fun j => h j.val j.isLt]
theorem va_P_re {D : va_G} {cl : List vw_C} {ws : va_W} {H : Heap} (hP : va_P D cl ws H) (k : Nat) {a : Nat} {cA : ClassId} {x y : vp_A} (he : ws[k]? = some (a, .inl (cA, x))) (hxy : vp_cell cA x = vp_cell cA y) : va_P D cl (ws.set k (a, .inl (cA, y))) H := by
  intro i q hq
  by_cases e : i = k
  · subst e
    have hlt : i < ws.length := (List.getElem?_eq_some_iff.mp he).1
    rw [List.getElem?_set_self hlt] at hq
    cases hq
    have h1 := hP i _ he
    show H[a]? = some (vp_cell cA y)
    rw [← hxy]
    exact h1
  · rw [List.getElem?_set_ne (fun z => e z.symm)] at hq
    exact hP i q hq
theorem dA_of {A : Nat → Prop} {γ : GT} {ρ : Nat → Nat} {X : XT} (h : va_D A (cells γ ρ X)) : dA A ρ := ⟨fun i j hi hj e => h.1 i j _ _ (cells_at γ ρ X hi) (cells_at γ ρ X hj) e, fun i hi => h.2 i _ (cells_at γ ρ X hi)⟩
theorem rel_0 {X : XT} (a1 : X.1 0 5 = 0) (a2 : X.1 1 4 = 0) (a3 : X.1 1 5 = 20) (a4 : X.1 1 7 = 255) (a5 : ∀ v, v < 8 → X.1 6 v = 100) (a6 : X.1 12 1 = 0) (a7 : ∀ j, X.2.2 j = 21 + 6 * j) : RelC X g0G := by
  have ok : okG g0G := ⟨WF_s0, by decide, fun j hj => absurd hj (Nat.not_lt_zero j), by decide, fun i hi => absurd hi (Nat.not_lt_zero i)⟩
  refine ⟨ok, ⟨a2, fun e he => absurd he (Nat.not_lt_zero e), a3, a5, a4⟩, a1, ⟨0, fun j hj => ?_, fun j hj => absurd hj (Nat.not_lt_zero j)⟩, a6, fun i hi => absurd hi (Nat.not_lt_zero i)⟩
  rw [a7]
  unfold pastR
  omega
set_option maxHeartbeats 40000000 in
set_option maxRecDepth 100000 in
theorem whole_start {p : Program} {e : Env} {s : State} {m : MethodId} {below : List Frame} {meth : Method} {c : Code} (l : Launch) (hflags : l.flags = flags0) {b L : Nat} {xs : Nat → Int32} (hL : L ≤ 260) (C0 : lw_At p s m meth c b L xs) : W p l e room_1 s m #[Value.ref b] below meth c s.heap [] 0 0 (lw_Z below #[Value.ref b] s) (entryFrame m ([Value.ref b] : List Value).toArray 17) := by
  obtain ⟨hx, hb, hr, hml, hown, hts, hX, hbl, hlocks, hgv⟩ := id C0
  have hA : ∀ q : Nat, s.heap.size ≤ q → (fun q : Nat => s.heap.size ≤ q) q := fun _ h => h
  have hbA : ¬ (fun q : Nat => s.heap.size ≤ q) b := Nat.not_le.mpr hbl
  have hBW : ∀ w ∈ BW, w ∈ lw_tbl := fun w h => (List.mem_filter.mp h).1
  have hwB : ∀ w : Cond, decide (w ∈ lw_tbl) = true → w.before (#[Value.ref b]) s = true := fun w h => hts w (of_decide_eq_true h)
  obtain ⟨d0, i0, k0⟩ := u_known (C := RX0) (T := TX0) (N := 8) (n := 8) hts (fun w hw => hBW w ((cl_facts 0 _ rfl).1 w hw)) (hwB (.instantiable RX0 8) (by decide +kernel))
  obtain ⟨d1, i1, k1⟩ := u_known (C := RX1) (T := TX1) (N := 8) (n := 8) hts (fun w hw => hBW w ((cl_facts 1 _ rfl).1 w hw)) (hwB (.instantiable RX1 8) (by decide +kernel))
  obtain ⟨d2, i2, k2⟩ := u_known (C := RX2) (T := TX2) (N := 5) (n := 5) hts (fun w hw => hBW w ((cl_facts 2 _ rfl).1 w hw)) (hwB (.instantiable RX2 5) (by decide +kernel))
  obtain ⟨d3, i3, k3⟩ := u_known (C := RX3) (T := TX3) (N := 6) (n := 6) hts (fun w hw => hBW w ((cl_facts 3 _ rfl).1 w hw)) (hwB (.instantiable RX3 6) (by decide +kernel))
  obtain ⟨cI, kI, pI, fI1, fI2, fI3⟩ := Cond.arrayClass_spec (hwB (.arrayClass .int) (by decide +kernel))
  obtain ⟨cJ, kJ, pJ, fJ1, fJ2, fJ3⟩ := Cond.arrayClass_spec (hwB (.arrayClass .long) (by decide +kernel))
  have hAO : va_AO RX0 s := va_AO.of2 (hwB (.arrayOver (.object RX0)) (by decide +kernel))
  obtain ⟨pR, cR, kR, fR1, fR2, fR3, fR4, fR5⟩ := Cond.arrayOver_spec hAO
  obtain ⟨γ, hK⟩ : ∃ γ : GT, va_K γ.1 vwCl (tysG γ) s := by
    refine ⟨((fun k => match k with | 0 => d0 | 1 => d1 | 2 => d2 | _ => d3, fun k => match k with | 0 => i0 | 1 => i1 | 2 => i2 | _ => i3), fun k => match k with | 0 => cI | 1 => cJ | 2 => cI | _ => cR), fun c q hq => ?_, fun k q hq => ?_⟩
    · match c, hq with
      | 0, hq => cases hq; exact k0
      | 1, hq => cases hq; exact k1
      | 2, hq => cases hq; exact k2
      | 3, hq => cases hq; exact k3
      | c + 4, hq => simp [vwCl] at hq
    · match k, hq with
      | 0, hq => cases hq; exact ⟨fun n z => ⟨fun k h => (by cases h), kI, fI2, pI, fI3⟩, fI1⟩
      | 1, hq => cases hq; exact ⟨fun n z => ⟨fun k h => (by cases h), kJ, fJ2, pJ, fJ3⟩, fJ1⟩
      | 2, hq => cases hq; exact ⟨fun n z => ⟨fun k h => (by cases h), kI, fI2, pI, fI3⟩, fI1⟩
      | 3, hq => cases hq; exact ⟨fun n z => ⟨fun k h => (by cases h), kR, fR3, pR, fR4⟩, kR, pR, fR3, fR4, fR1, fR5⟩
      | k + 4, hq => simp [tysG] at hq
  have hN : NL s := ⟨fun q hq => va_Nw.of rfl (hwB _ (List.all_eq_true.mp nwF_tbl q hq)), fun q hq => va_Nw.of rfl (hwB _ (List.all_eq_true.mp nwM_tbl q hq))⟩
  have hS : va_S (fun q : Nat => s.heap.size ≤ q) s.heap s.heap [] := va_S.rf
  have hP : va_P γ.1 vwCl [] s.heap := fun k q h => by simp at h
  have hD : va_D (fun q : Nat => s.heap.size ≤ q) [] := ⟨fun i j p q h => by simp at h, fun k q h => by simp at h⟩
  have hl := lv_entry ([.ref b]) (n := 17) (Nat.le_of_ble_eq_true rfl)
  rw [lg_entry_eq]
  generalize (lg_sl ([.ref b]) ++ List.replicate (17 - (lg_sl ([.ref b])).length) Slot.unset).toArray = ls at hl ⊢
  have hl : lv_has ls 17 [(0, .ref b)] := hl
  refine va_new (ci := 3) (fs := [.null, .null, .null, .null, .null, .int 0]) (C := RX3) (T := TX3) (N := 6) hx hb hts (fun w hw => hBW w ((cl_facts 3 _ rfl).1 w hw)) tyX3 tyX3_ok hown (hwB (.classLink R_law 9 RX3) (by decide +kernel)) (hwB (.instantiable RX3 6) (by decide +kernel)) (hwB (.initialized RX3) (by decide +kernel)) hK hP hD hS hA rfl (fun j hj => by rcases (show j = 0 ∨ j = 1 ∨ j = 2 ∨ j = 3 ∨ j = 4 ∨ j = 5 by omega) with rfl | rfl | rfl | rfl | rfl | rfl <;> rfl) (Nat.le_of_ble_eq_true rfl) (Nat.le_of_ble_eq_true rfl) dI_L_0 (fun x0 H hP hD hS => ?_)
  have hP : va_P γ.1 vwCl [(x0, .inr (3, [.null, .null, .null, .null, .null, .int 0]))] H := hP
  have hD : va_D (fun q : Nat => s.heap.size ≤ q) [(x0, .inr (3, [.null, .null, .null, .null, .null, .int 0]))] := hD
  refine W.widen (k := 1) (n := 6) (Nat.le_of_ble_eq_true rfl) (Nat.le_of_ble_eq_true rfl) ?_
  refine lv_dup hx hb dI_L_3 rfl ?_
  have hPc := hP.sub (ws' := [(x0, .inr (3, [.null, .null, .null, .null, .null, .int 0]))]) [0] rfl
  have hDc := hD.sub (ws' := [(x0, .inr (3, [.null, .null, .null, .null, .null, .int 0]))]) [0] (by decide) rfl
  have hFc := va_free (wc := [(x0, .inr (3, [.null, .null, .null, .null, .null, .int 0]))]) hD hS hA [0] rfl
  have hG3 : GoodIn lw_tbl (wY yX3_init cX3_init 2 none) := fun w hw => ⟨hBW w (wY_BW (by decide +kernel) w hw), good_of_word (BW_good (wY_BW (by decide +kernel) w hw))⟩
  refine va_callv (va_runI (As := []) (rest := [.ref x0]) ⟨hx, hb, hml, hown, hts⟩ (k_X3 l γ x0 H.size) (cwI 0 hts hG3 rfl rfl rfl (hwB (.initialized RX3) (by decide +kernel)) (hwB (.methodLink R_law 94 yX3_init) (by decide +kernel)) (hwB (.instanceMethod yX3_init) (by decide +kernel)) rfl ⟨by decide +kernel, by decide +kernel, by decide +kernel⟩ ⟨Nat.le_of_ble_eq_true rfl, Nat.le_of_ble_eq_true rfl⟩) ⟨fun a U g mk q => by obtain ⟨q0, q1, qP, ⟨qK, qN, qA⟩, qD⟩ := q; exact ⟨q0, q1, qP, ⟨va_K.moved (u := U) (U := U.calling g mk a) (Vm.Alike.refl U.vm) qK, NL.same (u := U) (U := U.calling g mk a) rfl qN, va_AO.moved (u := U) (U := U.calling g mk a) (Vm.Alike.refl U.vm) qA⟩, qD⟩, fun U hU hW => ⟨rfl, by rw [hU], by rw [hU]; exact hPc, ⟨va_K.moved hW.alike hK, NL.warm hW hN, va_AO.moved hW.alike hAO⟩, hDc.weaken (fun _ _ _ _ => trivial)⟩⟩ rfl rfl hl.1 rfl (lv_room (Nat.le_of_ble_eq_true rfl)) dI_L_4 ⟨Nat.le_of_ble_eq_true rfl, Nat.le_of_ble_eq_true rfl⟩) hS (fun q _ h => hFc q h) hFc (fun u t H1 locs ht hvm hw hB hz1 hk1 hS => ?_)
  obtain ⟨zn, ⟨nn_a, nn_b, nn_c, nn_d, nn_e, nn_f⟩, pp, zs, ⟨ss_a, ss_b, ss_c⟩, zt, ⟨tt_x, tt_y, tt_a, tt_b, tt_c, tt_d, tt_e, tt_f⟩, kk, r0, ⟨r0_a, r0_b, r0_c, r0_d, r0_e, r0_f⟩, r1, ⟨r1_a, r1_b, r1_c, r1_d, r1_e, r1_f⟩, r2, ⟨r2_a, r2_b, r2_c, r2_d, r2_e, r2_f⟩, r3, ⟨r3_a, r3_b, r3_c, r3_d, r3_e, r3_f⟩, r4, ⟨r4_a, r4_b, r4_c, r4_d, r4_e, r4_f⟩⟩ := u
  obtain ⟨hP1, hD1⟩ := hB
  rw [ht] at hP1
  obtain ⟨hP, hD⟩ := va_join (wr := []) hP hD [0] [] rfl rfl (by decide) (by decide) hk1 hFc hP1 hD1
  have hwR := hw
  generalize H1 = H at hP hS ⊢
  have hP : va_P γ.1 vwCl (w_X3 γ x0 (zn, (nn_a, nn_b, nn_c, nn_d, nn_e, nn_f), pp, zs, (ss_a, ss_b, ss_c), zt, (tt_x, tt_y, tt_a, tt_b, tt_c, tt_d, tt_e, tt_f), kk, r0, (r0_a, r0_b, r0_c, r0_d, r0_e, r0_f), r1, (r1_a, r1_b, r1_c, r1_d, r1_e, r1_f), r2, (r2_a, r2_b, r2_c, r2_d, r2_e, r2_f), r3, (r3_a, r3_b, r3_c, r3_d, r3_e, r3_f), r4, (r4_a, r4_b, r4_c, r4_d, r4_e, r4_f))) H := hP
  have hD : va_D (fun q : Nat => s.heap.size ≤ q) (w_X3 γ x0 (zn, (nn_a, nn_b, nn_c, nn_d, nn_e, nn_f), pp, zs, (ss_a, ss_b, ss_c), zt, (tt_x, tt_y, tt_a, tt_b, tt_c, tt_d, tt_e, tt_f), kk, r0, (r0_a, r0_b, r0_c, r0_d, r0_e, r0_f), r1, (r1_a, r1_b, r1_c, r1_d, r1_e, r1_f), r2, (r2_a, r2_b, r2_c, r2_d, r2_e, r2_f), r3, (r3_a, r3_b, r3_c, r3_d, r3_e, r3_f), r4, (r4_a, r4_b, r4_c, r4_d, r4_e, r4_f))) := hD
  refine W.widen (k := 51) (n := 624) (Nat.le_of_ble_eq_true rfl) (Nat.le_of_ble_eq_true rfl) ?_
  refine lv_astore_n (lv' := [(1, .ref x0), (0, .ref b)]) hx hb dI_L_7 rfl hl (by decide) rfl (fun ls hl => ?_)
  obtain ⟨ρ, hρ⟩ : ∃ ρ : Nat → Nat, ρ = fun k => if k = 999 then b else ([x0, zn, nn_a, nn_b, nn_c, nn_d, nn_e, pp, zs, ss_a, ss_b, ss_c, zt, tt_x, tt_y, tt_a, tt_b, tt_c, tt_d, tt_e, kk, r0, r0_a, r0_b, r0_c, r0_d, r0_e, r1, r1_a, r1_b, r1_c, r1_d, r1_e, r2, r2_a, r2_b, r2_c, r2_d, r2_e, r3, r3_a, r3_b, r3_c, r3_d, r3_e, r4, r4_a, r4_b, r4_c, r4_d, r4_e] : List Nat).getD k 0 := ⟨_, rfl⟩
  obtain ⟨X0, hX0⟩ : ∃ X0 : XT, X0 = ((fun k => ([(fun j => ([0, 0, 0, 0, 0, 0] : List Int32).getD j 0), (fun j => ([0, 0, 0, 0, 0, 20, 0, 255] : List Int32).getD j 0), (fun _ => 0), (fun _ => 0), (fun _ => 0), (fun _ => 0), nn_f, (fun _ => 0), (fun j => ([0, 0, 0, 0, 0, (-1), 0, 0] : List Int32).getD j 0), (fun _ => 0), (fun _ => 0), (fun _ => 0), (fun j => ([0, 0, 0, 0, (-1)] : List Int32).getD j 0), (fun _ => 0), (fun j => ([0, 0, 0, 0, 0, 20, 0, 255] : List Int32).getD j 0), (fun _ => 0), (fun _ => 0), (fun _ => 0), (fun _ => 0), tt_f, (fun _ => 0), (fun j => ([0, 0, 0, 0, 0, 20, 0, 255] : List Int32).getD j 0), (fun _ => 0), (fun _ => 0), (fun _ => 0), (fun _ => 0), r0_f, (fun j => ([0, 0, 0, 0, 0, 20, 0, 255] : List Int32).getD j 0), (fun _ => 0), (fun _ => 0), (fun _ => 0), (fun _ => 0), r1_f, (fun j => ([0, 0, 0, 0, 0, 20, 0, 255] : List Int32).getD j 0), (fun _ => 0), (fun _ => 0), (fun _ => 0), (fun _ => 0), r2_f, (fun j => ([0, 0, 0, 0, 0, 20, 0, 255] : List Int32).getD j 0), (fun _ => 0), (fun _ => 0), (fun _ => 0), (fun _ => 0), r3_f, (fun j => ([0, 0, 0, 0, 0, 20, 0, 255] : List Int32).getD j 0), (fun _ => 0), (fun _ => 0), (fun _ => 0), (fun _ => 0), r4_f] : List (Nat → Int32)).getD k (fun _ => 0)), (fun _ _ => 0), (fun j => 21 + 6 * j)) := ⟨_, rfl⟩
  have hxy : vp_cell (γ.2 3) ((5, .inr (.inr (.inr (.inr (va_up (va_up (va_up (va_up (va_up (fun _ => none) 0 (some r0)) 1 (some r1)) 2 (some r2)) 3 (some r3)) 4 (some r4)))))) : vp_A) = vp_cell (γ.2 3) ((5, .inr (.inr (.inr (.inr (fun j => some (ρ (X0.2.2 j))))))) : vp_A) := by
    rw [vp_cell_q, vp_cell_q]
    refine arrV_cg (fun j hj => ?_)
    have h5 : j = 0 ∨ j = 1 ∨ j = 2 ∨ j = 3 ∨ j = 4 := by omega
    rw [hρ, hX0]
    rcases h5 with rfl | rfl | rfl | rfl | rfl <;> rfl
  have hP := va_P_re hP 7 (a := pp) (cA := γ.2 3) (x := (5, .inr (.inr (.inr (.inr (va_up (va_up (va_up (va_up (va_up (fun _ => none) 0 (some r0)) 1 (some r1)) 2 (some r2)) 3 (some r3)) 4 (some r4))))))) (y := (5, .inr (.inr (.inr (.inr (fun j => some (ρ (X0.2.2 j)))))))) rfl hxy
  have eqW : (w_X3 γ x0 (zn, (nn_a, nn_b, nn_c, nn_d, nn_e, nn_f), pp, zs, (ss_a, ss_b, ss_c), zt, (tt_x, tt_y, tt_a, tt_b, tt_c, tt_d, tt_e, tt_f), kk, r0, (r0_a, r0_b, r0_c, r0_d, r0_e, r0_f), r1, (r1_a, r1_b, r1_c, r1_d, r1_e, r1_f), r2, (r2_a, r2_b, r2_c, r2_d, r2_e, r2_f), r3, (r3_a, r3_b, r3_c, r3_d, r3_e, r3_f), r4, (r4_a, r4_b, r4_c, r4_d, r4_e, r4_f))).set 7 (pp, .inl (γ.2 3, (5, .inr (.inr (.inr (.inr (fun j => some (ρ (X0.2.2 j))))))))) = cells γ ρ X0 := by
    rw [hρ, hX0]
    rfl
  have hD2 : va_D (fun q : Nat => s.heap.size ≤ q) (cells γ ρ X0) := by
    rw [← eqW]
    exact hD.set (show (w_X3 γ x0 (zn, (nn_a, nn_b, nn_c, nn_d, nn_e, nn_f), pp, zs, (ss_a, ss_b, ss_c), zt, (tt_x, tt_y, tt_a, tt_b, tt_c, tt_d, tt_e, tt_f), kk, r0, (r0_a, r0_b, r0_c, r0_d, r0_e, r0_f), r1, (r1_a, r1_b, r1_c, r1_d, r1_e, r1_f), r2, (r2_a, r2_b, r2_c, r2_d, r2_e, r2_f), r3, (r3_a, r3_b, r3_c, r3_d, r3_e, r3_f), r4, (r4_a, r4_b, r4_c, r4_d, r4_e, r4_f)))[7]? = some (pp, .inl (γ.2 3, (5, .inr (.inr (.inr (.inr (va_up (va_up (va_up (va_up (va_up (fun _ => none) 0 (some r0)) 1 (some r1)) 2 (some r2)) 3 (some r3)) 4 (some r4)))))))) from rfl)
  rw [eqW] at hP
  have hdA := dA_of hD2
  have hB0 : RelC X0 g0G := by
    rw [hX0]
    exact rel_0 rfl rfl rfl rfl hwR rfl (fun _ => rfl)
  have hρb : ρ 999 = b := by rw [hρ]; rfl
  have hρ0 : ρ 0 = x0 := by rw [hρ]; rfl
  have hfix : CallFix p m c code 17 s #[Value.ref b] lw_tbl R_law := ⟨hx, hb, hml, hown, hts⟩
  exact start_go l hL hfix hBW hK hN hdA hr hlocks (by rw [hρb]; exact ⟨hX, hbl, hbA⟩) hB0 hP hS (by rw [hρb, hρ0]; exact lv_sub hl [1, 0] rfl)
end START
