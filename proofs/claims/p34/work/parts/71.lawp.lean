section LAWP
theorem goodL {ws : List Cond} (h : ∀ w ∈ ws, w ∈ BW) : GoodIn lw_tbl ws := fun w hw => ⟨(List.mem_filter.mp (h w hw)).1, good_of_word (BW_good (h w hw))⟩
section CRL
variable {l : Launch} {own : String} {cc cc0 bytes : ByteArray} {nL maxL maxL0 n idx ci : Nat} {R rm : Room} {y y0 : MethodName} {ret ret0 : Option FieldType} {C : CT} {T : u_T} {N : Nat}
theorem cr_L (hD : Does l y (wY y bytes maxL ret) rm C) (hcl : vwCl[ci]? = some (y.cls, T, N)) (hb : cB y bytes maxL ret n = true) (hw : (inB (.methodLink own idx y) && inB (.instanceMethod y) && inB (.selects y.cls y y)) = true) (hr : rm.cells = 0 ∧ rm.slots = 0) (hR : rm.frames + 1 ≤ R.frames ∧ 8 + (maxL + 11) + rm.locals ≤ R.locals) : CallRule l own cc lw_tbl nL R (idx, false, n + 1, ci, C) := by
  intro p e s m args below meth c γ ρ A kc ks Q hfix hK hN hρ hcap pc As rest X K hn hrec hC hcat hdg H locs ls hP hS hsz kk
  obtain ⟨b, As', rfl, hb1, hb2⟩ := zRecv (hrec rfl)
  obtain ⟨b1, b2, b3⟩ := cB_spec hb
  simp only [Bool.and_eq_true] at hw
  have hT : GoodIn lw_tbl (wsV own idx y.cls y (wY y bytes maxL ret)) := goodL (fun w h => by
    rcases List.mem_append.mp h with h | h
    · rcases List.mem_cons.mp h with h | h
      · rw [h]; exact inB_BW hw.1.1
      · rcases List.mem_cons.mp h with h | h
        · rw [h]; exact inB_BW hw.1.2
        · rcases List.mem_cons.mp h with h | h
          · rw [h]; exact inB_BW hw.2
          · rw [List.mem_singleton.mp h]; exact inB_BW b2
    · exact wY_BW b1 w h)
  have hc5 : ci < 5 := (cl_facts ci _ hcl).2.2.2.2
  have hrun := va_runV (As := As'.map (cv ρ)) (b := ρ b) (rest := rest.map (cv ρ)) (H := H) (locs := locs) (cells := kc) (slots := ks) (g := F0 m pc ls ((List.reverse (.ref b :: As') ++ rest).map (cv ρ))) (below := below) (meth := meth) (e := e) hfix (hD γ ρ _ X K (dA_Ar hρ) hC) (cwV n hfix.2.2.2.2 hT rfl hr.1 hr.2 ⟨rfl, b3⟩ hR) ⟨Hd.blind γ ρ X _, va_recv hK hP (ci := ci) (q0 := b) hcl ((cells_at γ ρ X hb1).trans (by rw [cellE_obj γ ρ X hb2 hc5])), fun U hU hW => ⟨rfl, Hd.of hP hK hN hU hW⟩⟩ rfl (by rw [List.length_map]; exact Nat.succ.inj hn) hsz (by simp [cv]) (lv_room (rest := []) (m := m) (pc := pc) (ls := ls) (by rw [catS_cv]; exact hcat)) hdg ⟨hcap.1, hcap.2⟩
  refine xrun hrun hS (Ar_A hρ) (fun v X' H1 locs1 h1 h2 h3 => ?_)
  rw [toL_map]
  exact kk v X' H1 locs1 h1 h2 h3
theorem cr_LS (hD : Does l y (wY y bytes maxL ret) rm C) (hb : cB y bytes maxL ret n = true) (hw : (inB (.methodLink own idx y) && inB (.static y)) = true) (hr : rm.cells = 0 ∧ rm.slots = 0) (hR : rm.frames + 1 ≤ R.frames ∧ 8 + (maxL + 11) + rm.locals ≤ R.locals) : CallRule l own cc lw_tbl nL R (idx, true, n, ci, C) := by
  intro p e s m args below meth c γ ρ A kc ks Q hfix hK hN hρ hcap pc As rest X K hn hrec hC hcat hdg H locs ls hP hS hsz kk
  obtain ⟨b1, b2, b3⟩ := cB_spec hb
  simp only [Bool.and_eq_true] at hw
  have hT : GoodIn lw_tbl (va_wsS own idx y (wY y bytes maxL ret)) := goodL (fun w h => by
    rcases List.mem_append.mp h with h | h
    · rcases List.mem_cons.mp h with h | h
      · rw [h]; exact inB_BW hw.1
      · rcases List.mem_cons.mp h with h | h
        · rw [h]; exact inB_BW hw.2
        · rw [List.mem_singleton.mp h]; exact inB_BW b2
    · exact wY_BW b1 w h)
  have hrun := va_runS (As := As.map (cv ρ)) (rest := rest.map (cv ρ)) (H := H) (locs := locs) (cells := kc) (slots := ks) (g := F0 m pc ls ((As.reverse ++ rest).map (cv ρ))) (below := below) (meth := meth) (e := e) hfix (hD γ ρ As X K (dA_Ar hρ) hC) (va_cwS n hfix.2.2.2.2 hT rfl hr.1 hr.2 b3 hR) ⟨Hd.blind γ ρ X _, fun U hU hW => ⟨rfl, Hd.of hP hK hN hU hW⟩⟩ rfl (by rw [List.length_map]; exact hn) hsz (by rw [List.map_append, List.map_reverse]) (lv_room (rest := []) (m := m) (pc := pc) (ls := ls) (by rw [catS_cv]; exact hcat)) hdg ⟨hcap.1, hcap.2⟩
  refine xrun hrun hS (Ar_A hρ) (fun v X' H1 locs1 h1 h2 h3 => ?_)
  rw [toL_map]
  exact kk v X' H1 locs1 h1 h2 h3
end CRL
theorem scrR_s (xs : Nat → Int32) (L : Nat) (i : Int32) (κ : Int32 → Prop) (o : Prop) : scrR (some xs) L 999 i κ o = (vp_in i L ∧ κ (xs i.toNatClampNeg)) := (rfl)
theorem scrN_s (xs : Nat → Int32) (L : Nat) (κ : Int32 → Prop) (o : Prop) : scrN (some xs) L 999 κ o = κ (Int32.ofNat L) := (rfl)
def postL : Option Value → XT → Prop := fun v _ => v = some (.int 1)
/-- the world, and the script beside it -/
def Hx (γ : GT) (ρ : Nat → Nat) (X : XT) (L : Nat) (xs : Nat → Int32) (U : State) : Prop := Hd γ ρ X U ∧ va_X (ρ 999) L xs U U.heap ∧ ρ 999 < U.heap.size
theorem Hx.blind (γ : GT) (ρ : Nat → Nat) (X : XT) (L : Nat) (xs : Nat → Int32) (vs : List Value) : FrameBlind (va_Pc vs (Hx γ ρ X L xs)) := by
  intro a U g mk q
  obtain ⟨q0, ⟨⟨qP, qK, qN⟩, qX, qs⟩⟩ := q
  exact ⟨q0, ⟨⟨qP, va_K.moved (u := U) (U := U.calling g mk a) (Vm.Alike.refl U.vm) qK, NL.same (u := U) (U := U.calling g mk a) rfl qN⟩, va_X.moved (u := U) (U := U.calling g mk a) (Vm.Alike.refl U.vm) qX, qs⟩⟩
def pstC (X : XT) : Option Value → XT → Prop := fun v X' => (∃ y, v = some (.int y)) ∧ X' = X
theorem cell_run {xs : Nat → Int32} {L : Nat} (hL : L ≤ 260) {j : Nat} (hj : j ≤ 20) {X : XT} {R : KT} (hR : Clo tL_cell 0 [] (some xs) L (pstC X) R) : R 0 (lv_args 0 [.ref 999, .int (nI j)]) [] X := by
  have e : Int32.ofNat L = nI L := rfl
  refine go hR [] 60 ?_
  simp only [lv_args, ↓reduceIte, Nat.reduceEqDiff, Nat.reduceAdd, Nat.reduceLeDiff, reduceCtorEq, and_true, true_and, false_and, and_false, true_or, or_true, or_false, false_or, true_implies, false_implies, implies_true, not_true_eq_false, not_false_eq_true, eq_self, fx_s, ↓run_s, run_0, ↓rs_n, ↓rs_c, as_s, ls_n, ls_c, lc_s, lget_c, fL_cell_0, ↓ex_iload_n, ↓xI_i, ↓xIg_c, fL_cell_1, ↓ex_aload_n, ↓xR_r, ↓xRg_c, fL_cell_2, ↓ex_arraylength, ↓s1R_c, ↓scrN_n, fL_cell_3, ↓ex_if_icmp_ge, ↓s2I_c, fL_cell_6, fL_cell_7, fL_cell_8, ↓ex_iaload, ↓sRI_c, ↓scrR_n, fL_cell_9, ↓ex_goto, fL_cell_12, ↓ex_sipush, fL_cell_15, fL_cell_16, ↓ex_iconst, fL_cell_17, ↓ex_iadd, fL_cell_18, ↓ex_imul, fL_cell_19, fL_cell_20, ↓ex_bipush, fL_cell_22, fL_cell_23, fL_cell_24, ↓ex_ireturn, ↓rt_i, scrR_s, scrN_s, e, leN (a := L) (b := j) (by omega) (by omega), ↓reduceIte, not_true_eq_false, not_false_eq_true, false_implies, true_implies, implies_true, and_true, true_and, and_false, false_and, or_true, true_or, or_false, false_or, Classical.not_not, ite_true, ite_false]
  exact ⟨fun _ => ⟨⟨_, rfl⟩, rfl⟩, fun z => ⟨vp_inN (by omega) (by omega), ⟨_, rfl⟩, rfl⟩⟩
theorem d_cell (l : Launch) {γ : GT} {ρ : Nat → Nat} {X : XT} {L : Nat} {xs : Nat → Int32} (hL : L ≤ 260) (hρ : dA (Ar ρ) ρ) (hne : ¬ Ar ρ (ρ 999)) {j : Nat} (hj : j ≤ 20) : Met l yL_cell (wY yL_cell cL_cell 2 (retT 0)) (rmF 0) (va_Pc (([.ref 999, .int (nI j)] : List Value).map (cv ρ)) (Hx γ ρ X L xs)) (QX γ ρ (pstC X)) 0 0 (Ar ρ) := by
  refine Met.ofW (cc := cL_cell) (maxL := 2) (ret := retT 0) (by decide +kernel) rfl ?_
  intro p e s m args below meth c s₁ B hml hv
  obtain ⟨rfl, ⟨hP, hK, hN⟩, hX, hs⟩ := hv
  have hts := atoms_spec (ws := wY yL_cell cL_cell 2 (retT 0)) B.pre
  have hown : s.vm.findClass yL_cell.cls = some m.cls := findClass_of_methodNamed B.named
  have hfix : CallFix p m c cL_cell 2 s ((([.ref 999, .int (nI j)] : List Value).map (cv ρ)).toArray) (wY yL_cell cL_cell 2 (retT 0)) yL_cell.cls := ⟨B.exec, B.bytes, hml, hown, hts⟩
  have hl := lv_entry (([.ref 999, .int (nI j)] : List Value).map (cv ρ)) (n := 2) (by rw [szA_cv]; exact Nat.le_of_ble_eq_true rfl)
  rw [args_cv] at hl
  rw [lg_entry_eq]
  have hclo : Clo tL_cell 0 [] (some xs) L (pstC X) (RX p l e (rmF 0) s m ((([.ref 999, .int (nI j)] : List Value).map (cv ρ)).toArray) below meth c γ ρ (Ar ρ) 2 0 0 (MQ below (QX γ ρ (pstC X)) ((([.ref 999, .int (nI j)] : List Value).map (cv ρ)).toArray) s 0 0 (Ar ρ))) :=
    ⟨exec_sound hfix (fun w hw => List.mem_cons_of_mem _ hw) hK hN hρ ⟨Nat.zero_le _, Nat.zero_le _⟩ (fun _ h => absurd h List.not_mem_nil) (retOk_MQ B.exec B.bytes B.returns B.notSynchronized) (fun ys h => by cases h; exact ⟨hX, hs, hne⟩) tkL_cell,
     fun pc lv lv' st X hs hR H locs ls hP hS hl => hR H locs ls hP hS (lv_mono hl (fun q hq => by
       obtain ⟨q0, h0, rfl⟩ := List.mem_map.mp hq
       exact List.mem_map.mpr ⟨q0, hs q0 h0, rfl⟩))⟩
  exact cell_run hL hj hclo s.heap [] _ hP va_S.rf hl
theorem cell_T : GoodIn lw_tbl (va_wsS R_law 95 yL_cell (wY yL_cell cL_cell 2 (retT 0))) := goodL (fun w h => by
    rcases List.mem_append.mp h with h | h
    · rcases List.mem_cons.mp h with h | h
      · rw [h]; exact inB_BW (by decide +kernel)
      · rcases List.mem_cons.mp h with h | h
        · rw [h]; exact inB_BW (by decide +kernel)
        · rw [List.mem_singleton.mp h]; exact inB_BW (by decide +kernel)
    · exact wY_BW (by decide +kernel) w h)
theorem cell_rule {p : Program} {l : Launch} {e : Env} {s : State} {m : MethodId} {args : Array Value} {below : List Frame} {meth : Method} {c : Code} {γ : GT} {ρ : Nat → Nat} {A : Nat → Prop} {kc ks : Nat} {Q : State → Prop} {L : Nat} {xs : Nat → Int32} (hfix : CallFix p m c code 17 s args lw_tbl R_law) (hK : va_K γ.1 vwCl (tysG γ) s) (hN : NL s) (hdA : dA A ρ) (hcap : kc ≤ room_1.cells ∧ ks ≤ room_1.slots) (hL : L ≤ 260) (hX : va_X (ρ 999) L xs s s.heap) (hs : ρ 999 < s.heap.size) (hnA : ¬ A (ρ 999)) {pc j : Nat} (hj : j ≤ 20) (hdg : decode code pc = .ok (.invokestatic 95, 3)) {lv : List (Nat × Value)} {X : XT} (kk : ∀ y, RX p l e room_1 s m args below meth c γ ρ A 17 kc ks Q (pc + 3) lv [.int y] X) : RX p l e room_1 s m args below meth c γ ρ A 17 kc ks Q pc lv [.int (nI j), .ref 999] X := by
  intro H locs ls hP hS hl
  have hXH : va_X (ρ 999) L xs s H := hX.kept (hS.2.1 _ hs hnA)
  have hsH : ρ 999 < H.size := Nat.lt_of_lt_of_le hs hS.1
  have hne : ¬ Ar ρ (ρ 999) := fun h => hnA (Ar_A hdA _ h)
  have hrun := va_runS (As := ([.ref 999, .int (nI j)] : List Value).map (cv ρ)) (rest := ([] : List Value).map (cv ρ)) (H := H) (locs := locs) (cells := kc) (slots := ks) (g := F0 m pc ls (([.int (nI j), .ref 999] : List Value).map (cv ρ))) (below := below) (meth := meth) (e := e) hfix (d_cell l (γ := γ) (X := X) (xs := xs) hL (dA_Ar hdA) hne hj) (va_cwS 2 hfix.2.2.2.2 cell_T rfl rfl rfl (by decide +kernel) ⟨Nat.le_of_ble_eq_true rfl, Nat.le_of_ble_eq_true rfl⟩) ⟨Hx.blind γ ρ X L xs _, fun U hU hW => ⟨rfl, Hd.of hP hK hN hU hW, by rw [hU]; exact va_X.moved hW.alike hXH, by rw [hU]; exact hsH⟩⟩ rfl rfl hl.1 rfl (lv_room (rest := []) (m := m) (pc := pc) (ls := ls) (by rw [catS_cv]; decide)) hdg ⟨hcap.1, hcap.2⟩
  refine xrun hrun hS (Ar_A hdA) (fun v X' H1 locs1 h1 h2 h3 => ?_)
  obtain ⟨⟨y, rfl⟩, rfl⟩ := h1
  exact kk y H1 locs1 ls h2 h3 hl

end LAWP
