/-! The abstract machine is right about the machine. -/
section SOUND
def RX (p : Program) (l : Launch) (e : Env) (R : Room) (s : State) (m : MethodId) (args : Array Value) (below : List Frame) (meth : Method) (c : Code) (γ : GT) (ρ : Nat → Nat) (A : Nat → Prop) (nL kc ks : Nat) (Q : State → Prop) : KT := fun pc lv st X =>
  ∀ (H : Heap) (locs : List Loc) (ls : Array Slot), va_P γ.1 vwCl (cells γ ρ X) H → va_S A s.heap H locs → lv_has ls nL (lv.map fun q => (q.1, cv ρ q.2)) → W p l e R s m args below meth c H locs kc ks Q (F0 m pc ls (st.map (cv ρ)))
def CallRule (l : Launch) (own : String) (cc : ByteArray) (ws : List Cond) (nL : Nat) (R : Room) (q : CE) : Prop :=
  ∀ (p : Program) (e : Env) (s : State) (m : MethodId) (args : Array Value) (below : List Frame) (meth : Method) (c : Code) (γ : GT) (ρ : Nat → Nat) (A : Nat → Prop) (kc ks : Nat) (Q : State → Prop), CallFix p m c cc nL s args ws own → va_K γ.1 vwCl (tysG γ) s → NL s → dA A ρ → kc ≤ R.cells ∧ ks ≤ R.slots →
  ∀ (pc : Nat) (As rest : List Value) (X : XT) (K : Option Value → XT → Prop), As.length = q.2.2.1 → (q.2.1 = false → recvOk As q.2.2.2.1) → q.2.2.2.2 As X K → catS rest ≤ 8 → decode cc pc = .ok (if q.2.1 then Instr.invokestatic q.1 else Instr.invokevirtual q.1, 3) →
  ∀ (H : Heap) (locs : List Loc) (ls : Array Slot), va_P γ.1 vwCl (cells γ ρ X) H → va_S A s.heap H locs → ls.size = nL →
  (∀ (v : Option Value) (X' : XT) (H1 : Heap) (locs1 : List Loc), K v X' → va_P γ.1 vwCl (cells γ ρ X') H1 → va_S A s.heap H1 locs1 → W p l e R s m args below meth c H1 locs1 kc ks Q (F0 m (pc + 3) ls ((v.toList ++ rest).map (cv ρ)))) →
  W p l e R s m args below meth c H locs kc ks Q (F0 m pc ls ((As.reverse ++ rest).map (cv ρ)))
section CALLS
variable {p : Program} {l : Launch} {e : Env} {R : Room} {s : State} {m : MethodId} {args : Array Value} {below : List Frame} {meth : Method} {c : Code} {H : Heap} {locs : List Loc} {cells0 slots0 : Nat} {Q : State → Prop} {γ : GT} {ρ : Nat → Nat} {A : Nat → Prop} {ls : Array Slot} {pc : Nat} {st0 rest : List Value} {K : Option Value → XT → Prop} {a : Array Value}
theorem xrun (hr : va_Run p l e R s m args below meth c H locs cells0 slots0 0 0 (F0 m pc ls st0) rest (QX γ ρ K a) (Ar ρ)) (hS : va_S A s.heap H locs) (hA : ∀ q, Ar ρ q → A q)
    (kk : ∀ (v : Option Value) (X' : XT) (H1 : Heap) (locs1 : List Loc), K v X' → va_P γ.1 vwCl (cells γ ρ X') H1 → va_S A s.heap H1 locs1 → W p l e R s m args below meth c H1 locs1 cells0 slots0 Q (F0 m (pc + 3) ls ((v.map (cv ρ)).toList ++ rest))) : W p l e R s m args below meth c H locs cells0 slots0 Q (F0 m pc ls st0) := by
  intro T hT X
  obtain ⟨v, st₀, t, T', L, h0, X', hL, e1, e2, ⟨⟨r, u, hv, hp, hb⟩, hz, hk⟩, st⟩ := hr T hT X
  cases hv
  rw [h0] at hz hk
  obtain ⟨t2, a1, b1⟩ := kk r u T'.heap (locs ++ L) hp (by rw [e1]; exact hb)
    ⟨Nat.le_trans hS.1 (by rw [e1]; exact hz), fun q h1 h2 => by rw [e1, hk q (Nat.lt_of_lt_of_le h1 hS.1) (fun z => h2 (hA q z))]; exact hS.2.1 q h1 h2, fun q hq => by
      rcases List.mem_append.mp hq with h | h
      · exact hS.2.2 q h
      · exact hA _ (hL q h)⟩ T' rfl X'
  exact ⟨t2, st t2 a1, b1⟩
end CALLS
theorem Ar_A {A : Nat → Prop} {ρ : Nat → Nat} (h : dA A ρ) : ∀ q, Ar ρ q → A q := by
  rintro q ⟨k, hk, rfl⟩
  exact h.2 k hk
theorem dA_Ar {A : Nat → Prop} {ρ : Nat → Nat} (h : dA A ρ) : dA (Ar ρ) ρ := ⟨h.1, fun i hi => ⟨i, hi, rfl⟩⟩
theorem BW_good {w : Cond} (h : w ∈ BW) : goodWord w = true := (List.mem_filter.mp h).2
theorem goodBW {y0 : MethodName} {cc0 : ByteArray} {m0 : Nat} {r0 : Option FieldType} {ws : List Cond} (h : ∀ w ∈ ws, w ∈ BW) : GoodIn (wY y0 cc0 m0 r0) ws := fun w hw => ⟨List.mem_cons_of_mem _ (h w hw), good_of_word (BW_good (h w hw))⟩
theorem wY_BW {y : MethodName} {cc : ByteArray} {maxL : Nat} {ret : Option FieldType} (h : inB (.code y cc maxL ret) = true) : ∀ w ∈ wY y cc maxL ret, w ∈ BW := by
  intro w hw
  rcases List.mem_cons.mp hw with e | e
  · rw [e]; exact inB_BW h
  · exact e
theorem toL_map (ρ : Nat → Nat) (v : Option Value) (rest : List Value) : (v.map (cv ρ)).toList ++ rest.map (cv ρ) = (v.toList ++ rest).map (cv ρ) := by cases v <;> rfl
theorem catS_cv (ρ : Nat → Nat) (st : List Value) : ((st.map (cv ρ)).map fun v => v.category).sum = catS st := by
  unfold catS
  rw [List.map_map]
  congr 1
  exact List.map_congr_left (fun v _ => cv_cat ρ v)
/-- the checks of a call that are the same for all kinds -/
def cB (y : MethodName) (cc : ByteArray) (maxL : Nat) (ret : Option FieldType) (n : Nat) : Bool := inB (.code y cc maxL ret) && inB (.initialized y.cls) && y.cls != "java/lang/invoke/MethodHandle" && y.cls != "java/lang/invoke/VarHandle" && (parseMethodDescriptor y.desc).map (fun d => d.parameters.length) == some n
theorem cB_spec {y : MethodName} {cc : ByteArray} {maxL : Nat} {ret : Option FieldType} {n : Nat} (h : cB y cc maxL ret n = true) : inB (.code y cc maxL ret) = true ∧ inB (.initialized y.cls) = true ∧ (y.cls ≠ "java/lang/invoke/MethodHandle" ∧ y.cls ≠ "java/lang/invoke/VarHandle" ∧ (parseMethodDescriptor y.desc).map (fun d => d.parameters.length) = some n) := by
  unfold cB at h
  simp only [Bool.and_eq_true, bne_iff_ne, ne_eq, beq_iff_eq] at h
  exact ⟨h.1.1.1.1, h.1.1.1.2, h.1.1.2, h.1.2, h.2⟩
section CR
variable {l : Launch} {own : String} {cc bytes : ByteArray} {nL maxL maxL0 n idx ci : Nat} {R rm : Room} {y y0 : MethodName} {ret ret0 : Option FieldType} {C : CT} {T : u_T} {N : Nat}
theorem cr_S (hD : Does l y (wY y bytes maxL ret) rm C) (hb : cB y bytes maxL ret n = true) (hw : (inB (.methodLink own idx y) && inB (.static y)) = true) (hr : rm.cells = 0 ∧ rm.slots = 0) (hR : rm.frames + 1 ≤ R.frames ∧ 8 + (maxL + 11) + rm.locals ≤ R.locals) : CallRule l own cc (wY y0 cc maxL0 ret0) nL R (idx, true, n, ci, C) := by
  intro p e s m args below meth c γ ρ A kc ks Q hfix hK hN hρ hcap pc As rest X K hn hrec hC hcat hdg H locs ls hP hS hsz kk
  obtain ⟨b1, b2, b3⟩ := cB_spec hb
  simp only [Bool.and_eq_true] at hw
  have hT : GoodIn (wY y0 cc maxL0 ret0) (va_wsS own idx y (wY y bytes maxL ret)) := goodBW (fun w h => by
    rcases List.mem_append.mp h with h | h
    · rcases List.mem_cons.mp h with h | h
      · rw [h]; exact inB_BW hw.1
      · rcases List.mem_cons.mp h with h | h
        · rw [h]; exact inB_BW hw.2
        · rw [List.mem_singleton.mp h]; exact inB_BW b2
    · exact wY_BW b1 w h)
  have hrun := va_runS (As := As.map (cv ρ)) (rest := rest.map (cv ρ)) (H := H) (locs := locs) (cells := kc) (slots := ks) (g := F0 m pc ls ((As.reverse ++ rest).map (cv ρ))) (below := below) (meth := meth) (e := e) hfix (hD γ ρ As X K (dA_Ar hρ) hC) (va_cwS n hfix.2.2.2.2 hT rfl hr.1 hr.2 b3 hR) ⟨Hd.blind γ ρ X _, fun U hU hW => ⟨rfl, Hd.of hP hK hN hU hW⟩⟩ rfl (by rw [List.length_map]; exact hn) hsz (by rw [List.map_append, List.map_reverse]) (lv_room (rest := []) (m := m) (pc := pc) (ls := ls) (by rw [catS_cv]; exact hcat)) hdg ⟨hcap.1, hcap.2⟩
  refine xrun hrun hS (Ar_A hρ) (fun v X' H1 locs1 h1 h2 h3 => ?_)
  rw [toL_map]
  exact kk v X' H1 locs1 h1 h2 h3
theorem zRecv {As : List Value} {c : Nat} (h : recvOk As c) : ∃ b As', As = .ref b :: As' ∧ b < NC ∧ (shp b).1 = c := by
  unfold recvOk at h
  split at h
  next k r => exact ⟨k, r, rfl, h.1, h.2⟩
  next => exact h.elim
theorem cr_V (hD : Does l y (wY y bytes maxL ret) rm C) (hcl : vwCl[ci]? = some (y.cls, T, N)) (hb : cB y bytes maxL ret n = true) (hw : (inB (.methodLink own idx y) && inB (.instanceMethod y) && inB (.selects y.cls y y)) = true) (hr : rm.cells = 0 ∧ rm.slots = 0) (hR : rm.frames + 1 ≤ R.frames ∧ 8 + (maxL + 11) + rm.locals ≤ R.locals) : CallRule l own cc (wY y0 cc maxL0 ret0) nL R (idx, false, n + 1, ci, C) := by
  intro p e s m args below meth c γ ρ A kc ks Q hfix hK hN hρ hcap pc As rest X K hn hrec hC hcat hdg H locs ls hP hS hsz kk
  obtain ⟨b, As', rfl, hb1, hb2⟩ := zRecv (hrec rfl)
  obtain ⟨b1, b2, b3⟩ := cB_spec hb
  simp only [Bool.and_eq_true] at hw
  have hT : GoodIn (wY y0 cc maxL0 ret0) (wsV own idx y.cls y (wY y bytes maxL ret)) := goodBW (fun w h => by
    rcases List.mem_append.mp h with h | h
    · rcases List.mem_cons.mp h with h | h
      · rw [h]; exact inB_BW hw.1.1
      · rcases List.mem_cons.mp h with h | h
        · rw [h]; exact inB_BW hw.1.2
        · rcases List.mem_cons.mp h with h | h
          · rw [h]; exact inB_BW hw.2
          · rw [List.mem_singleton.mp h]; exact inB_BW b2
    · exact wY_BW b1 w h)
  have hc5 : ci < 5 := (cl_facts ci _ hcl).2.2.2.2
  have hrun := va_runV (As := As'.map (cv ρ)) (b := ρ b) (rest := rest.map (cv ρ)) (H := H) (locs := locs) (cells := kc) (slots := ks) (g := F0 m pc ls ((List.reverse (.ref b :: As') ++ rest).map (cv ρ))) (below := below) (meth := meth) (e := e) hfix (hD γ ρ _ X K (dA_Ar hρ) hC) (cwV n hfix.2.2.2.2 hT rfl hr.1 hr.2 ⟨rfl, b3⟩ hR) ⟨Hd.blind γ ρ X _, va_recv hK hP (ci := ci) (q0 := b) hcl ((cells_at γ ρ X hb1).trans (by rw [cellE_obj γ ρ X hb2 hc5])), fun U hU hW => ⟨rfl, Hd.of hP hK hN hU hW⟩⟩ rfl (by rw [List.length_map]; exact Nat.succ.inj hn) hsz (by simp [cv]) (lv_room (rest := []) (m := m) (pc := pc) (ls := ls) (by rw [catS_cv]; exact hcat)) hdg ⟨hcap.1, hcap.2⟩
  refine xrun hrun hS (Ar_A hρ) (fun v X' H1 locs1 h1 h2 h3 => ?_)
  rw [toL_map]
  exact kk v X' H1 locs1 h1 h2 h3
theorem cr_NS (hD : Does l y (wY y bytes maxL ret) rm C) (hb : cB y bytes maxL ret n = true) (hw : inB (.static y) = true) (hnl : (own, idx, y, "RumourSource") ∈ nwM) (hr : rm.cells = 0 ∧ rm.slots = 0) (hR : rm.frames + 1 ≤ R.frames ∧ 8 + (maxL + 11) + rm.locals ≤ R.locals) : CallRule l own cc (wY y0 cc maxL0 ret0) nL R (idx, true, n, ci, C) := by
  intro p e s m args below meth c γ ρ A kc ks Q hfix hK hN hρ hcap pc As rest X K hn hrec hC hcat hdg H locs ls hP hS hsz kk
  obtain ⟨b1, b2, b3⟩ := cB_spec hb
  have hG : GoodIn (wY y0 cc maxL0 ret0) (wY y bytes maxL ret) := goodBW (wY_BW b1)
  have ht : ∀ w, inB w = true → w.before args s = true := fun w h => hfix.2.2.2.2 w (List.mem_cons_of_mem _ (inB_BW h))
  have hrun := va_runSN (As := As.map (cv ρ)) (rest := rest.map (cv ρ)) (H := H) (locs := locs) (cells := kc) (slots := ks) (g := F0 m pc ls ((As.reverse ++ rest).map (cv ρ))) (below := below) (meth := meth) (e := e) (host := "RumourSource") hfix (hD γ ρ As X K (dA_Ar hρ) hC) ⟨va_cnB n hfix.2.2.2.2 hG rfl hr.1 hr.2 (hN.2 _ hnl) (ht _ b2) b3 hR, ht _ hw, trivial⟩ ⟨Hd.blind γ ρ X _, fun U hU hW => ⟨rfl, Hd.of hP hK hN hU hW⟩⟩ rfl (by rw [List.length_map]; exact hn) hsz (by rw [List.map_append, List.map_reverse]) (lv_room (rest := []) (m := m) (pc := pc) (ls := ls) (by rw [catS_cv]; exact hcat)) hdg ⟨hcap.1, hcap.2⟩
  refine xrun hrun hS (Ar_A hρ) (fun v X' H1 locs1 h1 h2 h3 => ?_)
  rw [toL_map]
  exact kk v X' H1 locs1 h1 h2 h3
theorem cr_NV (hD : Does l y (wY y bytes maxL ret) rm C) (hcl : vwCl[ci]? = some (y.cls, T, N)) (hb : cB y bytes maxL ret n = true) (hw : (inB (.instanceMethod y) && inB (.selects y.cls y y)) = true) (hnl : (own, idx, y, "RumourSource") ∈ nwM) (hr : rm.cells = 0 ∧ rm.slots = 0) (hR : rm.frames + 1 ≤ R.frames ∧ 8 + (maxL + 11) + rm.locals ≤ R.locals) : CallRule l own cc (wY y0 cc maxL0 ret0) nL R (idx, false, n + 1, ci, C) := by
  intro p e s m args below meth c γ ρ A kc ks Q hfix hK hN hρ hcap pc As rest X K hn hrec hC hcat hdg H locs ls hP hS hsz kk
  obtain ⟨b, As', rfl, hb1, hb2⟩ := zRecv (hrec rfl)
  obtain ⟨b1, b2, b3⟩ := cB_spec hb
  simp only [Bool.and_eq_true] at hw
  have hG : GoodIn (wY y0 cc maxL0 ret0) (wY y bytes maxL ret) := goodBW (wY_BW b1)
  have ht : ∀ w, inB w = true → w.before args s = true := fun w h => hfix.2.2.2.2 w (List.mem_cons_of_mem _ (inB_BW h))
  have hc5 : ci < 5 := (cl_facts ci _ hcl).2.2.2.2
  have hrun := va_runVN (As := As'.map (cv ρ)) (b := ρ b) (rest := rest.map (cv ρ)) (H := H) (locs := locs) (cells := kc) (slots := ks) (g := F0 m pc ls ((List.reverse (.ref b :: As') ++ rest).map (cv ρ))) (below := below) (meth := meth) (e := e) (host := "RumourSource") (C := y.cls) hfix (hD γ ρ _ X K (dA_Ar hρ) hC) ⟨va_cnB n hfix.2.2.2.2 hG rfl hr.1 hr.2 (hN.2 _ hnl) (ht _ b2) b3 hR, ht _ hw.1, ht _ hw.2⟩ ⟨Hd.blind γ ρ X _, va_recv hK hP (ci := ci) (q0 := b) hcl ((cells_at γ ρ X hb1).trans (by rw [cellE_obj γ ρ X hb2 hc5])), fun U hU hW => ⟨rfl, Hd.of hP hK hN hU hW⟩⟩ rfl (by rw [List.length_map]; exact Nat.succ.inj hn) hsz (by simp [cv]) (lv_room (rest := []) (m := m) (pc := pc) (ls := ls) (by rw [catS_cv]; exact hcat)) hdg ⟨hcap.1, hcap.2⟩
  refine xrun hrun hS (Ar_A hρ) (fun v X' H1 locs1 h1 h2 h3 => ?_)
  rw [toL_map]
  exact kk v X' H1 locs1 h1 h2 h3
end CR
end SOUND
