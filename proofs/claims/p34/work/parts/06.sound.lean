section SND
theorem xI_e {o : Option Value} {κ : Int32 → Prop} (h : xI o κ) : ∃ x, o = some (.int x) ∧ κ x := by
  unfold xI at h; split at h
  next x => exact ⟨x, rfl, h⟩
  next => exact h.elim
theorem xL_e {o : Option Value} {κ : Int64 → Prop} (h : xL o κ) : ∃ x, o = some (.long x) ∧ κ x := by
  unfold xL at h; split at h
  next x => exact ⟨x, rfl, h⟩
  next => exact h.elim
theorem xR_e {o : Option Value} {κ : Nat → Prop} (h : xR o κ) : ∃ x, o = some (.ref x) ∧ κ x := by
  unfold xR at h; split at h
  next x => exact ⟨x, rfl, h⟩
  next => exact h.elim
theorem s1I_e {st : List Value} {κ : Int32 → List Value → Prop} (h : s1I st κ) : ∃ x r, st = .int x :: r ∧ κ x r := by
  unfold s1I at h; split at h
  next x r => exact ⟨x, r, rfl, h⟩
  next => exact h.elim
theorem s1L_e {st : List Value} {κ : Int64 → List Value → Prop} (h : s1L st κ) : ∃ x r, st = .long x :: r ∧ κ x r := by
  unfold s1L at h; split at h
  next x r => exact ⟨x, r, rfl, h⟩
  next => exact h.elim
theorem s1R_e {st : List Value} {κ : Nat → List Value → Prop} (h : s1R st κ) : ∃ x r, st = .ref x :: r ∧ κ x r := by
  unfold s1R at h; split at h
  next x r => exact ⟨x, r, rfl, h⟩
  next => exact h.elim
theorem s2I_e {st : List Value} {κ : Int32 → Int32 → List Value → Prop} (h : s2I st κ) : ∃ x y r, st = .int y :: .int x :: r ∧ κ x y r := by
  unfold s2I at h; split at h
  next y x r => exact ⟨x, y, r, rfl, h⟩
  next => exact h.elim
theorem s2L_e {st : List Value} {κ : Int64 → Int64 → List Value → Prop} (h : s2L st κ) : ∃ x y r, st = .long y :: .long x :: r ∧ κ x y r := by
  unfold s2L at h; split at h
  next y x r => exact ⟨x, y, r, rfl, h⟩
  next => exact h.elim
theorem sLI_e {st : List Value} {κ : Int64 → Int32 → List Value → Prop} (h : sLI st κ) : ∃ x y r, st = .int y :: .long x :: r ∧ κ x y r := by
  unfold sLI at h; split at h
  next y x r => exact ⟨x, y, r, rfl, h⟩
  next => exact h.elim
theorem sRI_e {st : List Value} {κ : Nat → Int32 → List Value → Prop} (h : sRI st κ) : ∃ q i r, st = .int i :: .ref q :: r ∧ κ q i r := by
  unfold sRI at h; split at h
  next i q r => exact ⟨q, i, r, rfl, h⟩
  next => exact h.elim
theorem sRII_e {st : List Value} {κ : Nat → Int32 → Int32 → List Value → Prop} (h : sRII st κ) : ∃ q i x r, st = .int x :: .int i :: .ref q :: r ∧ κ q i x r := by
  unfold sRII at h; split at h
  next x i q r => exact ⟨q, i, x, r, rfl, h⟩
  next => exact h.elim
theorem sRIL_e {st : List Value} {κ : Nat → Int32 → Int64 → List Value → Prop} (h : sRIL st κ) : ∃ q i x r, st = .long x :: .int i :: .ref q :: r ∧ κ q i x r := by
  unfold sRIL at h; split at h
  next x i q r => exact ⟨q, i, x, r, rfl, h⟩
  next => exact h.elim
theorem sRIR_e {st : List Value} {κ : Nat → Int32 → Nat → List Value → Prop} (h : sRIR st κ) : ∃ q i x r, st = .ref x :: .int i :: .ref q :: r ∧ κ q i x r := by
  unfold sRIR at h; split at h
  next x i q r => exact ⟨q, i, x, r, rfl, h⟩
  next => exact h.elim
theorem pfA_e {X : XT} {c j : Nat} {st : List Value} {κ : List Value → XT → Prop} (h : pfA X c j st κ) : (∃ x q r, st = .int x :: .ref q :: r ∧ fk c j = 0 ∧ q < NC ∧ (shp q).1 = c ∧ (zf c j = true → bl x) ∧ κ r (sI X q j x)) ∨ (∃ x q r, st = .long x :: .ref q :: r ∧ fk c j = 1 ∧ q < NC ∧ (shp q).1 = c ∧ κ r (sL X q j x)) := by
  unfold pfA at h; split at h
  next x q r h0 => exact Or.inl ⟨x, q, r, rfl, h0, h⟩
  next x q r h0 => exact Or.inr ⟨x, q, r, rfl, h0, h⟩
  next => exact h.elim
theorem xcall_e {calls : List CE} {a i : Nat} {sta : Bool} {st : List Value} {X : XT} {κ : List Value → XT → Prop} (h : xcall calls a i sta st X κ) : ∃ n c C As r, (i, sta, n, c, C) ∈ calls ∧ st = As.reverse ++ r ∧ As.length = n ∧ catS r ≤ 8 ∧ (sta = false → recvOk As c) ∧ C As X (fun v X' => κ (v.toList ++ r) X') := by
  unfold xcall at h; split at h
  next i' sta' n c C hc =>
    obtain ⟨⟨e1, e2⟩, h⟩ := h
    subst e1; subst e2
    split at h
    next As r hp =>
      obtain ⟨h1, h2⟩ := popA_st n [] st As r hp
      exact ⟨n, c, C, As, r, List.mem_of_getElem? hc, by rw [h1]; rfl, by rw [h2]; simp, h⟩
    next => exact h.elim
  next => exact h.elim
theorem lv_mono {ls : Array Slot} {n : Nat} {l l' : List (Nat × Value)} (h : lv_has ls n l) (hs : ∀ q ∈ l', q ∈ l) : lv_has ls n l' := ⟨h.1, h.2.1, fun q hq => h.2.2 q (hs q hq)⟩
theorem lv_g {ρ : Nat → Nat} {ls : Array Slot} {n i : Nat} {lv : List (Nat × Value)} {v : Value} (hl : lv_has ls n (lv.map fun q => (q.1, cv ρ q.2))) (h : lget lv i = some v) : ls[i]? = some (.val (cv ρ v)) :=
  hl.2.2 (i, cv ρ v) (List.mem_map.mpr ⟨(i, v), lget_in lv i v h, rfl⟩)
theorem lrm_s1 (ρ : Nat → Nat) (i : Nat) (v : Value) (lv : List (Nat × Value)) : ∀ q ∈ (((i, v) :: lrm i false lv).map fun q => (q.1, cv ρ q.2)), q ∈ (i, cv ρ v) :: (lv.map fun q => (q.1, cv ρ q.2)).filter (fun q => !(q.1 == i) && !(q.1 + 1 == i && q.2.category == 2)) := by
  intro q hq
  rw [List.map_cons] at hq
  rcases List.mem_cons.mp hq with e | e
  · rw [e]; exact List.mem_cons_self
  · obtain ⟨q0, h0, rfl⟩ := List.mem_map.mp e
    obtain ⟨h1, h2, -, h4⟩ := lrm_in i false lv q0 h0
    refine List.mem_cons_of_mem _ (List.mem_filter.mpr ⟨List.mem_map.mpr ⟨q0, h1, rfl⟩, ?_⟩)
    simp only [cv_cat]
    simp only [Bool.and_eq_true, Bool.not_eq_true', beq_eq_false_iff_ne, Bool.and_eq_false_iff, ne_eq]
    exact ⟨h2, (Decidable.not_and_iff_or_not).mp h4⟩
theorem lrm_s2 (ρ : Nat → Nat) (i : Nat) (v : Value) (lv : List (Nat × Value)) : ∀ q ∈ (((i, v) :: lrm i true lv).map fun q => (q.1, cv ρ q.2)), q ∈ (i, cv ρ v) :: (lv.map fun q => (q.1, cv ρ q.2)).filter (fun q => !(q.1 == i) && (!(q.1 == i + 1) && !(q.1 + 1 == i && q.2.category == 2))) := by
  intro q hq
  rw [List.map_cons] at hq
  rcases List.mem_cons.mp hq with e | e
  · rw [e]; exact List.mem_cons_self
  · obtain ⟨q0, h0, rfl⟩ := List.mem_map.mp e
    obtain ⟨h1, h2, h3, h4⟩ := lrm_in i true lv q0 h0
    refine List.mem_cons_of_mem _ (List.mem_filter.mpr ⟨List.mem_map.mpr ⟨q0, h1, rfl⟩, ?_⟩)
    simp only [cv_cat]
    simp only [Bool.and_eq_true, Bool.not_eq_true', beq_eq_false_iff_ne, Bool.and_eq_false_iff, ne_eq]
    exact ⟨h2, h3 rfl, (Decidable.not_and_iff_or_not).mp h4⟩
theorem cv_fvA (ρ : Nat → Nat) (X : XT) (c k j : Nat) : cv ρ (fvA X c k j) = fv ρ X c k j := by
  unfold fvA fv
  match fk c j with
  | 0 => rfl
  | 1 => rfl
  | n + 2 => rfl
theorem fldB_e {own : String} {i c j : Nat} (h : fldB own i c j = true) : ∃ C T N, vwCl[c]? = some (C, T, N) ∧ j < N ∧ (inB (.fieldLink own i (T j).1 (T j).2.1 (T j).2.2.1) = true ∨ (own, i, (T j).1, (T j).2.1, (T j).2.2.1, "RumourSource") ∈ nwF) := by
  unfold fldB at h; split at h
  next C T N hc =>
    simp only [Bool.and_eq_true, decide_eq_true_eq, Bool.or_eq_true] at h
    exact ⟨C, T, N, hc, h.1, h.2.imp id (fun z => by simpa using z)⟩
  next => cases h
theorem obj_at {γ : GT} {ρ : Nat → Nat} {X : XT} {q c : Nat} (hq : q < NC) (hs : (shp q).1 = c) (hc : c < 5) : (cells γ ρ X)[q]? = some (ρ q, .inr (c, (List.range (nf c)).map (fv ρ X c q))) := by
  rw [cells_at γ ρ X hq, cellE_obj γ ρ X hs hc]
theorem fs_at {ρ : Nat → Nat} {X : XT} {q c j : Nat} (hj : j < nf c) : ((List.range (nf c)).map (fv ρ X c q))[j]? = some (fv ρ X c q j) := by
  rw [List.getElem?_map, List.getElem?_range hj]; rfl
theorem fk_desc {c j : Nat} {C : String} {T : u_T} {N : Nat} (hc : vwCl[c]? = some (C, T, N)) (hj : j < N) : (fk c j = 0 → (T j).2.2.2 = false ∧ (T j).2.2.1 = (if zf c j then "Z" else "I")) ∧ (fk c j = 1 → (T j).2.2.2 = false ∧ (T j).2.2.1 = "J") := by
  obtain ⟨-, -, -, hN, h5⟩ := cl_facts c _ hc
  have hN' : N = nf c := hN
  have h12 : j < 12 := by
    have : nf c ≤ 12 := by rcases (by omega : c = 0 ∨ c = 1 ∨ c = 2 ∨ c = 3 ∨ c = 4) with rfl | rfl | rfl | rfl | rfl <;> decide
    omega
  have h := List.all_eq_true.mp (List.all_eq_true.mp fkd_ok c (List.mem_range.mpr h5)) j (List.mem_range.mpr h12)
  unfold fkd at h
  rw [hc] at h
  simp only [if_pos hj] at h
  refine ⟨fun z => ?_, fun z => ?_⟩
  · rw [if_pos z] at h
    simpa using h
  · rw [z] at h
    simpa using h
theorem nar_bl {x : Int32} (h : bl x) : narrow .boolean (.int x) = .int x ∧ fits .boolean (.int x) = true ∧ vp_nar .boolean x = x := by
  rcases h with rfl | rfl <;> exact ⟨rfl, rfl, rfl⟩
theorem desc_I : parseFieldDescriptor "I" = some .int := by decide +kernel
theorem desc_Z : parseFieldDescriptor "Z" = some .boolean := by decide +kernel
theorem desc_J : parseFieldDescriptor "J" = some .long := by decide +kernel
end SND
section SOUND2
variable {p : Program} {l : Launch} {e : Env} {R : Room} {s : State} {m : MethodId} {args : Array Value} {below : List Frame} {meth : Method} {c : Code} {Q : State → Prop} {γ : GT} {ρ : Nat → Nat} {A : Nat → Prop} {kc ks nL : Nat} {cc : ByteArray} {ws : List Cond} {own : String}
variable {t : List (Nat × TE)} {calls : List CE} {rt L : Nat} {sc : Option (Nat → Int32)} {post : Option Value → XT → Prop}
def RetOk (p : Program) (l : Launch) (e : Env) (R : Room) (s : State) (m : MethodId) (args : Array Value) (below : List Frame) (meth : Method) (c : Code) (γ : GT) (ρ : Nat → Nat) (A : Nat → Prop) (kc ks : Nat) (Q : State → Prop) (cc : ByteArray) (rt : Nat) (post : Option Value → XT → Prop) : Prop :=
  ∀ (ins : Instr) (pc : Nat) (st : List Value) (X : XT) (H : Heap) (locs : List Loc) (ls : Array Slot), decode cc pc = .ok (ins, 1) → retx rt post ins st X → va_P γ.1 vwCl (cells γ ρ X) H → va_S A s.heap H locs → W p l e R s m args below meth c H locs kc ks Q (F0 m pc ls (st.map (cv ρ)))
set_option maxHeartbeats 4000000 in
theorem exec_sound (hfix : CallFix p m c cc nL s args ws own) (hBW : ∀ w ∈ BW, w ∈ ws) (hK : va_K γ.1 vwCl (tysG γ) s) (hN : NL s) (hρ : dA A ρ) (hcap : kc ≤ R.cells ∧ ks ≤ R.slots) (hcalls : ∀ q ∈ calls, CallRule l own cc ws nL R q)
    (hret : RetOk p l e R s m args below meth c γ ρ A kc ks Q cc rt post)
    (hscr : ∀ xs, sc = some xs → va_X (ρ 999) L xs s s.heap ∧ ρ 999 < s.heap.size ∧ ¬ A (ρ 999)) (htk : tOk cc own nL t = true) :
    ∀ (κ : KT), (∀ pc lv st X, κ pc lv st X → RX p l e R s m args below meth c γ ρ A nL kc ks Q pc lv st X) → ∀ pc lv st X te, fetch t pc = some te → exec rt calls sc L post te pc lv st X κ → RX p l e R s m args below meth c γ ρ A nL kc ks Q pc lv st X := by
  intro κ hκ pc lv st X te hf h H locs ls hP hS hl
  obtain ⟨hx, hb, hml, hown, hts⟩ := id hfix
  have hD := cells_D hρ γ X
  have htB : ∀ w, inB w = true → w.before args s = true := fun w hw => hts w (hBW w (inB_BW hw))
  have hin := List.all_eq_true.mp htk _ (fetch_in t pc te hf)
  obtain ⟨ins, len, a, b, k, w⟩ := te
  simp only [Bool.and_eq_true] at hin
  obtain ⟨⟨he, hlo⟩, hn⟩ := hin
  unfold eOk at he
  simp only [Bool.and_eq_true, decide_eq_true_eq] at he
  obtain ⟨hd, he⟩ := he
  cases ins
  case iload i =>
    simp only [Bool.and_eq_true, beq_iff_eq] at he
    obtain ⟨rfl, rfl⟩ := he
    obtain ⟨x, e1, h⟩ := xI_e h
    exact lv_iload hx hb hd (lv_g hl e1) (hκ _ _ _ _ h H locs ls hP hS hl)
  case iload_n i =>
    simp only [Bool.and_eq_true, beq_iff_eq] at he
    obtain ⟨rfl, rfl⟩ := he
    obtain ⟨x, e1, h⟩ := xI_e h
    exact lv_iload_n hx hb hd rfl (lv_g hl e1) (hκ _ _ _ _ h H locs ls hP hS hl)
  case lload i =>
    simp only [Bool.and_eq_true, beq_iff_eq] at he
    obtain ⟨rfl, rfl⟩ := he
    obtain ⟨x, e1, h⟩ := xL_e h
    exact lv_lload hx hb hd (lv_g hl e1) (hκ _ _ _ _ h H locs ls hP hS hl)
  case lload_n i =>
    simp only [Bool.and_eq_true, beq_iff_eq] at he
    obtain ⟨rfl, rfl⟩ := he
    obtain ⟨x, e1, h⟩ := xL_e h
    exact lv_lload_n hx hb hd rfl (lv_g hl e1) (hκ _ _ _ _ h H locs ls hP hS hl)
  case aload i =>
    simp only [Bool.and_eq_true, beq_iff_eq] at he
    obtain ⟨rfl, rfl⟩ := he
    obtain ⟨x, e1, h⟩ := xR_e h
    exact lv_aload hx hb hd (lv_g hl e1) (hκ _ _ _ _ h H locs ls hP hS hl)
  case aload_n i =>
    simp only [Bool.and_eq_true, beq_iff_eq] at he
    obtain ⟨rfl, rfl⟩ := he
    obtain ⟨x, e1, h⟩ := xR_e h
    exact lv_aload_n hx hb hd rfl (lv_g hl e1) (hκ _ _ _ _ h H locs ls hP hS hl)
  case istore i =>
    simp only [Bool.and_eq_true, beq_iff_eq] at he
    obtain ⟨rfl, rfl⟩ := he
    obtain ⟨x, r, rfl, h⟩ := s1I_e h
    exact lv_istore hx hb hd hl (of_decide_eq_true hn) rfl (fun ls1 hl1 => hκ _ _ _ _ h H locs ls1 hP hS (lv_mono hl1 (lrm_s1 ρ _ (.int x) lv)))
  case istore_n i =>
    simp only [Bool.and_eq_true, beq_iff_eq] at he
    obtain ⟨rfl, rfl⟩ := he
    obtain ⟨x, r, rfl, h⟩ := s1I_e h
    exact lv_istore_n hx hb hd rfl hl (of_decide_eq_true hn) rfl (fun ls1 hl1 => hκ _ _ _ _ h H locs ls1 hP hS (lv_mono hl1 (lrm_s1 ρ _ (.int x) lv)))
  case lstore i =>
    simp only [Bool.and_eq_true, beq_iff_eq] at he
    obtain ⟨rfl, rfl⟩ := he
    obtain ⟨x, r, rfl, h⟩ := s1L_e h
    exact lv_lstore hx hb hd hl (of_decide_eq_true hn) rfl (fun ls1 hl1 => hκ _ _ _ _ h H locs ls1 hP hS (lv_mono hl1 (lrm_s2 ρ _ (.long x) lv)))
  case lstore_n i =>
    simp only [Bool.and_eq_true, beq_iff_eq] at he
    obtain ⟨rfl, rfl⟩ := he
    obtain ⟨x, r, rfl, h⟩ := s1L_e h
    exact lv_lstore_n hx hb hd rfl hl (of_decide_eq_true hn) rfl (fun ls1 hl1 => hκ _ _ _ _ h H locs ls1 hP hS (lv_mono hl1 (lrm_s2 ρ _ (.long x) lv)))
  case astore i =>
    simp only [Bool.and_eq_true, beq_iff_eq] at he
    obtain ⟨rfl, rfl⟩ := he
    obtain ⟨x, r, rfl, h⟩ := s1R_e h
    exact lv_astore hx hb hd hl (of_decide_eq_true hn) rfl (fun ls1 hl1 => hκ _ _ _ _ h H locs ls1 hP hS (lv_mono hl1 (lrm_s1 ρ _ (.ref x) lv)))
  case astore_n i =>
    simp only [Bool.and_eq_true, beq_iff_eq] at he
    obtain ⟨rfl, rfl⟩ := he
    obtain ⟨x, r, rfl, h⟩ := s1R_e h
    exact lv_astore_n hx hb hd rfl hl (of_decide_eq_true hn) rfl (fun ls1 hl1 => hκ _ _ _ _ h H locs ls1 hP hS (lv_mono hl1 (lrm_s1 ρ _ (.ref x) lv)))
  case iinc i n =>
    simp only [Bool.and_eq_true, beq_iff_eq] at he
    obtain ⟨⟨rfl, rfl⟩, rfl⟩ := he
    obtain ⟨x, e1, h⟩ := xI_e h
    obtain ⟨j, hj⟩ := List.getElem?_of_mem (List.mem_map.mpr ⟨(i, .int x), lget_in lv i _ e1, rfl⟩ : (i, Value.int x) ∈ lv.map fun q => (q.1, cv ρ q.2))
    exact lv_iinc hx hb hd hl hj rfl (of_decide_eq_true hn) rfl (fun ls1 hl1 => hκ _ _ _ _ h H locs ls1 hP hS (lv_mono hl1 (lrm_s1 ρ _ (.int _) lv)))
  case iconst n =>
    simp only [Bool.and_eq_true, beq_iff_eq] at he
    obtain ⟨e1, rfl⟩ := he
    exact lv_iconst hx hb hd e1 (hκ _ _ _ _ h H locs ls hP hS hl)
  case bipush n =>
    simp only [Bool.and_eq_true, beq_iff_eq] at he
    obtain ⟨e1, rfl⟩ := he
    exact lv_bipush hx hb hd e1 (hκ _ _ _ _ h H locs ls hP hS hl)
  case sipush n =>
    simp only [Bool.and_eq_true, beq_iff_eq] at he
    obtain ⟨e1, rfl⟩ := he
    exact lv_sipush hx hb hd e1 (hκ _ _ _ _ h H locs ls hP hS hl)
  case lconst n =>
    simp only [Bool.and_eq_true, beq_iff_eq] at he
    obtain ⟨e1, rfl⟩ := he
    exact lv_lconst hx hb hd e1 (hκ _ _ _ _ h H locs ls hP hS hl)
  case ldc i =>
    obtain rfl : len = 2 := by simpa using he
    exact lv_ldc hx hb hown (htB _ hlo) hd (hκ _ _ _ _ h H locs ls hP hS hl)
  case ldc2_w i =>
    obtain rfl : len = 3 := by simpa using he
    exact lv_ldc2 hx hb hown (htB _ hlo) hd (hκ _ _ _ _ h H locs ls hP hS hl)
  case iadd =>
    obtain rfl : len = 1 := by simpa using he
    obtain ⟨x, y, r, rfl, h⟩ := s2I_e h
    exact lv_iadd hx hb hd (hκ _ _ _ _ h H locs ls hP hS hl)
  case isub =>
    obtain rfl : len = 1 := by simpa using he
    obtain ⟨x, y, r, rfl, h⟩ := s2I_e h
    exact lv_isub hx hb hd (hκ _ _ _ _ h H locs ls hP hS hl)
  case imul =>
    obtain rfl : len = 1 := by simpa using he
    obtain ⟨x, y, r, rfl, h⟩ := s2I_e h
    exact lv_imul hx hb hd (hκ _ _ _ _ h H locs ls hP hS hl)
  case iand =>
    obtain rfl : len = 1 := by simpa using he
    obtain ⟨x, y, r, rfl, h⟩ := s2I_e h
    exact lv_iand hx hb hd (hκ _ _ _ _ h H locs ls hP hS hl)
  case ior =>
    obtain rfl : len = 1 := by simpa using he
    obtain ⟨x, y, r, rfl, h⟩ := s2I_e h
    exact lv_ior hx hb hd (hκ _ _ _ _ h H locs ls hP hS hl)
  case ishl =>
    obtain rfl : len = 1 := by simpa using he
    obtain ⟨x, y, r, rfl, h⟩ := s2I_e h
    exact lv_ishl hx hb hd (hκ _ _ _ _ h H locs ls hP hS hl)
  case ishr =>
    obtain rfl : len = 1 := by simpa using he
    obtain ⟨x, y, r, rfl, h⟩ := s2I_e h
    exact lv_ishr hx hb hd (hκ _ _ _ _ h H locs ls hP hS hl)
  case iushr =>
    obtain rfl : len = 1 := by simpa using he
    obtain ⟨x, y, r, rfl, h⟩ := s2I_e h
    exact lv_iushr hx hb hd rfl (hκ _ _ _ _ h H locs ls hP hS hl)
  case idiv =>
    obtain rfl : len = 1 := by simpa using he
    obtain ⟨x, y, r, rfl, h0, h⟩ := s2I_e h
    exact lv_idiv hx hb hd h0 (hκ _ _ _ _ h H locs ls hP hS hl)
  case irem =>
    obtain rfl : len = 1 := by simpa using he
    obtain ⟨x, y, r, rfl, h0, h⟩ := s2I_e h
    exact lv_irem hx hb hd h0 (hκ _ _ _ _ h H locs ls hP hS hl)
  case ladd =>
    obtain rfl : len = 1 := by simpa using he
    obtain ⟨x, y, r, rfl, h⟩ := s2L_e h
    exact lv_ladd hx hb hd (hκ _ _ _ _ h H locs ls hP hS hl)
  case lsub =>
    obtain rfl : len = 1 := by simpa using he
    obtain ⟨x, y, r, rfl, h⟩ := s2L_e h
    exact lv_lsub hx hb hd (hκ _ _ _ _ h H locs ls hP hS hl)
  case lmul =>
    obtain rfl : len = 1 := by simpa using he
    obtain ⟨x, y, r, rfl, h⟩ := s2L_e h
    exact lv_lmul hx hb hd (hκ _ _ _ _ h H locs ls hP hS hl)
  case land =>
    obtain rfl : len = 1 := by simpa using he
    obtain ⟨x, y, r, rfl, h⟩ := s2L_e h
    exact lv_land hx hb hd (hκ _ _ _ _ h H locs ls hP hS hl)
  case lor =>
    obtain rfl : len = 1 := by simpa using he
    obtain ⟨x, y, r, rfl, h⟩ := s2L_e h
    exact lv_lor hx hb hd (hκ _ _ _ _ h H locs ls hP hS hl)
  case ldiv =>
    obtain rfl : len = 1 := by simpa using he
    obtain ⟨x, y, r, rfl, h0, h⟩ := s2L_e h
    exact lv_ldiv hx hb hd h0 (hκ _ _ _ _ h H locs ls hP hS hl)
  case lcmp =>
    obtain rfl : len = 1 := by simpa using he
    obtain ⟨x, y, r, rfl, h⟩ := s2L_e h
    exact W.lcmp hx hb hd (hκ _ _ _ _ h H locs ls hP hS hl)
  case lshl =>
    obtain rfl : len = 1 := by simpa using he
    obtain ⟨x, y, r, rfl, h⟩ := sLI_e h
    exact lv_lshl hx hb hd rfl (hκ _ _ _ _ h H locs ls hP hS hl)
  case lushr =>
    obtain rfl : len = 1 := by simpa using he
    obtain ⟨x, y, r, rfl, h⟩ := sLI_e h
    exact lv_lushr hx hb hd rfl (hκ _ _ _ _ h H locs ls hP hS hl)
  case i2l =>
    obtain rfl : len = 1 := by simpa using he
    obtain ⟨x, r, rfl, h⟩ := s1I_e h
    exact lv_i2l hx hb hd rfl (hκ _ _ _ _ h H locs ls hP hS hl)
  case l2i =>
    obtain rfl : len = 1 := by simpa using he
    obtain ⟨x, r, rfl, h⟩ := s1L_e h
    exact lv_l2i hx hb hd rfl (hκ _ _ _ _ h H locs ls hP hS hl)
  case dup =>
    obtain rfl : len = 1 := by simpa using he
    match st, h with
    | v :: r, h =>
      obtain ⟨h0, h⟩ := h
      exact lv_dup hx hb hd ((cv_cat ρ v).trans h0) (hκ _ _ _ _ h H locs ls hP hS hl)
  case pop =>
    obtain rfl : len = 1 := by simpa using he
    match st, h with
    | v :: r, h =>
      obtain ⟨h0, h⟩ := h
      exact lv_pop hx hb hd ((cv_cat ρ v).trans h0) (hκ _ _ _ _ h H locs ls hP hS hl)
  case dup2 =>
    obtain rfl : len = 1 := by simpa using he
    match st, h with
    | v :: u :: r, h =>
      obtain ⟨⟨h0, h1⟩, h⟩ := h
      exact lv_dup2_11 hx hb hd ((cv_cat ρ v).trans h0) ((cv_cat ρ u).trans h1) (hκ _ _ _ _ h H locs ls hP hS hl)
  case ifCond q o =>
    simp only [Bool.and_eq_true, beq_iff_eq] at he
    obtain ⟨e1, rfl⟩ := he
    cases q
    case eq => (obtain ⟨x, r, rfl, h⟩ := s1I_e h; exact lv_if_eq hx hb hd e1 (fun z => hκ _ _ _ _ (h.1 z) H locs ls hP hS hl) (fun z => hκ _ _ _ _ (h.2 z) H locs ls hP hS hl))
    case ne => (obtain ⟨x, r, rfl, h⟩ := s1I_e h; exact lv_if_ne hx hb hd e1 (fun z => hκ _ _ _ _ (h.1 z) H locs ls hP hS hl) (fun z => hκ _ _ _ _ (h.2 z) H locs ls hP hS hl))
    case lt => (obtain ⟨x, r, rfl, h⟩ := s1I_e h; exact lv_if_lt hx hb hd e1 (fun z => hκ _ _ _ _ (h.1 z) H locs ls hP hS hl) (fun z => hκ _ _ _ _ (h.2 z) H locs ls hP hS hl))
    case ge => (obtain ⟨x, r, rfl, h⟩ := s1I_e h; exact lv_if_ge hx hb hd e1 (fun z => hκ _ _ _ _ (h.1 z) H locs ls hP hS hl) (fun z => hκ _ _ _ _ (h.2 z) H locs ls hP hS hl))
    case gt => (obtain ⟨x, r, rfl, h⟩ := s1I_e h; exact lv_if_gt hx hb hd e1 (fun z => hκ _ _ _ _ (h.1 z) H locs ls hP hS hl) (fun z => hκ _ _ _ _ (h.2 z) H locs ls hP hS hl))
    case le => (obtain ⟨x, r, rfl, h⟩ := s1I_e h; exact lv_if_le hx hb hd e1 (fun z => hκ _ _ _ _ (h.1 z) H locs ls hP hS hl) (fun z => hκ _ _ _ _ (h.2 z) H locs ls hP hS hl))
  case if_icmp q o =>
    simp only [Bool.and_eq_true, beq_iff_eq] at he
    obtain ⟨e1, rfl⟩ := he
    cases q
    case eq => (obtain ⟨x, y, r, rfl, h⟩ := s2I_e h; exact lv_icmp_eq hx hb hd e1 (fun z => hκ _ _ _ _ (h.1 z) H locs ls hP hS hl) (fun z => hκ _ _ _ _ (h.2 z) H locs ls hP hS hl))
    case ne => (obtain ⟨x, y, r, rfl, h⟩ := s2I_e h; exact lv_icmp_ne hx hb hd e1 (fun z => hκ _ _ _ _ (h.1 z) H locs ls hP hS hl) (fun z => hκ _ _ _ _ (h.2 z) H locs ls hP hS hl))
    case lt => (obtain ⟨x, y, r, rfl, h⟩ := s2I_e h; exact lv_icmp_lt hx hb hd e1 (fun z => hκ _ _ _ _ (h.1 z) H locs ls hP hS hl) (fun z => hκ _ _ _ _ (h.2 z) H locs ls hP hS hl))
    case ge => (obtain ⟨x, y, r, rfl, h⟩ := s2I_e h; exact lv_icmp_ge hx hb hd e1 (fun z => hκ _ _ _ _ (h.1 z) H locs ls hP hS hl) (fun z => hκ _ _ _ _ (h.2 z) H locs ls hP hS hl))
    case gt => (obtain ⟨x, y, r, rfl, h⟩ := s2I_e h; exact lv_icmp_gt hx hb hd e1 (fun z => hκ _ _ _ _ (h.1 z) H locs ls hP hS hl) (fun z => hκ _ _ _ _ (h.2 z) H locs ls hP hS hl))
    case le => (obtain ⟨x, y, r, rfl, h⟩ := s2I_e h; exact lv_icmp_le hx hb hd e1 (fun z => hκ _ _ _ _ (h.1 z) H locs ls hP hS hl) (fun z => hκ _ _ _ _ (h.2 z) H locs ls hP hS hl))
  case goto o =>
    simp only [Bool.and_eq_true, beq_iff_eq] at he
    obtain ⟨e1, rfl⟩ := he
    exact lv_goto hx hb hd e1 (hκ _ _ _ _ h H locs ls hP hS hl)
  case tableswitch d lo hi offs =>
    simp only [Bool.and_eq_true, decide_eq_true_eq] at he
    obtain ⟨⟨e1, e2⟩, e3⟩ := he
    obtain ⟨x, r, rfl, hg⟩ := s1I_e h
    unfold tsw at hg
    by_cases z : x.toInt < lo ∨ hi < x.toInt
    · rw [if_pos z] at hg
      exact lv_tableOut hx hb hd z (Int.toNat_of_nonneg e1).symm (hκ _ _ _ _ hg H locs ls hP hS hl)
    · rw [if_neg z] at hg
      have z1 : ¬ x.toInt < lo := fun q => z (Or.inl q)
      have z2 : ¬ hi < x.toInt := fun q => z (Or.inr q)
      have z3 : (x.toInt - lo).toNat < offs.size := by omega
      have z4 : offs[(x.toInt - lo).toNat]? = some (offs.getD (x.toInt - lo).toNat 0) := by simp [Array.getD, z3]
      have z5 : 0 ≤ (pc : Int) + offs.getD (x.toInt - lo).toNat 0 := of_decide_eq_true (List.all_eq_true.mp e2 _ (Array.mem_toList_iff.mpr (Array.mem_of_getElem? z4)))
      exact lv_tableIn hx hb hd z1 z2 z4 (Int.toNat_of_nonneg z5).symm (hκ _ _ _ _ hg H locs ls hP hS hl)
  case getfield i =>
    obtain rfl : len = 3 := by simpa using he
    obtain ⟨q, r, rfl, ⟨g1, g2⟩, h⟩ := s1R_e h
    obtain ⟨C, T, N, f1, f2, f3⟩ := fldB_e hlo
    obtain ⟨u1, u2, u3, u4, u5⟩ := cl_facts a _ f1
    have hr := hκ _ _ _ _ h H locs ls hP hS hl
    rw [List.map_cons, cv_fvA] at hr
    have f4 : b < nf a := (show N = nf a from u4) ▸ f2
    rcases f3 with f3 | f3
    · exact va_get (v := fv ρ X a q b) hx hb hts (fun w hw => hBW w (u1 w hw)) hown hK hP q (obj_at g1 g2 u5) f1 b f2 (htB _ f3) (fun _ z => z) (fs_at f4) hd hr
    · exact va_getN (v := fv ρ X a q b) hx hb hts (fun w hw => hBW w (u1 w hw)) hown hK hP q (obj_at g1 g2 u5) f1 b f2 (va_Nw.use rfl (hN.1 _ f3)) (fun _ z => z) (fs_at f4) hd hr
  case putfield i =>
    obtain rfl : len = 3 := by simpa using he
    obtain ⟨C, T, N, f1, f2, f3⟩ := fldB_e hlo
    obtain ⟨u1, u2, u3, u4, u5⟩ := cl_facts a _ f1
    have f4 : b < nf a := (show N = nf a from u4) ▸ f2
    obtain ⟨dI, dJ⟩ := fk_desc f1 f2
    rcases pfA_e h with ⟨x, q, r, rfl, g0, g1, g2, g3, h⟩ | ⟨x, q, r, rfl, g0, g1, g2, h⟩
    · obtain ⟨d1, d2⟩ := dI g0
      by_cases z : zf a b = true
      · rw [if_pos z] at d2
        have f5 : b < ((List.range (nf a)).map (fv ρ X a q)).length := by simpa using f4
        rcases f3 with f3 | f3
        · exact va_put (v := .int x) (ty := .boolean) hx hb hts (fun w hw => hBW w (u1 w hw)) (tyG a) u2 u3 hown hK hP hD hS q (obj_at g1 g2 u5) f1 b f2 (htB _ f3) (fun _ z => z) d1 (by rw [d2]; exact desc_Z) (nar_bl (g3 z)).1 (nar_bl (g3 z)).2.1 f5 hd (fun H1 locs1 hP1 hD1 hS1 => hκ _ _ _ _ h H1 locs1 ls (by rw [← cells_putI γ ρ X g1 g2 u5 b g0 x]; exact hP1) hS1 hl)
        · exact va_putN (v := .int x) (ty := .boolean) hx hb hts (fun w hw => hBW w (u1 w hw)) (tyG a) u2 u3 hown hK hP hD hS q (obj_at g1 g2 u5) f1 b f2 (va_Nw.use rfl (hN.1 _ f3)) (fun _ z => z) d1 (by rw [d2]; exact desc_Z) (nar_bl (g3 z)).1 (nar_bl (g3 z)).2.1 f5 hd (fun H1 locs1 hP1 hD1 hS1 => hκ _ _ _ _ h H1 locs1 ls (by rw [← cells_putI γ ρ X g1 g2 u5 b g0 x]; exact hP1) hS1 hl)
      · rw [if_neg z] at d2
        have f5 : b < ((List.range (nf a)).map (fv ρ X a q)).length := by simpa using f4
        rcases f3 with f3 | f3
        · exact va_put (v := .int x) (ty := .int) hx hb hts (fun w hw => hBW w (u1 w hw)) (tyG a) u2 u3 hown hK hP hD hS q (obj_at g1 g2 u5) f1 b f2 (htB _ f3) (fun _ z => z) d1 (by rw [d2]; exact desc_I) rfl rfl f5 hd (fun H1 locs1 hP1 hD1 hS1 => hκ _ _ _ _ h H1 locs1 ls (by rw [← cells_putI γ ρ X g1 g2 u5 b g0 x]; exact hP1) hS1 hl)
        · exact va_putN (v := .int x) (ty := .int) hx hb hts (fun w hw => hBW w (u1 w hw)) (tyG a) u2 u3 hown hK hP hD hS q (obj_at g1 g2 u5) f1 b f2 (va_Nw.use rfl (hN.1 _ f3)) (fun _ z => z) d1 (by rw [d2]; exact desc_I) rfl rfl f5 hd (fun H1 locs1 hP1 hD1 hS1 => hκ _ _ _ _ h H1 locs1 ls (by rw [← cells_putI γ ρ X g1 g2 u5 b g0 x]; exact hP1) hS1 hl)
    · obtain ⟨d1, d2⟩ := dJ g0
      have f5 : b < ((List.range (nf a)).map (fv ρ X a q)).length := by simpa using f4
      rcases f3 with f3 | f3
      · exact va_put (v := .long x) (ty := .long) hx hb hts (fun w hw => hBW w (u1 w hw)) (tyG a) u2 u3 hown hK hP hD hS q (obj_at g1 g2 u5) f1 b f2 (htB _ f3) (fun _ z => z) d1 (by rw [d2]; exact desc_J) rfl rfl f5 hd (fun H1 locs1 hP1 hD1 hS1 => hκ _ _ _ _ h H1 locs1 ls (by rw [← cells_putL γ ρ X g1 g2 u5 b g0 x]; exact hP1) hS1 hl)
      · exact va_putN (v := .long x) (ty := .long) hx hb hts (fun w hw => hBW w (u1 w hw)) (tyG a) u2 u3 hown hK hP hD hS q (obj_at g1 g2 u5) f1 b f2 (va_Nw.use rfl (hN.1 _ f3)) (fun _ z => z) d1 (by rw [d2]; exact desc_J) rfl rfl f5 hd (fun H1 locs1 hP1 hD1 hS1 => hκ _ _ _ _ h H1 locs1 ls (by rw [← cells_putL γ ρ X g1 g2 u5 b g0 x]; exact hP1) hS1 hl)
  case iaload =>
    obtain rfl : len = 1 := by simpa using he
    obtain ⟨q, i, r, rfl, hg⟩ := sRI_e h
    unfold scrR at hg
    have nor : ((q < NC ∧ (shp q).1 = 5 ∧ vp_in i (shp q).2) ∧ κ (pc + 1) lv (.int (X.1 q i.toNatClampNeg) :: r) X) → W p l e R s m args below meth c H locs kc ks Q (F0 m pc ls ((.int i :: .ref q :: r : List Value).map (cv ρ))) := by
      rintro ⟨⟨g1, g2, g3⟩, hg⟩
      exact va_iald hx hb hK hP q 0 ((cells_at γ ρ X g1).trans (by rw [cellE_arrI γ ρ X g2])) rfl g3 hd (hκ _ _ _ _ hg H locs ls hP hS hl)
    split at hg
    next => exact nor hg
    next xs =>
      split at hg
      next hq =>
        obtain ⟨a1, a2, a3⟩ := hscr xs rfl
        subst hq
        exact va_sld hx hb a1 a2 a3 hS hg.1 hd (hκ _ _ _ _ hg.2 H locs ls hP hS hl)
      next => exact nor hg
  case laload =>
    obtain rfl : len = 1 := by simpa using he
    obtain ⟨q, i, r, rfl, ⟨g1, g2, g3⟩, h⟩ := sRI_e h
    exact va_lald hx hb hK hP q 1 ((cells_at γ ρ X g1).trans (by rw [cellE_arrL γ ρ X g2])) rfl g3 hd (hκ _ _ _ _ h H locs ls hP hS hl)
  case aaload =>
    obtain rfl : len = 1 := by simpa using he
    obtain ⟨q, i, r, rfl, ⟨g1, g2, g3⟩, h⟩ := sRI_e h
    exact va_aldq (f := fun j => some (ρ (X.2.2 j))) hx hb hK hP q 3 ((cells_at γ ρ X g1).trans (by rw [cellE_arrR γ ρ X g2])) rfl g3 hd (hκ _ _ _ _ h H locs ls hP hS hl)
  case iastore =>
    obtain rfl : len = 1 := by simpa using he
    obtain ⟨q, i, x, r, rfl, ⟨g1, g2, g3⟩, h⟩ := sRII_e h
    exact va_iast hx hb hK hP hD hS q 0 ((cells_at γ ρ X g1).trans (by rw [cellE_arrI γ ρ X g2])) rfl g3 hd (fun H1 locs1 hP1 hD1 hS1 => hκ _ _ _ _ h H1 locs1 ls (by rw [← cells_setI γ ρ X g1 g2]; exact hP1) hS1 hl)
  case lastore =>
    obtain rfl : len = 1 := by simpa using he
    obtain ⟨q, i, x, r, rfl, ⟨g1, g2, g3⟩, h⟩ := sRIL_e h
    exact va_last hx hb hK hP hD hS q 1 ((cells_at γ ρ X g1).trans (by rw [cellE_arrL γ ρ X g2])) rfl g3 hd (fun H1 locs1 hP1 hD1 hS1 => hκ _ _ _ _ h H1 locs1 ls (by rw [← cells_setL γ ρ X g1 g2]; exact hP1) hS1 hl)
  case aastore =>
    obtain rfl : len = 1 := by simpa using he
    obtain ⟨q, i, x, r, rfl, ⟨g1, g2, g3, g4, g5⟩, h⟩ := sRIR_e h
    exact va_astq hx hb hK hP hD hS q 3 x 0 (r := (RX0, TX0, 8)) ((cells_at γ ρ X g1).trans (by rw [cellE_arrR γ ρ X g2])) rfl (obj_at g4 g5 (by decide)) rfl g3 hd (fun H1 locs1 hP1 hD1 hS1 => hκ _ _ _ _ h H1 locs1 ls (by rw [← cells_setR γ ρ X g1 g2]; exact hP1) hS1 hl)
  case arraylength =>
    obtain rfl : len = 1 := by simpa using he
    obtain ⟨q, r, rfl, hg⟩ := s1R_e h
    unfold scrN at hg
    have nor : ((q < NC ∧ 5 ≤ (shp q).1 ∧ (shp q).1 ≤ 8) ∧ κ (pc + 1) lv (.int (nI (shp q).2) :: r) X) → W p l e R s m args below meth c H locs kc ks Q (F0 m pc ls ((.ref q :: r : List Value).map (cv ρ))) := by
      rintro ⟨⟨g1, g2, g3⟩, hg⟩
      rcases (by omega : (shp q).1 = 5 ∨ (shp q).1 = 6 ∨ (shp q).1 = 7 ∨ (shp q).1 = 8) with g2 | g2 | g2 | g2
      · exact va_alen (x := ((shp q).2, .inl (X.1 q))) hx hb hK hP q 0 ((cells_at γ ρ X g1).trans (by rw [cellE_arrI γ ρ X g2])) rfl rfl hd (hκ _ _ _ _ hg H locs ls hP hS hl)
      · exact va_alen (x := ((shp q).2, .inr (.inl (X.2.1 q)))) hx hb hK hP q 1 ((cells_at γ ρ X g1).trans (by rw [cellE_arrL γ ρ X g2])) rfl rfl hd (hκ _ _ _ _ hg H locs ls hP hS hl)
      · exact va_alen (x := ((shp q).2, .inl (X.1 q))) hx hb hK hP q 2 ((cells_at γ ρ X g1).trans (by rw [cellE_arrZ γ ρ X g2])) rfl rfl hd (hκ _ _ _ _ hg H locs ls hP hS hl)
      · exact va_alen (x := ((shp q).2, .inr (.inr (.inr (.inr (fun j => some (ρ (X.2.2 j)))))))) hx hb hK hP q 3 ((cells_at γ ρ X g1).trans (by rw [cellE_arrR γ ρ X g2])) rfl rfl hd (hκ _ _ _ _ hg H locs ls hP hS hl)
    split at hg
    next => exact nor hg
    next xs =>
      split at hg
      next hq =>
        obtain ⟨a1, a2, a3⟩ := hscr xs rfl
        subst hq
        exact va_slen hx hb a1 a2 a3 hS hd (hκ _ _ _ _ hg H locs ls hP hS hl)
      next => exact nor hg
  case invokevirtual i =>
    obtain rfl : len = 3 := by simpa using he
    obtain ⟨n, ci, C, As, r, hm, rfl, h1, h2, h3, h4⟩ := xcall_e h
    exact hcalls _ hm p e s m args below meth c γ ρ A kc ks Q hfix hK hN hρ hcap pc As r X _ h1 h3 h4 h2 hd H locs ls hP hS hl.1 (fun v X1 H1 locs1 k1 k2 k3 => hκ _ _ _ _ k1 H1 locs1 ls k2 k3 hl)
  case invokestatic i =>
    obtain rfl : len = 3 := by simpa using he
    obtain ⟨n, ci, C, As, r, hm, rfl, h1, h2, h3, h4⟩ := xcall_e h
    exact hcalls _ hm p e s m args below meth c γ ρ A kc ks Q hfix hK hN hρ hcap pc As r X _ h1 h3 h4 h2 hd H locs ls hP hS hl.1 (fun v X1 H1 locs1 k1 k2 k3 => hκ _ _ _ _ k1 H1 locs1 ls k2 k3 hl)
  all_goals (obtain rfl : len = 1 := by simpa using he)
  all_goals exact hret _ _ _ _ _ _ _ hd h hP hS
end SOUND2
