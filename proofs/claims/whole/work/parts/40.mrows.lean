section MROWS
/-- a present state written over another -/
theorem RelM.setNow {X X' : XT} {g : SG} {s : SV} (h : RelM X g) (hF : Fr (fun k => k = 52 ∨ mscr k) X X') (h0 : X.1 51 2 = 0) (hs : RSf (X'.1 52) s) (hw : WF s) (hp : ∀ p, 59 ≤ p → X'.1 52 p = X.1 52 p) : RelM X' (s, g.2) := by
  obtain ⟨⟨w1, w2, w3, w4⟩, m1, m2, m3, m4, m5, m6⟩ := h
  have e51 : X'.1 51 = X.1 51 := hF.1 51 (fun z => by unfold mscr at z; omega)
  have e56 : X'.1 56 = X.1 56 := hF.1 56 (fun z => by unfold mscr at z; omega)
  refine ⟨⟨hw, w2, w3, w4⟩, hs, by rw [e51]; exact m2, fun j hj => (m3 j hj).cg (w3 j hj).1 (fun k hk => hp _ (by omega)), by rw [e51]; exact m4, fun i hi => by rw [e56]; exact m5 i hi, fun z => ?_⟩
  rw [e51] at z
  exact absurd h0 z
def layF (f : Nat → Int32) (e : Nat) (a c w d : Int32) : Nat → Int32 := upd (upd (upd (upd f (3 + 4 * e) a) (3 + 4 * e + 1) c) (3 + 4 * e + 2) w) (3 + 4 * e + 3) d
theorem layF_a (f : Nat → Int32) (e : Nat) (a c w d : Int32) (p : Nat) : layF f e a c w d p = if p = 3 + 4 * e + 3 then d else if p = 3 + 4 * e + 2 then w else if p = 3 + 4 * e + 1 then c else if p = 3 + 4 * e then a else f p := rfl
theorem layX_52 (X : XT) (e : Nat) (a c w d : Int32) : (layX X e a c w d).1 52 = layF (X.1 52) e a c w d := rfl
theorem layX_ne (X : XT) (e : Nat) (a c w d : Int32) {k : Nat} (h : k ≠ 52) : (layX X e a c w d).1 k = X.1 k := by
  unfold layX
  simp only [sI_1, if_neg h]
theorem layX_fr (X : XT) (e : Nat) (a c w d : Int32) : Fr (fun k => k = 52) X (layX X e a c w d) := ⟨fun k hk => layX_ne X e a c w d hk, fun k hk => rfl, rfl⟩
theorem layF_lo (f : Nat → Int32) (e : Nat) (a c w d : Int32) {p : Nat} (h : p < 3 + 4 * e) : layF f e a c w d p = f p := by
  rw [layF_a, if_neg (by omega), if_neg (by omega), if_neg (by omega), if_neg (by omega)]
theorem layF_hi (f : Nat → Int32) (e : Nat) (a c w d : Int32) {p : Nat} (h : 3 + 4 * e + 3 < p) : layF f e a c w d p = f p := by
  rw [layF_a, if_neg (by omega), if_neg (by omega), if_neg (by omega), if_neg (by omega)]
theorem layF_e (f : Nat → Int32) (e : Nat) (a c w d : Int32) : layF f e a c w d (3 + 4 * e) = a ∧ layF f e a c w d (3 + 4 * e + 1) = c ∧ layF f e a c w d (3 + 4 * e + 2) = w ∧ layF f e a c w d (3 + 4 * e + 3) = d := by
  refine ⟨?_, ?_, ?_, ?_⟩
  · rw [layF_a, if_neg (by omega), if_neg (by omega), if_neg (by omega), if_pos rfl]
  · rw [layF_a, if_neg (by omega), if_neg (by omega), if_pos rfl]
  · rw [layF_a, if_neg (by omega), if_pos rfl]
  · rw [layF_a, if_pos rfl]
theorem layF_o (f : Nat → Int32) (e j : Nat) (a c w d : Int32) (h : j ≠ e) : layF f e a c w d (3 + 4 * j) = f (3 + 4 * j) ∧ layF f e a c w d (3 + 4 * j + 1) = f (3 + 4 * j + 1) ∧ layF f e a c w d (3 + 4 * j + 2) = f (3 + 4 * j + 2) ∧ layF f e a c w d (3 + 4 * j + 3) = f (3 + 4 * j + 3) := by
  rcases Nat.lt_or_gt_of_ne h with z | z
  · exact ⟨layF_lo _ _ _ _ _ _ (by omega), layF_lo _ _ _ _ _ _ (by omega), layF_lo _ _ _ _ _ _ (by omega), layF_lo _ _ _ _ _ _ (by omega)⟩
  · exact ⟨layF_hi _ _ _ _ _ _ (by omega), layF_hi _ _ _ _ _ _ (by omega), layF_hi _ _ _ _ _ _ (by omega), layF_hi _ _ _ _ _ _ (by omega)⟩
theorem RSf_set {f : Nat → Int32} {s : SV} (h : RSf f s) {e : Nat} (he : e < s.n) (hn : s.n ≤ 12) (w d : Nat) : RSf (layF f e (nI (s.F e)) (nI (s.T e)) (nI w) (nI d)) (s_set s e w d) := by
  obtain ⟨h1, h2, h3, h4, h5⟩ := h
  refine ⟨by rw [layF_lo _ _ _ _ _ _ (by omega)]; exact h1, by rw [layF_lo _ _ _ _ _ _ (by omega)]; exact h2, by rw [layF_lo _ _ _ _ _ _ (by omega)]; exact h3, fun j hj => ?_, fun v hv => by rw [layF_hi _ _ _ _ _ _ (by omega)]; exact h5 v hv⟩
  have hj' : j < s.n := hj
  show _ = nI (s.F j) ∧ _ = nI (s.T j) ∧ _ = nI (updN s.W e w j) ∧ _ = nI (updN s.D e d j)
  rw [updN_a, updN_a]
  by_cases z : j = e
  · subst z
    rw [if_pos rfl, if_pos rfl]
    exact layF_e _ _ _ _ _ _
  · rw [if_neg z, if_neg z]
    obtain ⟨o1, o2, o3, o4⟩ := layF_o f e j (nI (s.F e)) (nI (s.T e)) (nI w) (nI d) z
    rw [o1, o2, o3, o4]
    exact h4 j hj'
theorem RSf_add {f : Nat → Int32} {s : SV} (h : RSf f s) (hn : s.n < 12) (a c w d : Nat) : RSf (upd (layF f s.n (nI a) (nI c) (nI w) (nI d)) 0 (nI (s.n + 1))) (s_add s a c w d) := by
  obtain ⟨h1, h2, h3, h4, h5⟩ := h
  refine ⟨?_, ?_, ?_, fun j hj => ?_, fun v hv => ?_⟩
  · rw [upd_a, if_pos rfl]; rfl
  · rw [upd_a, if_neg (by omega), layF_lo _ _ _ _ _ _ (by omega)]; exact h2
  · rw [upd_a, if_neg (by omega), layF_lo _ _ _ _ _ _ (by omega)]; exact h3
  · have hj' : j < s.n + 1 := hj
    show _ = nI (updN s.F s.n a j) ∧ _ = nI (updN s.T s.n c j) ∧ _ = nI (updN s.W s.n w j) ∧ _ = nI (updN s.D s.n d j)
    rw [updN_a, updN_a, updN_a, updN_a]
    simp only [upd_a]
    rw [if_neg (show ¬ 3 + 4 * j = 0 by omega), if_neg (show ¬ 3 + 4 * j + 1 = 0 by omega), if_neg (show ¬ 3 + 4 * j + 2 = 0 by omega), if_neg (show ¬ 3 + 4 * j + 3 = 0 by omega)]
    by_cases z : j = s.n
    · subst z
      rw [if_pos rfl, if_pos rfl, if_pos rfl, if_pos rfl]
      exact layF_e _ _ _ _ _ _
    · rw [if_neg z, if_neg z, if_neg z, if_neg z]
      obtain ⟨o1, o2, o3, o4⟩ := layF_o f s.n j (nI a) (nI c) (nI w) (nI d) z
      rw [o1, o2, o3, o4]
      exact h4 j (by omega)
  · rw [upd_a, if_neg (by omega), layF_hi _ _ _ _ _ _ (by omega)]; exact h5 v hv
theorem RSf_see {f : Nat → Int32} {s : SV} (h : RSf f s) (hn : s.n ≤ 12) (u : Nat) (t : Int32) : RSf (upd f (51 + u) t) (s_see s u t) := by
  obtain ⟨h1, h2, h3, h4, h5⟩ := h
  refine ⟨?_, ?_, ?_, fun j hj => ?_, fun v hv => ?_⟩
  · rw [upd_a, if_neg (by omega)]; exact h1
  · rw [upd_a, if_neg (by omega)]; exact h2
  · rw [upd_a, if_neg (by omega)]; exact h3
  · have hj' : j < s.n := hj
    simp only [upd_a]
    rw [if_neg (by omega), if_neg (by omega), if_neg (by omega), if_neg (by omega)]
    exact h4 j hj'
  · show _ = upd s.S u t v
    rw [upd_a, upd_a]
    by_cases z : v = u
    · rw [if_pos z, if_pos (by omega)]
    · rw [if_neg z, if_neg (by omega)]; exact h5 v hv
theorem RSf_hor {f : Nat → Int32} {s : SV} (h : RSf f s) (t : Nat) : RSf (upd f 1 (nI t)) (s_hor s t) := by
  obtain ⟨h1, h2, h3, h4, h5⟩ := h
  refine ⟨?_, ?_, ?_, fun j hj => ?_, fun v hv => ?_⟩
  · rw [upd_a, if_neg (by omega)]; exact h1
  · rw [upd_a, if_pos rfl]; rfl
  · rw [upd_a, if_neg (by omega)]; exact h3
  · have hj' : j < s.n := hj
    simp only [upd_a]
    rw [if_neg (by omega), if_neg (by omega), if_neg (by omega), if_neg (by omega)]
    exact h4 j hj'
  · rw [upd_a, if_neg (by omega)]; exact h5 v hv
theorem RSf_sen {f : Nat → Int32} {s : SV} (h : RSf f s) (t : Nat) : RSf (upd f 2 (nI t)) (s_sen s t) := by
  obtain ⟨h1, h2, h3, h4, h5⟩ := h
  refine ⟨?_, ?_, ?_, fun j hj => ?_, fun v hv => ?_⟩
  · rw [upd_a, if_neg (by omega)]; exact h1
  · rw [upd_a, if_neg (by omega)]; exact h2
  · rw [upd_a, if_pos rfl]; rfl
  · have hj' : j < s.n := hj
    simp only [upd_a]
    rw [if_neg (by omega), if_neg (by omega), if_neg (by omega), if_neg (by omega)]
    exact h4 j hj'
  · rw [upd_a, if_neg (by omega)]; exact h5 v hv
theorem fr_52 (X : XT) (p : Nat) (v : Int32) : Fr (fun k => k = 52) X (sI X 52 p v) := Fr.pI (P := fun k => k = 52) (Fr.rf _ X) rfl p v
theorem Fr.m52 {X X' : XT} (h : Fr (fun k => k = 52) X X') : Fr (fun k => k = 52 ∨ mscr k) X X' := h.mono (fun _ z => Or.inl z)
theorem Fr.c52 {X X' : XT} (h : Fr (fun k => k = 52) X X') : FrC X X' := FrC.of h (fun k z => by omega)
theorem Fr.c51 {X X' : XT} (h : Fr (fun k => k = 51 ∨ k = 52) X X') : FrC X X' := FrC.of h (fun k z => by omega)
theorem RelM.now {X : XT} {g : SG} (h : RelM X g) : RSf (X.1 52) g.now := h.2.1
theorem RelM.remNow {X : XT} {g : SG} (h : RelM X (s_rem g)) : RSf (X.1 52) g.now := by
  have := h.2.1
  rw [rem_now] at this
  exact this
end MROWS
