/-! The state of the whole class, and what its calls keep. -/
section REL
abbrev SG : Type := SV × Nat × (Nat → SV) × Nat × (Nat → Int32)
abbrev SG.now (g : SG) : SV := g.1
abbrev SG.kept (g : SG) : Nat := g.2.1
abbrev SG.hist (g : SG) : Nat → SV := g.2.2.1
abbrev SG.size (g : SG) : Nat := g.2.2.2.1
abbrev SG.bytes (g : SG) : Nat → Int32 := g.2.2.2.2
def pastR (r j : Nat) : Nat := 21 + 6 * ((j + r) % 5)
theorem pastR_sc (r j : Nat) : isSc (pastR r j) := by
  unfold isSc pastR
  have : (j + r) % 5 < 5 := Nat.mod_lt _ (by decide)
  simp only [List.mem_cons, List.not_mem_nil, or_false]
  omega
theorem pastR_hi (r j : Nat) : 21 ≤ pastR r j ∧ pastR r j + 5 < 51 := by
  unfold pastR
  have : (j + r) % 5 < 5 := Nat.mod_lt _ (by decide)
  omega
theorem pastR_inj {r i j : Nat} (hi : i < 5) (hj : j < 5) (h : pastR r i = pastR r j) : i = j := by
  unfold pastR at h
  omega
def bytesOK (g : SG) : Prop := g.size ≤ 120 ∧ ∀ i, i < g.size → 0 ≤ (g.bytes i).toInt ∧ (g.bytes i).toInt ≤ 255
def okG (g : SG) : Prop := WF g.now ∧ g.kept ≤ 5 ∧ (∀ j, j < g.kept → WF (g.hist j)) ∧ bytesOK g
def RelC (X : XT) (g : SG) : Prop := okG g ∧ RS X 1 g.now ∧ X.1 0 5 = nI g.kept ∧ (∃ r, (∀ j, j < 5 → X.2.2 j = pastR r j) ∧ ∀ j, j < g.kept → RS X (pastR r j) (g.hist j)) ∧ X.1 12 1 = nI g.size ∧ ∀ i, i < g.size → X.1 13 i = g.bytes i
/-- the model's cells stay -/
def FrM (X X' : XT) : Prop := ∀ k, 51 ≤ k → X'.1 k = X.1 k ∧ X'.2.1 k = X.2.1 k
theorem FrM.rf (X : XT) : FrM X X := fun _ _ => ⟨rfl, rfl⟩
theorem FrM.tr {X Y Z : XT} (h : FrM X Y) (g : FrM Y Z) : FrM X Z := fun k hk => ⟨(g k hk).1.trans (h k hk).1, (g k hk).2.trans (h k hk).2⟩
theorem FrM.of {P : Nat → Prop} {X Y : XT} (h : Fr P X Y) (hP : ∀ k, P k → k < 51) : FrM X Y := fun k hk => ⟨h.1 k (fun z => by have := hP k z; omega), h.2.1 k (fun z => by have := hP k z; omega)⟩
theorem scn_lt {b : Nat} (h : isSc b) : ∀ k, scn b k → k < 51 := fun k hk => by
  have := isSc_hi h
  unfold scn at hk
  omega
/-- another present state -/
theorem RelC.setNow {X X' : XT} {g : SG} {s : SV} (h : RelC X g) (hF : Fr (scn 1) X X') (hs : RS X' 1 s) (hw : WF s) : RelC X' (s, g.2) := by
  obtain ⟨⟨w1, w2, w3, w4⟩, h1, h2, ⟨r, h3, h4⟩, h5, h6⟩ := h
  refine ⟨⟨hw, w2, w3, w4⟩, hs, ?_, ⟨r, fun j hj => by rw [hF.2.2]; exact h3 j hj, fun j hj => (h4 j hj).fr hF (fun k hk z => ?_)⟩, ?_, fun i hi => ?_⟩
  · rw [hF.1 0 (fun z => by unfold scn at z; omega)]; exact h2
  · have := pastR_hi r j
    unfold scn at hk z
    omega
  · rw [hF.1 12 (fun z => by unfold scn at z; omega)]; exact h5
  · rw [hF.1 13 (fun z => by unfold scn at z; omega)]; exact h6 i hi
/-- cells that no call relies on: those of the spread, the likelihoods, the draft -/
def scr (k : Nat) : Prop := (8 ≤ k ∧ k ≤ 11) ∨ k = 20 ∨ (14 ≤ k ∧ k ≤ 19)
theorem RelC.scrap {X X' : XT} {g : SG} (h : RelC X g) (hF : Fr scr X X') : RelC X' g := by
  obtain ⟨w, h1, h2, ⟨r, h3, h4⟩, h5, h6⟩ := h
  refine ⟨w, h1.fr hF (fun k hk z => ?_), ?_, ⟨r, fun j hj => by rw [hF.2.2]; exact h3 j hj, fun j hj => (h4 j hj).fr hF (fun k hk z => ?_)⟩, ?_, fun i hi => ?_⟩
  · unfold scn at hk; unfold scr at z; omega
  · rw [hF.1 0 (fun z => by unfold scr at z; omega)]; exact h2
  · have := pastR_hi r j
    unfold scn at hk; unfold scr at z
    omega
  · rw [hF.1 12 (fun z => by unfold scr at z; omega)]; exact h5
  · rw [hF.1 13 (fun z => by unfold scr at z; omega)]; exact h6 i hi
end REL
