/-! Words for the state, and small rows. -/
section BASEW
/-- the room of a method whose calls stand k deep -/
abbrev rmF (k : Nat) : Room := { frames := k, cells := 0, slots := 0, locals := 64 * k }
/-- the number of a Scene -/
def isSc (b : Nat) : Prop := b ∈ [1, 14, 21, 27, 33, 39, 45]
theorem isSc_shp {b : Nat} (h : isSc b) : shp b = (0, 0) ∧ shp (b + 1) = (5, 12) ∧ shp (b + 2) = (5, 12) ∧ shp (b + 3) = (5, 12) ∧ shp (b + 4) = (5, 12) ∧ shp (b + 5) = (5, 8) ∧ b + 5 < NC := by
  unfold isSc at h
  simp only [List.mem_cons, List.not_mem_nil, or_false] at h
  rcases h with rfl | rfl | rfl | rfl | rfl | rfl | rfl <;> decide
theorem isSc_lt {b : Nat} (h : isSc b) : b < NC ∧ b + 1 < NC ∧ b + 2 < NC ∧ b + 3 < NC ∧ b + 4 < NC ∧ b + 5 < NC := by
  have := (isSc_shp h).2.2.2.2.2.2
  have e : NC = 51 := rfl
  omega
theorem isSc_ne {b o : Nat} (h : isSc b) (h2 : isSc o) (hn : b ≠ o) : b + 5 < o ∨ o + 5 < b := by
  unfold isSc at h h2
  simp only [List.mem_cons, List.not_mem_nil, or_false] at h h2
  omega
theorem isSc_hi {b : Nat} (h : isSc b) : 1 ≤ b ∧ b + 5 < 51 := by
  unfold isSc at h
  simp only [List.mem_cons, List.not_mem_nil, or_false] at h
  omega
theorem clampN {n : Nat} (h : n < 2147483648) : (nI n).toNatClampNeg = n := nI_clamp h
theorem vp_inN {n N : Nat} (hN : N < 2147483648) (h : n < N) : vp_in (nI n) N := vp_in_nI h hN
theorem leN {a b : Nat} (ha : a < 2147483648) (hb : b < 2147483648) : nI a ≤ nI b ↔ a ≤ b := nI_leI ha hb
theorem ltN {a b : Nat} (ha : a < 2147483648) (hb : b < 2147483648) : nI a < nI b ↔ a < b := nI_ltI ha hb
theorem eqN {a b : Nat} (ha : a < 2147483648) (hb : b < 2147483648) : nI a = nI b ↔ a = b := nI_eq ha hb
theorem clamp0 : (0 : Int32).toNatClampNeg = 0 := rfl
theorem eq31N {a : Nat} (h : a < 2147483648) : (nI a = 31) = (a = 31) := propext (eqN (b := 31) h (by decide))
theorem add1N (a : Nat) : nI a + 1 = nI (a + 1) := nI_1 a
theorem litN (n : Nat) : (OfNat.ofNat n : Int32) = nI n := rfl
theorem sI_1 (X : XT) (k j : Nat) (v : Int32) (q : Nat) : (sI X k j v).1 q = if q = k then upd (X.1 k) j v else X.1 q := rfl
theorem sI_2 (X : XT) (k j : Nat) (v : Int32) : (sI X k j v).2 = X.2 := rfl
theorem sL_1 (X : XT) (k j : Nat) (v : Int64) : (sL X k j v).1 = X.1 := rfl
theorem sL_2 (X : XT) (k j : Nat) (v : Int64) (q : Nat) : (sL X k j v).2.1 q = if q = k then vp_updL (X.2.1 k) j v else X.2.1 q := rfl
theorem sL_22 (X : XT) (k j : Nat) (v : Int64) : (sL X k j v).2.2 = X.2.2 := rfl
theorem upd_a (f : Nat → Int32) (k : Nat) (x : Int32) (j : Nat) : upd f k x j = if j = k then x else f j := rfl
theorem updL_a (f : Nat → Int64) (k : Nat) (x : Int64) (j : Nat) : vp_updL f k x j = if j = k then x else f j := rfl
/-- what stays: all cells but those that P names -/
def Fr (P : Nat → Prop) (X X' : XT) : Prop := (∀ k, ¬ P k → X'.1 k = X.1 k) ∧ (∀ k, ¬ P k → X'.2.1 k = X.2.1 k) ∧ X'.2.2 = X.2.2
theorem Fr.rf (P : Nat → Prop) (X : XT) : Fr P X X := ⟨fun _ _ => rfl, fun _ _ => rfl, rfl⟩
theorem Fr.tr {P : Nat → Prop} {X Y Z : XT} (h : Fr P X Y) (g : Fr P Y Z) : Fr P X Z := ⟨fun k hk => (g.1 k hk).trans (h.1 k hk), fun k hk => (g.2.1 k hk).trans (h.2.1 k hk), g.2.2.trans h.2.2⟩
theorem Fr.mono {P P' : Nat → Prop} {X Y : XT} (h : Fr P X Y) (hp : ∀ k, P k → P' k) : Fr P' X Y := ⟨fun k hk => h.1 k (fun z => hk (hp k z)), fun k hk => h.2.1 k (fun z => hk (hp k z)), h.2.2⟩
theorem Fr.pI {P : Nat → Prop} {X Y : XT} (h : Fr P X Y) {k : Nat} (hk : P k) (j : Nat) (v : Int32) : Fr P X (sI Y k j v) :=
  ⟨fun q hq => by rw [sI_1, if_neg (show ¬ q = k from fun z => hq (by rw [z]; exact hk))]; exact h.1 q hq, h.2.1, h.2.2⟩
theorem Fr.pL {P : Nat → Prop} {X Y : XT} (h : Fr P X Y) {k : Nat} (hk : P k) (j : Nat) (v : Int64) : Fr P X (sL Y k j v) :=
  ⟨h.1, fun q hq => by rw [sL_2, if_neg (show ¬ q = k from fun z => hq (by rw [z]; exact hk))]; exact h.2.1 q hq, h.2.2⟩
/-- 1 for what holds, else 0 -/
noncomputable def b2i (P : Prop) : Int32 := @ite Int32 P (Classical.propDecidable P) 1 0
theorem b2i_t {P : Prop} (h : P) : b2i P = 1 := by unfold b2i; exact if_pos h
theorem b2i_f {P : Prop} (h : ¬ P) : b2i P = 0 := by unfold b2i; exact if_neg h
theorem b2i_0 (P : Prop) : (b2i P = 0) = ¬ P := by
  by_cases h : P
  · rw [b2i_t h]; simp [h]
  · rw [b2i_f h]; simp [h]
theorem b2i_1 (P : Prop) : (b2i P = 1) = P := by
  by_cases h : P
  · rw [b2i_t h]; simp [h]
  · rw [b2i_f h]; simp [h]
theorem bl_b2i (P : Prop) : bl (b2i P) := by
  by_cases h : P
  · exact Or.inr (b2i_t h)
  · exact Or.inl (b2i_f h)
theorem bl_0 : bl 0 := Or.inl rfl
theorem bl_1 : bl 1 := Or.inr rfl
theorem b2i_c {P Q : Prop} (h : P ↔ Q) : b2i P = b2i Q := by rw [propext h]
/-- between two numbers -/
def inR (a : Int32) (lo hi : Int) : Prop := lo ≤ a.toInt ∧ a.toInt ≤ hi
theorem leI (a b : Int32) : a ≤ b ↔ a.toInt ≤ b.toInt := Int32.le_iff_toInt_le
theorem eqI (a b : Int32) : a = b ↔ a.toInt = b.toInt := Int32.toInt_inj.symm
theorem ltI (a b : Int32) : a < b ↔ a.toInt < b.toInt := Int32.lt_iff_toInt_lt
theorem inR_N {a : Int32} {lo hi : Nat} (hhi : hi < 2147483648) (h : inR a lo hi) : ∃ n : Nat, lo ≤ n ∧ n ≤ hi ∧ a = nI n := by
  obtain ⟨h1, h2⟩ := h
  refine ⟨a.toInt.toNat, by omega, by omega, ?_⟩
  apply Int32.toInt_inj.mp
  rw [nI_toInt (by omega)]
  omega
/-- a Scene's value: how many edges; from, to, trust, delay of each; the horizon; how each node is observed; the sensors -/
abbrev SV : Type := Nat × (Nat → Nat) × (Nat → Nat) × (Nat → Nat) × (Nat → Nat) × Nat × (Nat → Int32) × Nat
abbrev SV.n (s : SV) : Nat := s.1
abbrev SV.F (s : SV) : Nat → Nat := s.2.1
abbrev SV.T (s : SV) : Nat → Nat := s.2.2.1
abbrev SV.W (s : SV) : Nat → Nat := s.2.2.2.1
abbrev SV.D (s : SV) : Nat → Nat := s.2.2.2.2.1
abbrev SV.H (s : SV) : Nat := s.2.2.2.2.2.1
abbrev SV.S (s : SV) : Nat → Int32 := s.2.2.2.2.2.2.1
abbrev SV.Q (s : SV) : Nat := s.2.2.2.2.2.2.2
/-- a possible one -/
def okS (v : Int32) : Prop := v = -1 ∨ v = 100 ∨ ∃ n : Nat, n ≤ 30 ∧ v = nI n
def WF (s : SV) : Prop := s.n ≤ 12 ∧ (∀ e, e < s.n → s.F e < 8 ∧ s.T e < 8 ∧ s.F e ≠ s.T e ∧ s.W e ≤ 10 ∧ 1 ≤ s.D e ∧ s.D e ≤ 5) ∧ (∀ i j, i < s.n → j < s.n → s.F i = s.F j → s.T i = s.T j → i = j) ∧ s.H ≤ 30 ∧ (∀ v, v < 8 → okS (s.S v)) ∧ s.Q ≤ 255
/-- the Scene at cell b holds s -/
def RS (X : XT) (b : Nat) (s : SV) : Prop := X.1 b 4 = nI s.n ∧ (∀ e, e < s.n → X.1 (b + 1) e = nI (s.F e) ∧ X.1 (b + 2) e = nI (s.T e) ∧ X.1 (b + 3) e = nI (s.W e) ∧ X.1 (b + 4) e = nI (s.D e)) ∧ X.1 b 5 = nI s.H ∧ (∀ v, v < 8 → X.1 (b + 5) v = s.S v) ∧ X.1 b 7 = nI s.Q
def scn (b : Nat) : Nat → Prop := fun k => b ≤ k ∧ k ≤ b + 5
theorem RS.fr1 {X X' : XT} {b : Nat} {s : SV} (h : RS X b s) (hF : ∀ k, scn b k → X'.1 k = X.1 k) : RS X' b s := by
  obtain ⟨h1, h2, h3, h4, h5⟩ := h
  have e : ∀ i, i ≤ 5 → X'.1 (b + i) = X.1 (b + i) := fun i hi => hF _ ⟨by omega, by omega⟩
  have e0 := e 0 (by omega)
  rw [Nat.add_zero] at e0
  refine ⟨by rw [e0]; exact h1, fun q hq => ?_, by rw [e0]; exact h3, fun v hv => by rw [e 5 (by omega)]; exact h4 v hv, by rw [e0]; exact h5⟩
  rw [e 1 (by omega), e 2 (by omega), e 3 (by omega), e 4 (by omega)]
  exact h2 q hq
theorem RS.fr {P : Nat → Prop} {X X' : XT} {b : Nat} {s : SV} (h : RS X b s) (hF : Fr P X X') (hP : ∀ k, scn b k → ¬ P k) : RS X' b s := by
  exact h.fr1 (fun k hk => hF.1 k (hP k hk))
theorem tI_m5 : (-5 : Int32).toInt = -5 := rfl
theorem tI_m4 : (-4 : Int32).toInt = -4 := rfl
theorem tI_m3 : (-3 : Int32).toInt = -3 := rfl
theorem tI_m2 : (-2 : Int32).toInt = -2 := rfl
theorem tI_m1 : (-1 : Int32).toInt = -1 := rfl
theorem tI_0 : (0 : Int32).toInt = 0 := rfl
theorem tI_1 : (1 : Int32).toInt = 1 := rfl
theorem tI_2 : (2 : Int32).toInt = 2 := rfl
theorem tI_3 : (3 : Int32).toInt = 3 := rfl
theorem tI_4 : (4 : Int32).toInt = 4 := rfl
theorem tI_5 : (5 : Int32).toInt = 5 := rfl
theorem tI_7 : (7 : Int32).toInt = 7 := rfl
theorem tI_8 : (8 : Int32).toInt = 8 := rfl
theorem tI_10 : (10 : Int32).toInt = 10 := rfl
theorem tI_12 : (12 : Int32).toInt = 12 := rfl
theorem tI_30 : (30 : Int32).toInt = 30 := rfl
theorem tI_31 : (31 : Int32).toInt = 31 := rfl
theorem tI_32 : (32 : Int32).toInt = 32 := rfl
theorem tI_47 : (47 : Int32).toInt = 47 := rfl
theorem tI_48 : (48 : Int32).toInt = 48 := rfl
theorem tI_57 : (57 : Int32).toInt = 57 := rfl
theorem tI_59 : (59 : Int32).toInt = 59 := rfl
theorem tI_42 : (42 : Int32).toInt = 42 := rfl
theorem tI_43 : (43 : Int32).toInt = 43 := rfl
theorem tI_45 : (45 : Int32).toInt = 45 := rfl
theorem tI_61 : (61 : Int32).toInt = 61 := rfl
theorem tI_62 : (62 : Int32).toInt = 62 := rfl
theorem tI_100 : (100 : Int32).toInt = 100 := rfl
theorem tI_120 : (120 : Int32).toInt = 120 := rfl
theorem tI_255 : (255 : Int32).toInt = 255 := rfl
theorem tI_1000 : (1000 : Int32).toInt = 1000 := rfl
end BASEW
