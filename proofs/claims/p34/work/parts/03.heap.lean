/-! The world of all cells, by numbers: 0 the RumourSource, 1.. its Scenes, Spread, Text, rows. A state of it: what each whole number's place holds (fields and elements alike), each long's, and which scene each place of the row of the past holds. -/
section HEAP
abbrev XT : Type := (Nat → Nat → Int32) × (Nat → Nat → Int64) × (Nat → Nat)
def sI (X : XT) (k j : Nat) (v : Int32) : XT := (fun q => if q = k then upd (X.1 k) j v else X.1 q, X.2.1, X.2.2)
def sL (X : XT) (k j : Nat) (v : Int64) : XT := (X.1, fun q => if q = k then vp_updL (X.2.1 k) j v else X.2.1 q, X.2.2)
def sR (X : XT) (j v : Nat) : XT := (X.1, X.2.1, va_up X.2.2 j v)
abbrev NC : Nat := 51
def shpL : List (Nat × Nat) := [(3,0), (0,0),(5,12),(5,12),(5,12),(5,12),(5,8), (8,5), (1,0),(5,8),(5,8),(6,8), (2,0),(5,120), (0,0),(5,12),(5,12),(5,12),(5,12),(5,8), (6,8),
  (0,0),(5,12),(5,12),(5,12),(5,12),(5,8), (0,0),(5,12),(5,12),(5,12),(5,12),(5,8), (0,0),(5,12),(5,12),(5,12),(5,12),(5,8), (0,0),(5,12),(5,12),(5,12),(5,12),(5,8), (0,0),(5,12),(5,12),(5,12),(5,12),(5,8)]
def shp (k : Nat) : Nat × Nat := shpL.getD k (9, 0)
def fkL : List (List Nat) := [[3,4,5,6,0,0,7,0], [3,4,1,1,1,0,5,0], [3,0,4,0,0], [3,9,10,14,22,0]]
def fk (c j : Nat) : Nat := (fkL.getD c []).getD j 0
def nf (c : Nat) : Nat := (fkL.getD c []).length
/-- a boolean's place -/
def zf (c j : Nat) : Bool := c == 1 && j == 7
def fv (ρ : Nat → Nat) (X : XT) (c k j : Nat) : Value := match fk c j with
  | 0 => .int (X.1 k j)
  | 1 => .long (X.2.1 k j)
  | n + 2 => .ref (ρ (k + n))
abbrev GT : Type := va_G × (Nat → ClassId)
def cellE (γ : GT) (ρ : Nat → Nat) (X : XT) (k : Nat) : va_E := match (shp k).1 with
  | 5 => .inl (γ.2 0, (shp k).2, .inl (X.1 k))
  | 6 => .inl (γ.2 1, (shp k).2, .inr (.inl (X.2.1 k)))
  | 7 => .inl (γ.2 2, (shp k).2, .inl (X.1 k))
  | 8 => .inl (γ.2 3, (shp k).2, .inr (.inr (.inr (.inr (fun j => some (ρ (X.2.2 j)))))))
  | c => .inr (c, (List.range (nf c)).map (fv ρ X c k))
def cells (γ : GT) (ρ : Nat → Nat) (X : XT) : va_W := (List.range NC).map (fun k => (ρ k, cellE γ ρ X k))
def tysG (γ : GT) : List (ClassId × FieldType) := [(γ.2 0, .int), (γ.2 1, .long), (γ.2 2, .int), (γ.2 3, .object RX0)]
def cv (ρ : Nat → Nat) : Value → Value
  | .ref k => .ref (ρ k)
  | v => v
theorem cv_cat (ρ : Nat → Nat) (v : Value) : (cv ρ v).category = v.category := by cases v <;> rfl
theorem cells_at (γ : GT) (ρ : Nat → Nat) (X : XT) {k : Nat} (h : k < NC) : (cells γ ρ X)[k]? = some (ρ k, cellE γ ρ X k) := by
  simp [cells, List.getElem?_map, List.getElem?_range h]
theorem cells_out (γ : GT) (ρ : Nat → Nat) (X : XT) {k : Nat} (h : ¬ k < NC) : (cells γ ρ X)[k]? = none := by
  simp [cells, List.getElem?_map]
  omega
theorem cells_len (γ : GT) (ρ : Nat → Nat) (X : XT) : (cells γ ρ X).length = NC := by simp [cells]
theorem cells_set (γ : GT) (ρ : Nat → Nat) (X X' : XT) {k : Nat} (hk : k < NC) {e : va_E} (h1 : cellE γ ρ X' k = e) (h2 : ∀ j, j ≠ k → cellE γ ρ X' j = cellE γ ρ X j) : (cells γ ρ X).set k (ρ k, e) = cells γ ρ X' := by
  apply List.ext_getElem?
  intro i
  by_cases hi : i < NC
  · by_cases e' : i = k
    · subst e'
      rw [List.getElem?_set_self (by rw [cells_len]; exact hi), cells_at γ ρ X' hi, h1]
    · rw [List.getElem?_set_ne (fun z => e' z.symm), cells_at γ ρ X hi, cells_at γ ρ X' hi, h2 i e']
  · rw [cells_out γ ρ X' hi, List.getElem?_eq_none]
    rw [List.length_set, cells_len]; omega
def dA (A : Nat → Prop) (ρ : Nat → Nat) : Prop := (∀ i j : Nat, i < NC → j < NC → ρ i = ρ j → i = j) ∧ ∀ i : Nat, i < NC → A (ρ i)
theorem cells_D {A : Nat → Prop} {ρ : Nat → Nat} (h : dA A ρ) (γ : GT) (X : XT) : va_D A (cells γ ρ X) := by
  have key : ∀ (k : Nat) (q : Nat × va_E), (cells γ ρ X)[k]? = some q → k < NC ∧ q.1 = ρ k := by
    intro k q hq
    by_cases hk : k < NC
    · rw [cells_at γ ρ X hk] at hq
      cases hq
      exact ⟨hk, rfl⟩
    · rw [cells_out γ ρ X hk] at hq
      cases hq
  refine ⟨fun i j p q hi hj hpq => ?_, fun k q hk => ?_⟩
  · obtain ⟨a1, a2⟩ := key i p hi
    obtain ⟨b1, b2⟩ := key j q hj
    exact h.1 i j a1 b1 (a2.symm.trans (hpq.trans b2))
  · obtain ⟨a1, a2⟩ := key k q hk
    rw [a2]; exact h.2 k a1
theorem cellE_sI_ne (γ : GT) (ρ : Nat → Nat) (X : XT) (k j : Nat) (v : Int32) {q : Nat} (h : q ≠ k) : cellE γ ρ (sI X k j v) q = cellE γ ρ X q := by
  unfold cellE
  have h1 : (sI X k j v).1 q = X.1 q := by simp [sI, h]
  have h2 : fv ρ (sI X k j v) = fun c k' j' => fv ρ (sI X k j v) c k' j' := rfl
  have h3 : ∀ c, fv ρ (sI X k j v) c q = fv ρ X c q := by
    intro c; funext i
    simp only [fv, h1]
    rfl
  simp only [h1, h3]
  rfl
theorem cellE_sL_ne (γ : GT) (ρ : Nat → Nat) (X : XT) (k j : Nat) (v : Int64) {q : Nat} (h : q ≠ k) : cellE γ ρ (sL X k j v) q = cellE γ ρ X q := by
  unfold cellE
  have h1 : (sL X k j v).2.1 q = X.2.1 q := by simp [sL, h]
  have h3 : ∀ c, fv ρ (sL X k j v) c q = fv ρ X c q := by
    intro c; funext i
    simp only [fv, h1]
    rfl
  simp only [h1, h3]
  rfl
theorem cellE_arrI (γ : GT) (ρ : Nat → Nat) (X : XT) {k : Nat} (h : (shp k).1 = 5) : cellE γ ρ X k = .inl (γ.2 0, (shp k).2, .inl (X.1 k)) := by
  unfold cellE; rw [h]; rfl
theorem cellE_arrL (γ : GT) (ρ : Nat → Nat) (X : XT) {k : Nat} (h : (shp k).1 = 6) : cellE γ ρ X k = .inl (γ.2 1, (shp k).2, .inr (.inl (X.2.1 k))) := by
  unfold cellE; rw [h]; rfl
theorem cellE_arrZ (γ : GT) (ρ : Nat → Nat) (X : XT) {k : Nat} (h : (shp k).1 = 7) : cellE γ ρ X k = .inl (γ.2 2, (shp k).2, .inl (X.1 k)) := by
  unfold cellE; rw [h]; rfl
theorem cellE_arrR (γ : GT) (ρ : Nat → Nat) (X : XT) {k : Nat} (h : (shp k).1 = 8) : cellE γ ρ X k = .inl (γ.2 3, (shp k).2, .inr (.inr (.inr (.inr (fun j => some (ρ (X.2.2 j))))))) := by
  unfold cellE; rw [h]; rfl
theorem cellE_obj (γ : GT) (ρ : Nat → Nat) (X : XT) {k c : Nat} (h : (shp k).1 = c) (hc : c < 5) : cellE γ ρ X k = .inr (c, (List.range (nf c)).map (fv ρ X c k)) := by
  unfold cellE; rw [h]
  rcases (by omega : c = 0 ∨ c = 1 ∨ c = 2 ∨ c = 3 ∨ c = 4) with rfl | rfl | rfl | rfl | rfl <;> rfl
theorem sI_at (X : XT) (k j : Nat) (v : Int32) : (sI X k j v).1 k = upd (X.1 k) j v := by simp [sI]
theorem sL_at (X : XT) (k j : Nat) (v : Int64) : (sL X k j v).2.1 k = vp_updL (X.2.1 k) j v := by simp [sL]
theorem one_scenes8 : ∀ k, k < NC → (shp k).1 = 8 → k = 7 := by decide +kernel
theorem cells_setI (γ : GT) (ρ : Nat → Nat) (X : XT) {k : Nat} (hk : k < NC) (h : (shp k).1 = 5) (j : Nat) (v : Int32) : (cells γ ρ X).set k (ρ k, .inl (γ.2 0, (shp k).2, .inl (upd (X.1 k) j v))) = cells γ ρ (sI X k j v) :=
  cells_set γ ρ X _ hk (by rw [cellE_arrI γ ρ _ h, sI_at]) (fun q hq => cellE_sI_ne γ ρ X k j v hq)
theorem cells_setZ (γ : GT) (ρ : Nat → Nat) (X : XT) {k : Nat} (hk : k < NC) (h : (shp k).1 = 7) (j : Nat) (v : Int32) : (cells γ ρ X).set k (ρ k, .inl (γ.2 2, (shp k).2, .inl (upd (X.1 k) j v))) = cells γ ρ (sI X k j v) :=
  cells_set γ ρ X _ hk (by rw [cellE_arrZ γ ρ _ h, sI_at]) (fun q hq => cellE_sI_ne γ ρ X k j v hq)
theorem cells_setL (γ : GT) (ρ : Nat → Nat) (X : XT) {k : Nat} (hk : k < NC) (h : (shp k).1 = 6) (j : Nat) (v : Int64) : (cells γ ρ X).set k (ρ k, .inl (γ.2 1, (shp k).2, .inr (.inl (vp_updL (X.2.1 k) j v)))) = cells γ ρ (sL X k j v) :=
  cells_set γ ρ X _ hk (by rw [cellE_arrL γ ρ _ h, sL_at]) (fun q hq => cellE_sL_ne γ ρ X k j v hq)
theorem cells_setR (γ : GT) (ρ : Nat → Nat) (X : XT) {k : Nat} (hk : k < NC) (h : (shp k).1 = 8) (j w : Nat) : (cells γ ρ X).set k (ρ k, .inl (γ.2 3, (shp k).2, .inr (.inr (.inr (.inr (va_up (fun i => some (ρ (X.2.2 i))) j (some (ρ w)))))))) = cells γ ρ (sR X j w) := by
  refine cells_set γ ρ X _ hk ?_ (fun q hq => ?_)
  · rw [cellE_arrR γ ρ _ h]
    have : (fun i => some (ρ ((sR X j w).2.2 i))) = va_up (fun i => some (ρ (X.2.2 i))) j (some (ρ w)) := by
      funext i
      simp only [sR, va_up]
      by_cases e : i = j <;> simp [e]
    rw [this]
  · by_cases e : q < NC
    · have h8 : (shp q).1 ≠ 8 := fun z => hq ((one_scenes8 q e z).trans (one_scenes8 k hk h).symm)
      unfold cellE
      split <;> first | rfl | (exfalso; apply h8; assumption)
    · have : (shp q).1 = 9 := by
        have hl : shpL.length = 51 := rfl
        have hn : NC = 51 := rfl
        unfold shp
        rw [List.getD_eq_getElem?_getD, List.getElem?_eq_none (by omega)]; rfl
      unfold cellE
      rw [this]
      rfl
theorem fv_int (ρ : Nat → Nat) (X : XT) (c k j : Nat) (h : fk c j = 0) : fv ρ X c k j = .int (X.1 k j) := by unfold fv; rw [h]
theorem fv_long (ρ : Nat → Nat) (X : XT) (c k j : Nat) (h : fk c j = 1) : fv ρ X c k j = .long (X.2.1 k j) := by unfold fv; rw [h]
theorem fv_sI_ne (ρ : Nat → Nat) (X : XT) (c k j : Nat) (v : Int32) {i : Nat} (e : i ≠ j) : fv ρ (sI X k j v) c k i = fv ρ X c k i := by
  have h1 : (sI X k j v).1 k i = X.1 k i := by rw [sI_at]; simp [upd, e]
  unfold fv
  rw [h1]
  rfl
theorem fv_sL_ne (ρ : Nat → Nat) (X : XT) (c k j : Nat) (v : Int64) {i : Nat} (e : i ≠ j) : fv ρ (sL X k j v) c k i = fv ρ X c k i := by
  have h1 : (sL X k j v).2.1 k i = X.2.1 k i := by rw [sL_at]; simp [vp_updL, e]
  unfold fv
  rw [h1]
  rfl
theorem obj_setI (ρ : Nat → Nat) (X : XT) (c k j : Nat) (v : Int32) (h : fk c j = 0) : (List.range (nf c)).map (fv ρ (sI X k j v) c k) = ((List.range (nf c)).map (fv ρ X c k)).set j (.int v) := by
  apply List.ext_getElem?
  intro i
  by_cases hi : i < nf c
  · by_cases e : i = j
    · subst e
      rw [List.getElem?_set_self (by simpa using hi), List.getElem?_map, List.getElem?_range hi]
      simp [fv_int ρ _ c k i h, sI_at, upd]
    · rw [List.getElem?_set_ne (fun z => e z.symm), List.getElem?_map, List.getElem?_map, List.getElem?_range hi]
      simp [fv_sI_ne ρ X c k j v e]
  · rw [List.getElem?_eq_none (by simp; omega), List.getElem?_eq_none (by simp; omega)]
theorem obj_setL (ρ : Nat → Nat) (X : XT) (c k j : Nat) (v : Int64) (h : fk c j = 1) : (List.range (nf c)).map (fv ρ (sL X k j v) c k) = ((List.range (nf c)).map (fv ρ X c k)).set j (.long v) := by
  apply List.ext_getElem?
  intro i
  by_cases hi : i < nf c
  · by_cases e : i = j
    · subst e
      rw [List.getElem?_set_self (by simpa using hi), List.getElem?_map, List.getElem?_range hi]
      simp [fv_long ρ _ c k i h, sL_at, vp_updL]
    · rw [List.getElem?_set_ne (fun z => e z.symm), List.getElem?_map, List.getElem?_map, List.getElem?_range hi]
      simp [fv_sL_ne ρ X c k j v e]
  · rw [List.getElem?_eq_none (by simp; omega), List.getElem?_eq_none (by simp; omega)]
theorem cells_putI (γ : GT) (ρ : Nat → Nat) (X : XT) {k c : Nat} (hk : k < NC) (h : (shp k).1 = c) (hc : c < 5) (j : Nat) (hf : fk c j = 0) (v : Int32) : (cells γ ρ X).set k (ρ k, .inr (c, ((List.range (nf c)).map (fv ρ X c k)).set j (.int v))) = cells γ ρ (sI X k j v) :=
  cells_set γ ρ X _ hk (by rw [cellE_obj γ ρ _ h hc, obj_setI ρ X c k j v hf]) (fun q hq => cellE_sI_ne γ ρ X k j v hq)
theorem cells_putL (γ : GT) (ρ : Nat → Nat) (X : XT) {k c : Nat} (hk : k < NC) (h : (shp k).1 = c) (hc : c < 5) (j : Nat) (hf : fk c j = 1) (v : Int64) : (cells γ ρ X).set k (ρ k, .inr (c, ((List.range (nf c)).map (fv ρ X c k)).set j (.long v))) = cells γ ρ (sL X k j v) :=
  cells_set γ ρ X _ hk (by rw [cellE_obj γ ρ _ h hc, obj_setL ρ X c k j v hf]) (fun q hq => cellE_sL_ne γ ρ X k j v hq)
end HEAP
