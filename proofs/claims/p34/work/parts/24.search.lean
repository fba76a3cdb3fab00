/-! The search: its state, what it knows, and how it goes on. -/
section SEARCH
/-- outcome o goes with what is decided: d the edges decided, w those of them that work -/
def agr (s : SV) (d w o : Nat) : Prop := ∀ e, e < s.n → d.testBit e = true → o.testBit e = w.testBit e
/-- what the search knows -/
def Dv (s : SV) (m : Nat) (t : Nat → Nat) (d w : Nat) : Prop := (∀ v, v < 8 → t v ≤ 31) ∧ (∀ v, v < 8 → m.testBit v = true → t v = 0) ∧ (∀ v, v < 8 → m.testBit v = false → t v < 31 → ∃ e, e < s.n ∧ d.testBit e = true ∧ w.testBit e = true ∧ s.T e = v ∧ t v = arr s t e) ∧
  (∀ v, v < 8 → t v < 31 → t v ≤ (nxE s t d s.n).2) ∧ (∀ e, e < s.n → d.testBit e = false → t (s.T e) < 31 → t (s.T e) ≤ arr s t e) ∧ (∀ e, e < s.n → d.testBit e = true → w.testBit e = true → t (s.T e) = arr s t e ∧ arr s t e < 31)
theorem nxE_min (s : SV) (t : Nat → Nat) (d : Nat) : ∀ k e, e < k → d.testBit e = false → t (s.T e) = 31 → (nxE s t d k).2 ≤ arr s t e := by
  intro k
  induction k with
  | zero => intro e h; omega
  | succ k ih =>
    intro e he hd ht
    unfold nxE
    split
    next g =>
      by_cases z : e = k
      · rw [z]; exact Nat.le_refl _
      · exact Nat.le_trans (Nat.le_of_lt g.2.2) (ih e (by omega) hd ht)
    next g =>
      by_cases z : e = k
      · subst z
        exact Nat.not_lt.mp (fun y => g ⟨hd, ht, y⟩)
      · exact ih e (by omega) hd ht
theorem nxE_some (s : SV) (t : Nat → Nat) (d : Nat) : ∀ k e, (nxE s t d k).1 = some e → e < k ∧ d.testBit e = false ∧ t (s.T e) = 31 ∧ (nxE s t d k).2 = arr s t e ∧ arr s t e < 31 := by
  intro k
  induction k with
  | zero => intro e h; cases h
  | succ k ih =>
    intro e h
    have hle := nxE_le s t d k
    unfold nxE at h ⊢
    by_cases c : d.testBit k = false ∧ t (s.T k) = 31 ∧ arr s t k < (nxE s t d k).2
    · rw [if_pos c] at h ⊢
      cases h
      exact ⟨by omega, c.1, c.2.1, rfl, by omega⟩
    · rw [if_neg c] at h ⊢
      obtain ⟨h1, h2⟩ := ih e h
      exact ⟨by omega, h2⟩
theorem nxE_none (s : SV) (t : Nat → Nat) (d : Nat) : ∀ k, (nxE s t d k).1 = none → (nxE s t d k).2 = 31 := by
  intro k
  induction k with
  | zero => intro _; rfl
  | succ k ih =>
    intro h
    unfold nxE at h ⊢
    by_cases c : d.testBit k = false ∧ t (s.T k) = 31 ∧ arr s t k < (nxE s t d k).2
    · rw [if_pos c] at h; cases h
    · rw [if_neg c] at h ⊢
      exact ih h
/-- whatever agrees: nodes that have heard keep their times, the others hear not before the next arrival -/
theorem Dv.times {s : SV} {m : Nat} {t : Nat → Nat} {d w o : Nat} {τ : Nat → Nat} (hW : WE s) (h : Dv s m t d w) (hag : agr s d w o) (hτ : Sol s m o τ) : (∀ v, v < 8 → t v < 31 → τ v = t v) ∧ ∀ v, v < 8 → t v = 31 → (nxE s t d s.n).2 ≤ τ v := by
  obtain ⟨h1, h2, h3, h4, h5, h6⟩ := h
  have up : ∀ (k v : Nat), v < 8 → t v = k → t v < 31 → τ v ≤ t v := by
    intro k
    induction k using Nat.strongRecOn with
    | ind k ih =>
      intro v hv hk hlt
      cases hm : m.testBit v with
      | true => rw [hτ.2.1 v hv hm]; omega
      | false =>
        obtain ⟨e, e1, e2, e3, e4, e5⟩ := h3 v hv hm hlt
        obtain ⟨f1, f2, f3, f4, f5⟩ := hW.2.1 e e1
        obtain ⟨g1, g2, g3⟩ := arr_lt f4 (t := t) (by omega)
        have i1 := ih (t (s.F e)) (by omega) (s.F e) f1 rfl (by omega)
        have i2 := hτ.2.2.1 e e1 (by rw [hag e e1 e2]; exact e3)
        have i3 := arr_mono (t := τ) (t' := t) (e := e) i1 hW.2.2 (h1 _ f1)
        rw [e4] at i2
        omega
  have lo : ∀ (k v : Nat), v < 8 → τ v = k → τ v < (nxE s t d s.n).2 → t v ≤ τ v := by
    intro k
    induction k using Nat.strongRecOn with
    | ind k ih =>
      intro v hv hk hlt
      have hnx := nxE_le s t d s.n
      cases hm : m.testBit v with
      | true => rw [h2 v hv hm]; omega
      | false =>
        obtain ⟨e, e1, e2, e3, e4⟩ := hτ.2.2.2 v hv hm (by omega)
        obtain ⟨f1, f2, f3, f4, f5⟩ := hW.2.1 e e1
        obtain ⟨g1, g2, g3⟩ := arr_lt f4 (t := τ) (by omega)
        have i1 := ih (τ (s.F e)) (by omega) (s.F e) f1 rfl (by omega)
        have i3 := arr_mono (t := t) (t' := τ) (e := e) i1 hW.2.2 (hτ.1 _ f1)
        cases hd : d.testBit e with
        | true =>
          have hw : w.testBit e = true := by rw [← hag e e1 hd]; exact e2
          obtain ⟨j1, j2⟩ := h6 e e1 hd hw
          rw [e3] at j1
          omega
        | false =>
          by_cases hT : t (s.T e) = 31
          · have := nxE_min s t d s.n e e1 hd hT
            omega
          · have hT2 := h1 _ f2
            have := h5 e e1 hd (by omega)
            rw [e3] at this
            omega
  refine ⟨fun v hv hlt => Nat.le_antisymm (up _ v hv rfl hlt) ?_, fun v hv hT => ?_⟩
  · by_cases z : τ v < (nxE s t d s.n).2
    · exact lo _ v hv rfl z
    · have := h4 v hv hlt; omega
  · apply Nat.not_lt.mp
    intro z
    have := lo _ v hv rfl z
    have := nxE_le s t d s.n
    omega
theorem tb_or {a e k : Nat} : (a ||| 2 ^ e).testBit k = (a.testBit k || decide (e = k)) := by
  rw [Nat.testBit_or, Nat.testBit_two_pow]
theorem Dv.start {s : SV} (hW : WE s) (m : Nat) : Dv s m (t0 m) 0 0 := by
  refine ⟨fun v _ => by unfold t0; split <;> omega, fun v _ h => by unfold t0; rw [if_pos h], fun v _ h h2 => ?_, fun v hv hlt => ?_, fun e he _ hlt => ?_, fun e _ h => by simp at h⟩
  · unfold t0 at h2; rw [if_neg (by rw [h]; decide)] at h2; omega
  · unfold t0 at hlt ⊢
    split at hlt
    next h => rw [if_pos h]; omega
    next h => omega
  · unfold t0 at hlt ⊢
    split at hlt
    next h => rw [if_pos h]; omega
    next h => omega
/-- the edge works -/
theorem Dv.yes {s : SV} {m : Nat} {t : Nat → Nat} {d w e : Nat} (hW : WE s) (h : Dv s m t d w) (he : (nxE s t d s.n).1 = some e) : Dv s m (updN t (s.T e) (arr s t e)) (d ||| 2 ^ e) (w ||| 2 ^ e) := by
  obtain ⟨c1, c2, c3, c4, c5⟩ := nxE_some s t d s.n e he
  obtain ⟨h1, h2, h3, h4, h5, h6⟩ := h
  obtain ⟨f1, f2, f3, f4, f5⟩ := hW.2.1 e c1
  obtain ⟨g1, g2, g3⟩ := arr_lt f4 (t := t) c5
  have hFT : s.F e ≠ s.T e := fun z => by rw [z] at g1; omega
  rw [c4] at h4
  -- arrivals in the new times
  have a1 : ∀ q, s.F q ≠ s.T e → arr s (updN t (s.T e) (arr s t e)) q = arr s t q := fun q hq => by
    unfold arr; rw [updN_a, if_neg hq]
  have a2 : ∀ q, q < s.n → s.F q = s.T e → arr s t e ≤ arr s (updN t (s.T e) (arr s t e)) q := fun q hq z => by
    have : updN t (s.T e) (arr s t e) (s.F q) = arr s t e := by rw [updN_a, if_pos z]
    have hH := hW.2.2
    show arr s t e ≤ (if updN t (s.T e) (arr s t e) (s.F q) = 31 then 31 else if updN t (s.T e) (arr s t e) (s.F q) + s.D q ≤ s.H then updN t (s.T e) (arr s t e) (s.F q) + s.D q else 31)
    rw [this]
    split
    · omega
    · split <;> omega
  have heard : ∀ q, arr s t q < 31 → q < s.n → s.F q ≠ s.T e := fun q hq hqn z => by
    obtain ⟨k1, -, -⟩ := arr_lt (hW.2.1 q hqn).2.2.2.1 hq
    rw [z, c3] at k1
    omega
  have hnx : ∀ q, q < s.n → d.testBit q = false → t (s.T q) = 31 → arr s t e ≤ arr s t q := fun q hq hd hT => by
    have := nxE_min s t d s.n q hq hd hT
    rw [c4] at this
    exact this
  refine ⟨fun v hv => ?_, fun v hv hm => ?_, fun v hv hm hlt => ?_, fun v hv hlt => ?_, fun q hq hd hlt => ?_, fun q hq hd hw => ?_⟩
  · rw [updN_a]; split
    · omega
    · exact h1 v hv
  · rw [updN_a, if_neg]
    · exact h2 v hv hm
    · intro z
      have := h2 v hv hm
      rw [z, c3] at this
      omega
  · by_cases z : v = s.T e
    · refine ⟨e, c1, by simp [tb_or], by simp [tb_or], z.symm, ?_⟩
      rw [a1 e hFT, updN_a, if_pos z]
    · rw [updN_a, if_neg z] at hlt ⊢
      obtain ⟨q, q1, q2, q3, q4, q5⟩ := h3 v hv hm hlt
      exact ⟨q, q1, by simp [tb_or, q2], by simp [tb_or, q3], q4, by rw [a1 q (heard q (by omega) q1)]; exact q5⟩
  · have b1 : ∀ k, k ≤ s.n → arr s t e ≤ (nxE s (updN t (s.T e) (arr s t e)) (d ||| 2 ^ e) k).2 := by
      intro k
      induction k with
      | zero => intro _; show arr s t e ≤ 31; omega
      | succ k ih =>
        intro hk
        unfold nxE
        split
        next g =>
          obtain ⟨g1, g2, g3⟩ := g
          rw [tb_or] at g1
          simp only [Bool.or_eq_false_iff, decide_eq_false_iff_not] at g1
          rw [updN_a] at g2
          by_cases y : s.T k = s.T e
          · rw [if_pos y] at g2; omega
          · rw [if_neg y] at g2
            show arr s t e ≤ arr s (updN t (s.T e) (arr s t e)) k
            by_cases x : s.F k = s.T e
            · exact a2 k (by omega) x
            · rw [a1 k x]; exact hnx k (by omega) g1.1 g2
        next => exact ih (by omega)
    have b2 := b1 s.n (Nat.le_refl _)
    rw [updN_a] at hlt ⊢
    split
    · exact b2
    · rename_i z
      rw [if_neg z] at hlt
      exact Nat.le_trans (h4 v hv hlt) b2
  · rw [tb_or] at hd
    simp only [Bool.or_eq_false_iff, decide_eq_false_iff_not] at hd
    rw [updN_a] at hlt ⊢
    by_cases y : s.T q = s.T e
    · rw [if_pos y]
      by_cases x : s.F q = s.T e
      · exact a2 q hq x
      · rw [a1 q x]; exact hnx q hq hd.1 (by rw [y]; exact c3)
    · rw [if_neg y] at hlt ⊢
      by_cases x : s.F q = s.T e
      · exact Nat.le_trans (h4 _ (hW.2.1 q hq).2.1 hlt) (a2 q hq x)
      · rw [a1 q x]; exact h5 q hq hd.1 hlt
  · rw [tb_or] at hd hw
    by_cases z : q = e
    · subst z
      rw [a1 q hFT, updN_a, if_pos rfl]
      exact ⟨rfl, c5⟩
    · have z' : ¬ e = q := fun y => z y.symm
      simp only [z', decide_false, Bool.or_false] at hd hw
      obtain ⟨k1, k2⟩ := h6 q hq hd hw
      have hne : s.T q ≠ s.T e := fun y => by rw [y, c3] at k1; omega
      rw [a1 q (heard q k2 hq), updN_a, if_neg hne]
      exact ⟨k1, k2⟩
/-- the edge doesn't work -/
theorem Dv.no {s : SV} {m : Nat} {t : Nat → Nat} {d w e : Nat} (h : Dv s m t d w) (he : (nxE s t d s.n).1 = some e) (hw : w.testBit e = false) : Dv s m t (d ||| 2 ^ e) w := by
  obtain ⟨c1, c2, c3, c4, c5⟩ := nxE_some s t d s.n e he
  obtain ⟨h1, h2, h3, h4, h5, h6⟩ := h
  refine ⟨h1, h2, fun v hv hm hlt => ?_, fun v hv hlt => ?_, fun q hq hd hlt => ?_, fun q hq hd hw2 => ?_⟩
  · obtain ⟨q, q1, q2, q3⟩ := h3 v hv hm hlt
    exact ⟨q, q1, by simp [tb_or, q2], q3⟩
  · have b1 : ∀ k, k ≤ s.n → arr s t e ≤ (nxE s t (d ||| 2 ^ e) k).2 := by
      intro k
      induction k with
      | zero => intro _; show arr s t e ≤ 31; omega
      | succ k ih =>
        intro hk
        unfold nxE
        split
        next g =>
          obtain ⟨g1, g2, g3⟩ := g
          rw [tb_or] at g1
          simp only [Bool.or_eq_false_iff, decide_eq_false_iff_not] at g1
          have := nxE_min s t d s.n k (by omega) g1.1 g2
          rw [c4] at this
          exact this
        next => exact ih (by omega)
    have := h4 v hv hlt
    rw [c4] at this
    exact Nat.le_trans this (b1 s.n (Nat.le_refl _))
  · rw [tb_or] at hd
    simp only [Bool.or_eq_false_iff, decide_eq_false_iff_not] at hd
    exact h5 q hq hd.1 hlt
  · rw [tb_or] at hd
    by_cases z : e = q
    · subst z; rw [hw] at hw2; cases hw2
    · simp only [z, decide_false, Bool.or_false] at hd
      exact h6 q hq hd hw2
end SEARCH
