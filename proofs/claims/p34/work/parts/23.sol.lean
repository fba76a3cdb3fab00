/-! When each node hears the rumour: the one solution of the edges' inequalities. -/
section SOL
def Sol (s : SV) (m o : Nat) (t : Nat → Nat) : Prop := (∀ v, v < 8 → t v ≤ 31) ∧ (∀ v, v < 8 → m.testBit v = true → t v = 0) ∧ (∀ e, e < s.n → o.testBit e = true → t (s.T e) ≤ arr s t e) ∧ ∀ v, v < 8 → m.testBit v = false → t v < 31 → ∃ e, e < s.n ∧ o.testBit e = true ∧ s.T e = v ∧ t v = arr s t e
/-- what every stage of the rounds keeps -/
def Inv (s : SV) (m o : Nat) (t : Nat → Nat) : Prop := (∀ v, v < 8 → t v ≤ 31) ∧ (∀ v, v < 8 → m.testBit v = true → t v = 0) ∧ ∀ v, v < 8 → m.testBit v = false → t v < 31 → ∃ e, e < s.n ∧ o.testBit e = true ∧ s.T e = v ∧ arr s t e ≤ t v
theorem arr_mono {s : SV} {t t' : Nat → Nat} {e : Nat} (h : t (s.F e) ≤ t' (s.F e)) (hH : s.H ≤ 30) (h31 : t' (s.F e) ≤ 31) : arr s t e ≤ arr s t' e := by
  have h1 := arr_le hH t e
  unfold arr at *
  by_cases a : t' (s.F e) = 31
  · rw [if_pos a]; exact h1
  · rw [if_neg a, if_neg (by omega)]
    by_cases b : t' (s.F e) + s.D e ≤ s.H
    · rw [if_pos b, if_pos (by omega)]; omega
    · rw [if_neg b]
      split
      · omega
      · omega
theorem arr_lt {s : SV} {t : Nat → Nat} {e : Nat} (hD : 1 ≤ s.D e) (h : arr s t e < 31) : t (s.F e) < arr s t e ∧ arr s t e = t (s.F e) + s.D e ∧ arr s t e ≤ s.H := by
  unfold arr at *
  by_cases a : t (s.F e) = 31
  · rw [if_pos a] at h; omega
  · rw [if_neg a] at h ⊢
    by_cases b : t (s.F e) + s.D e ≤ s.H
    · rw [if_pos b]; omega
    · rw [if_neg b] at h; omega
theorem Sol.le {s : SV} {m o : Nat} {t t' : Nat → Nat} (hW : WE s) (h : Sol s m o t) (h' : Sol s m o t') : ∀ (k v : Nat), v < 8 → t' v = k → t v ≤ t' v := by
  intro k
  induction k using Nat.strongRecOn with
  | ind k ih =>
    intro v hv hk
    cases hm : m.testBit v with
    | true => rw [h.2.1 v hv hm]; omega
    | false =>
      by_cases h31 : t' v < 31
      · obtain ⟨e, he, ho, hT, hE⟩ := h'.2.2.2 v hv hm h31
        obtain ⟨f1, f2, f3, f4, f5⟩ := hW.2.1 e he
        obtain ⟨g1, g2, g3⟩ := arr_lt f4 (t := t') (by omega)
        have h1 := ih (t' (s.F e)) (by omega) (s.F e) f1 rfl
        have h2 := h.2.2.1 e he ho
        have h3 := arr_mono (t := t) (t' := t') (e := e) h1 hW.2.2 (h'.1 _ f1)
        rw [hT] at h2
        omega
      · have := h.1 v hv; omega
theorem Sol.uniq {s : SV} {m o : Nat} {t t' : Nat → Nat} (hW : WE s) (h : Sol s m o t) (h' : Sol s m o t') : ∀ v, v < 8 → t v = t' v := fun v hv => Nat.le_antisymm (h.le hW h' _ v hv rfl) (h'.le hW h _ v hv rfl)
theorem Inv.init (s : SV) (m o : Nat) : Inv s m o (t0 m) := by
  refine ⟨fun v _ => ?_, fun v _ h => ?_, fun v _ h h2 => ?_⟩
  · unfold t0; split <;> omega
  · unfold t0; rw [if_pos h]
  · unfold t0 at h2; rw [if_neg (by rw [h]; decide)] at h2; omega
theorem relax_le (s : SV) (o : Nat) (t : Nat → Nat) (e v : Nat) : relax s o t e v ≤ t v := by
  unfold relax
  split
  next h =>
    rw [updN_a]
    split
    next g => rw [g]; omega
    next => exact Nat.le_refl _
  next => exact Nat.le_refl _
theorem Inv.rlx {s : SV} {m o : Nat} {t : Nat → Nat} (hW : WE s) (h : Inv s m o t) {e : Nat} (he : e < s.n) : Inv s m o (relax s o t e) := by
  obtain ⟨h1, h2, h3⟩ := h
  have hle := relax_le s o t e
  by_cases hc : o.testBit e = true ∧ arr s t e < t (s.T e)
  · have hr : relax s o t e = updN t (s.T e) (arr s t e) := by
      unfold relax; rw [if_pos hc]
    rw [hr] at hle ⊢
    refine ⟨fun v hv => Nat.le_trans (hle v) (h1 v hv), fun v hv hm => ?_, fun v hv hm hlt => ?_⟩
    · have := hle v; rw [h2 v hv hm] at this; omega
    · by_cases hvT : v = s.T e
      · refine ⟨e, he, hc.1, hvT.symm, ?_⟩
        have e1 : updN t (s.T e) (arr s t e) v = arr s t e := by rw [updN_a, if_pos hvT]
        rw [e1]
        exact arr_mono (hle _) hW.2.2 (h1 _ (hW.2.1 e he).1)
      · have e1 : updN t (s.T e) (arr s t e) v = t v := by rw [updN_a, if_neg hvT]
        rw [e1] at hlt ⊢
        obtain ⟨q, q1, q2, q3, q4⟩ := h3 v hv hm hlt
        exact ⟨q, q1, q2, q3, Nat.le_trans (arr_mono (hle _) hW.2.2 (h1 _ (hW.2.1 q q1).1)) q4⟩
  · have hr : relax s o t e = t := by
      unfold relax; rw [if_neg hc]
    rw [hr]
    exact ⟨h1, h2, h3⟩
/-- the sum of the times -/
def sumT (t : Nat → Nat) : Nat := t 0 + t 1 + t 2 + t 3 + t 4 + t 5 + t 6 + t 7
theorem sumT_lt {t t' : Nat → Nat} (h : ∀ v, t' v ≤ t v) {u : Nat} (hu : u < 8) (hlt : t' u < t u) : sumT t' < sumT t := by
  have a0 := h 0; have a1 := h 1; have a2 := h 2; have a3 := h 3; have a4 := h 4; have a5 := h 5; have a6 := h 6; have a7 := h 7
  unfold sumT
  rcases (by omega : u = 0 ∨ u = 1 ∨ u = 2 ∨ u = 3 ∨ u = 4 ∨ u = 5 ∨ u = 6 ∨ u = 7) with rfl | rfl | rfl | rfl | rfl | rfl | rfl | rfl <;> omega
theorem Inv.stable {s : SV} {m o : Nat} {t : Nat → Nat} (h : Inv s m o t) (hs : ∀ e, e < s.n → ¬ (o.testBit e = true ∧ arr s t e < t (s.T e))) : Sol s m o t := by
  obtain ⟨h1, h2, h3⟩ := h
  refine ⟨h1, h2, fun e he ho => ?_, fun v hv hm hlt => ?_⟩
  · have := hs e he
    exact Nat.not_lt.mp (fun z => this ⟨ho, z⟩)
  · obtain ⟨e, e1, e2, e3, e4⟩ := h3 v hv hm hlt
    refine ⟨e, e1, e2, e3, ?_⟩
    have := hs e e1
    have h5 : ¬ arr s t e < t (s.T e) := fun z => this ⟨e2, z⟩
    rw [e3] at h5
    omega
theorem Sol.exists {s : SV} {m o : Nat} (hW : WE s) : ∀ (k : Nat) (t : Nat → Nat), sumT t = k → Inv s m o t → ∃ t', Sol s m o t' := by
  intro k
  induction k using Nat.strongRecOn with
  | ind k ih =>
    intro t hk hI
    by_cases hs : ∃ e, e < s.n ∧ (o.testBit e = true ∧ arr s t e < t (s.T e))
    · obtain ⟨e, he, hc⟩ := hs
      have hT := (hW.2.1 e he).2.1
      refine ih (sumT (relax s o t e)) ?_ _ rfl (hI.rlx hW he)
      rw [← hk]
      refine sumT_lt (relax_le s o t e) hT ?_
      unfold relax
      rw [if_pos hc, updN_a, if_pos rfl]
      exact hc.2
    · exact ⟨t, hI.stable (fun e he hc => hs ⟨e, he, hc⟩)⟩
theorem rnd_inv {s : SV} {m o : Nat} (hW : WE s) {t : Nat → Nat} (h : Inv s m o t) : ∀ k, k ≤ s.n → Inv s m o (rnd s o t k)
  | 0, _ => h
  | k + 1, hk => (rnd_inv hW h k (by omega)).rlx hW (by omega)
theorem folR_inv {s : SV} {m o : Nat} (hW : WE s) : ∀ r, Inv s m o (folR s m o r)
  | 0 => Inv.init s m o
  | r + 1 => rnd_inv hW (folR_inv hW r) s.n (Nat.le_refl _)
theorem rnd_le (s : SV) (o : Nat) (t : Nat → Nat) : ∀ k v, rnd s o t k v ≤ t v
  | 0, _ => Nat.le_refl _
  | k + 1, v => Nat.le_trans (relax_le s o (rnd s o t k) k v) (rnd_le s o t k v)
/-- no stage falls below the solution -/
theorem relax_ge {s : SV} {m o : Nat} {t τ : Nat → Nat} (hW : WE s) (hτ : Sol s m o τ) (h31 : ∀ v, v < 8 → t v ≤ 31) (h : ∀ v, v < 8 → τ v ≤ t v) {e : Nat} (he : e < s.n) : ∀ v, v < 8 → τ v ≤ relax s o t e v := by
  intro v hv
  unfold relax
  split
  next hc =>
    rw [updN_a]
    split
    next g =>
      rw [g]
      have f1 := (hW.2.1 e he).1
      exact Nat.le_trans (hτ.2.2.1 e he hc.1) (arr_mono (h _ f1) hW.2.2 (h31 _ f1))
    next => exact h v hv
  next => exact h v hv
theorem rnd_ge {s : SV} {m o : Nat} {t τ : Nat → Nat} (hW : WE s) (hτ : Sol s m o τ) (hI : Inv s m o t) (h : ∀ v, v < 8 → τ v ≤ t v) : ∀ k, k ≤ s.n → ∀ v, v < 8 → τ v ≤ rnd s o t k v
  | 0, _ => h
  | k + 1, hk => relax_ge hW hτ (rnd_inv hW hI k (by omega)).1 (rnd_ge hW hτ hI h k (by omega)) (by omega)
/-- how many nodes have a lesser time -/
def rk (τ : Nat → Nat) (v : Nat) : Nat := (if τ 0 < τ v then 1 else 0) + (if τ 1 < τ v then 1 else 0) + (if τ 2 < τ v then 1 else 0) + (if τ 3 < τ v then 1 else 0) + (if τ 4 < τ v then 1 else 0) + (if τ 5 < τ v then 1 else 0) + (if τ 6 < τ v then 1 else 0) + (if τ 7 < τ v then 1 else 0)
theorem ind_le {a b c : Nat} (h : b ≤ c) : (if a < b then 1 else 0) ≤ (if a < c then (1 : Nat) else 0) := by
  split
  · rw [if_pos (by omega)]; omega
  · omega
theorem ind_lt {b c : Nat} (h : b < c) : (if b < b then 1 else 0) + 1 ≤ (if b < c then (1 : Nat) else 0) := by
  rw [if_neg (by omega), if_pos h]; omega
theorem rk_lt {τ : Nat → Nat} {u v : Nat} (hu : u < 8) (h : τ u < τ v) : rk τ u < rk τ v := by
  have a0 := ind_le (a := τ 0) (Nat.le_of_lt h); have a1 := ind_le (a := τ 1) (Nat.le_of_lt h); have a2 := ind_le (a := τ 2) (Nat.le_of_lt h); have a3 := ind_le (a := τ 3) (Nat.le_of_lt h)
  have a4 := ind_le (a := τ 4) (Nat.le_of_lt h); have a5 := ind_le (a := τ 5) (Nat.le_of_lt h); have a6 := ind_le (a := τ 6) (Nat.le_of_lt h); have a7 := ind_le (a := τ 7) (Nat.le_of_lt h)
  have b := ind_lt h
  unfold rk
  rcases (by omega : u = 0 ∨ u = 1 ∨ u = 2 ∨ u = 3 ∨ u = 4 ∨ u = 5 ∨ u = 6 ∨ u = 7) with rfl | rfl | rfl | rfl | rfl | rfl | rfl | rfl <;> omega
theorem ind_1 (a b : Nat) : (if a < b then 1 else 0) ≤ (1 : Nat) := by split <;> omega
theorem rk_7 {τ : Nat → Nat} {v : Nat} (hv : v < 8) : rk τ v ≤ 7 := by
  have a0 := ind_1 (τ 0) (τ v); have a1 := ind_1 (τ 1) (τ v); have a2 := ind_1 (τ 2) (τ v); have a3 := ind_1 (τ 3) (τ v); have a4 := ind_1 (τ 4) (τ v); have a5 := ind_1 (τ 5) (τ v); have a6 := ind_1 (τ 6) (τ v); have a7 := ind_1 (τ 7) (τ v)
  have b : (if τ v < τ v then 1 else 0) = (0 : Nat) := if_neg (by omega)
  unfold rk
  rcases (by omega : v = 0 ∨ v = 1 ∨ v = 2 ∨ v = 3 ∨ v = 4 ∨ v = 5 ∨ v = 6 ∨ v = 7) with rfl | rfl | rfl | rfl | rfl | rfl | rfl | rfl <;> omega
theorem folR_right {s : SV} {m o : Nat} {τ : Nat → Nat} (hW : WE s) (hτ : Sol s m o τ) : ∀ r, (∀ v, v < 8 → τ v ≤ folR s m o r v) ∧ ∀ v, v < 8 → rk τ v ≤ r → folR s m o r v = τ v := by
  intro r
  induction r with
  | zero =>
    have hge : ∀ v, v < 8 → τ v ≤ folR s m o 0 v := by
      intro v hv
      show τ v ≤ t0 m v
      unfold t0
      split
      next h => rw [hτ.2.1 v hv h]; omega
      next => exact hτ.1 v hv
    refine ⟨hge, fun v hv hr => ?_⟩
    have h1 := hge v hv
    cases hm : m.testBit v with
    | true =>
      have : folR s m o 0 v = 0 := by show t0 m v = 0; unfold t0; rw [if_pos hm]
      rw [this, hτ.2.1 v hv hm]
    | false =>
      have e0 : folR s m o 0 v = 31 := by show t0 m v = 31; unfold t0; rw [if_neg (by rw [hm]; decide)]
      by_cases hlt : τ v < 31
      · obtain ⟨e, he, ho, hT, hE⟩ := hτ.2.2.2 v hv hm hlt
        obtain ⟨f1, f2, f3, f4, f5⟩ := hW.2.1 e he
        obtain ⟨g1, g2, g3⟩ := arr_lt f4 (t := τ) (by omega)
        have := rk_lt (τ := τ) (v := v) f1 (by omega)
        omega
      · have := hτ.1 v hv; omega
  | succ r ih =>
    obtain ⟨ih1, ih2⟩ := ih
    have hI := folR_inv (s := s) (m := m) (o := o) hW r
    have hge : ∀ v, v < 8 → τ v ≤ folR s m o (r + 1) v := rnd_ge hW hτ hI ih1 s.n (Nat.le_refl _)
    refine ⟨hge, fun v hv hr => ?_⟩
    have h1 := hge v hv
    have hle : folR s m o (r + 1) v ≤ folR s m o r v := rnd_le s o _ s.n v
    cases hm : m.testBit v with
    | true => rw [(folR_inv hW (r + 1)).2.1 v hv hm, hτ.2.1 v hv hm]
    | false =>
      by_cases hlt : τ v < 31
      · obtain ⟨e, he, ho, hT, hE⟩ := hτ.2.2.2 v hv hm hlt
        obtain ⟨f1, f2, f3, f4, f5⟩ := hW.2.1 e he
        obtain ⟨g1, g2, g3⟩ := arr_lt f4 (t := τ) (by omega)
        have hrk := rk_lt (τ := τ) (v := v) f1 (by omega)
        have hF := ih2 (s.F e) f1 (by omega)
        have key : ∀ k, e < k → k ≤ s.n → rnd s o (folR s m o r) k v ≤ τ v := by
          intro k
          induction k with
          | zero => intro h; omega
          | succ k ihk =>
            intro hek hk
            by_cases hek2 : e = k
            · subst hek2
              have e1 : rnd s o (folR s m o r) e (s.F e) = τ (s.F e) := Nat.le_antisymm (by have := rnd_le s o (folR s m o r) e (s.F e); omega) (rnd_ge hW hτ hI ih1 e (by omega) _ f1)
              have e2 : arr s (rnd s o (folR s m o r) e) e = arr s τ e := by unfold arr; rw [e1]
              show relax s o (rnd s o (folR s m o r) e) e v ≤ τ v
              unfold relax
              split
              next hc =>
                rw [updN_a, if_pos hT.symm, e2]; omega
              next hc =>
                have h5 : ¬ arr s (rnd s o (folR s m o r) e) e < rnd s o (folR s m o r) e (s.T e) := fun z => hc ⟨ho, z⟩
                rw [hT, e2] at h5
                omega
            · exact Nat.le_trans (relax_le s o _ k v) (ihk (by omega) (by omega))
        have := key s.n he (Nat.le_refl _)
        exact Nat.le_antisymm this h1
      · have h2 := hτ.1 v hv
        have h3 := (folR_inv (s := s) (m := m) (o := o) hW (r + 1)).1 v hv
        omega
theorem tau_sol {s : SV} (hW : WE s) (m o : Nat) : Sol s m o (tau s m o) := by
  obtain ⟨τ, hτ⟩ := Sol.exists hW _ (t0 m) rfl (Inv.init s m o)
  have h := folR_right hW hτ 7
  have e : ∀ v, v < 8 → tau s m o v = τ v := fun v hv => h.2 v hv (rk_7 hv)
  have ea : ∀ q, q < s.n → arr s (tau s m o) q = arr s τ q := fun q hq => by unfold arr; rw [e _ (hW.2.1 q hq).1]
  refine ⟨fun v hv => by rw [e v hv]; exact hτ.1 v hv, fun v hv hm => by rw [e v hv]; exact hτ.2.1 v hv hm, fun q hq ho => by rw [e _ (hW.2.1 q hq).2.1, ea q hq]; exact hτ.2.2.1 q hq ho, fun v hv hm hlt => ?_⟩
  rw [e v hv] at hlt ⊢
  obtain ⟨q, q1, q2, q3, q4⟩ := hτ.2.2.2 v hv hm hlt
  exact ⟨q, q1, q2, q3, by rw [ea q q1]; exact q4⟩
end SOL
