/-! Candidates, their ranks, beliefs, decoys, how many are possible, values. -/
section RANKS
def bfr (L : Nat → Nat) (u v : Nat) : Prop := L v < L u ∨ (L u = L v ∧ u < v)
theorem rnk_sum (L : Nat → Nat) (v : Nat) : ∀ k, rnk L v k = sumN (fun u => cif (bfr L u v) 1 0) k
  | 0 => rfl
  | k + 1 => by
    show rnk L v k + cif (bfr L k v) 1 0 = _
    rw [rnk_sum L v k]
    rfl
theorem cif_01 (P : Prop) : cif P 1 0 ≤ 1 := by
  by_cases h : P
  · rw [cif_t h]; exact Nat.le_refl _
  · rw [cif_f h]; omega
theorem cif_le {P Q : Prop} (h : P → Q) : cif P 1 0 ≤ cif Q 1 0 := by
  by_cases p : P
  · rw [cif_t p, cif_t (h p)]; exact Nat.le_refl _
  · rw [cif_f p]; exact Nat.zero_le _
theorem cif_le2 {P Q R : Prop} (h : P → R) (h2 : Q → R) (h3 : ¬ (P ∧ Q)) : cif P 1 0 + cif Q 1 0 ≤ cif R 1 0 := by
  by_cases p : P
  · rw [cif_t p, cif_t (h p), cif_f (fun z => h3 ⟨p, z⟩)]; exact Nat.le_refl _
  · rw [cif_f p]
    by_cases q : Q
    · rw [cif_t q, cif_t (h2 q)]; exact Nat.le_refl _
    · rw [cif_f q]; exact Nat.zero_le _
theorem rnk_lt {L : Nat → Nat} {u v : Nat} (hu : u < 8) (h : bfr L u v) : rnk L u 8 < rnk L v 8 := by
  rw [rnk_sum, rnk_sum]
  have h1 : sumN (fun w => cif (bfr L w u) 1 0 + cif (w = u) 1 0) 8 ≤ sumN (fun w => cif (bfr L w v) 1 0) 8 := sumN_le 8 (fun w _ => cif_le2 (fun z => by unfold bfr at *; omega) (fun z => by rw [z]; exact h) (fun z => by obtain ⟨z1, z2⟩ := z; rw [z2] at z1; unfold bfr at z1; omega))
  rw [sumN_add, sumN_one, if_pos hu] at h1
  omega
theorem rnk_inj {L : Nat → Nat} {u v : Nat} (hu : u < 8) (hv : v < 8) (h : rnk L u 8 = rnk L v 8) : u = v := by
  by_cases e : u = v
  · exact e
  · exfalso
    by_cases b : bfr L u v
    · have := rnk_lt hu b; omega
    · have : bfr L v u := by unfold bfr at *; omega
      have := rnk_lt hv this; omega
noncomputable def cntL (L : Nat → Nat) : Nat := sumN (fun w => cif (0 < L w) 1 0) 8
theorem rnk_cnt {L : Nat → Nat} {v : Nat} (hv : v < 8) (h : 0 < L v) : rnk L v 8 < cntL L := by
  unfold cntL
  rw [rnk_sum]
  have h1 : sumN (fun w => cif (bfr L w v) 1 0 + cif (w = v) 1 0) 8 ≤ sumN (fun w => cif (0 < L w) 1 0) 8 := sumN_le 8 (fun w _ => cif_le2 (fun z => by unfold bfr at z; omega) (fun z => by rw [z]; exact h) (fun z => by obtain ⟨z1, z2⟩ := z; rw [z2] at z1; unfold bfr at z1; omega))
  rw [sumN_add, sumN_one, if_pos hv] at h1
  omega
theorem sum_le1 {f : Nat → Nat} : ∀ n, (∀ i, i < n → f i ≤ 1) → sumN f n ≤ n
  | 0, _ => Nat.le_refl _
  | n + 1, h => by
    have h1 := sum_le1 n (fun i hi => h i (by omega))
    have h2 := h n (by omega)
    show sumN f n + f n ≤ n + 1
    omega
theorem sum_eq1 {f : Nat → Nat} : ∀ n, (∀ i, i < n → f i ≤ 1) → sumN f n = n → ∀ i, i < n → f i = 1
  | 0, _, _ => fun i hi => absurd hi (Nat.not_lt_zero i)
  | n + 1, h, e => by
    have h1 := sum_le1 n (fun i hi => h i (by omega))
    have h2 := h n (by omega)
    have e' : sumN f n + f n = n + 1 := e
    intro i hi
    by_cases z : i = n
    · rw [z]; omega
    · exact sum_eq1 n (fun i hi => h i (by omega)) (by omega) i (by omega)
theorem sum_one {P : Nat → Prop} : ∀ n, (∀ u v, u < n → v < n → P u → P v → u = v) → sumN (fun v => cif (P v) 1 0) n ≤ 1
  | 0, _ => Nat.zero_le _
  | n + 1, h => by
    show sumN (fun v => cif (P v) 1 0) n + cif (P n) 1 0 ≤ 1
    by_cases p : P n
    · rw [cif_t p, sumN_zero n (fun i hi => cif_f (fun z => by have := h i n (by omega) (by omega) z p; omega))]
      exact Nat.le_refl _
    · rw [cif_f p]
      have := sum_one (P := P) n (fun u v hu hv => h u v (by omega) (by omega))
      omega
theorem rnk_ex {L : Nat → Nat} {r : Nat} (hr : r < cntL L) : ∃ v, v < 8 ∧ 0 < L v ∧ rnk L v 8 = r := by
  have h1 : sumN (fun q => sumN (fun v => cif (0 < L v ∧ rnk L v 8 = q) 1 0) 8) (cntL L) = cntL L := by
    rw [sumN_swap]
    show _ = sumN (fun w => cif (0 < L w) 1 0) 8
    refine sumN_congr 8 (fun v hv => ?_)
    by_cases p : 0 < L v
    · rw [cif_t p]
      have : sumN (fun q => cif (0 < L v ∧ rnk L v 8 = q) 1 0) (cntL L) = sumN (fun q => cif (q = rnk L v 8) 1 0) (cntL L) := sumN_congr _ (fun q _ => cif_c ⟨fun z => z.2.symm, fun z => ⟨p, z.symm⟩⟩)
      rw [this, sumN_one, if_pos (rnk_cnt hv p)]
    · rw [cif_f p]
      exact sumN_zero _ (fun q _ => cif_f (fun z => p z.1))
  have h2 := sum_eq1 (cntL L) (fun q _ => sum_one 8 (fun u v hu hv z y => rnk_inj hu hv (z.2.trans y.2.symm))) h1 r hr
  obtain ⟨v, hv, h3⟩ := (sumN_pos (f := fun v => cif (0 < L v ∧ rnk L v 8 = r) 1 0) 8).mp (by omega)
  refine ⟨v, hv, ?_⟩
  by_cases p : 0 < L v ∧ rnk L v 8 = r
  · exact p
  · have h3' : 0 < cif (0 < L v ∧ rnk L v 8 = r) 1 0 := h3
    rw [cif_f p] at h3'
    omega
theorem candF_some {L : Nat → Nat} {v : Nat} (hv : v < 8) (h : 0 < L v) : ∀ k i, i + k = 8 → i ≤ v → candF L (nI (rnk L v 8)) k i = nI v := by
  intro k
  induction k with
  | zero => intro i hi h2; omega
  | succ k ih =>
    intro i hi h2
    unfold candF
    have b1 := rnk_le L i 8
    have b2 := rnk_le L v 8
    by_cases e : i = v
    · subst e
      exact cif_t ⟨h, rfl⟩
    · rw [cif_f]
      · exact ih (i + 1) (by omega) (by omega)
      · rintro ⟨-, z⟩
        exact e (rnk_inj (by omega) hv ((eqN (by omega) (by omega)).mp z))
theorem candF_none {L : Nat → Nat} {r : Nat} (hr : r < 2147483648) (h : ∀ v, v < 8 → 0 < L v → rnk L v 8 ≠ r) : ∀ k i, i + k = 8 → candF L (nI r) k i = -2 := by
  intro k
  induction k with
  | zero => intro i hi; rfl
  | succ k ih =>
    intro i hi
    unfold candF
    have b1 := rnk_le L i 8
    rw [cif_f]
    · exact ih (i + 1) (by omega)
    · rintro ⟨z, y⟩
      exact h i (by omega) z ((eqN (by omega) (by omega)).mp y)
theorem cntC_L (s : SV) : cntC s 8 = cntL (LSt s) := by
  have h : ∀ k, cntC s k = sumN (fun w => cif (0 < LSt s w) 1 0) k := by
    intro k
    induction k with
    | zero => rfl
    | succ k ih =>
      show cntC s k + cif (0 < LSt s k) 1 0 = _
      rw [ih]
      rfl
  exact h 8
theorem cand_ex {s : SV} {r : Nat} (hr : r < cntC s 8) : ∃ v, v < 8 ∧ 0 < LSt s v ∧ rnk (LSt s) v 8 = r ∧ candF (LSt s) (nI r) 8 0 = nI v := by
  rw [cntC_L] at hr
  obtain ⟨v, h1, h2, h3⟩ := rnk_ex hr
  refine ⟨v, h1, h2, h3, ?_⟩
  rw [← h3]
  exact candF_some h1 h2 8 0 (by omega) (by omega)
theorem cand_no (s : SV) : candF (LSt s) (nI (cntC s 8)) 8 0 = -2 := by
  refine candF_none ?_ (fun v hv hp z => ?_) 8 0 (by omega)
  · have := cntC_le s 8; omega
  · have := rnk_cnt hv hp
    rw [← cntC_L] at this
    omega
/-- beliefs -/
noncomputable def bel (s : SV) (v : Nat) : Nat := 1000 * LSt s v / sumN (LSt s) 8
theorem bel_mono {s : SV} {u v : Nat} (h : LSt s u ≤ LSt s v) : bel s u ≤ bel s v := Nat.div_le_div_right (Nat.mul_le_mul_left _ h)
theorem bel_0 {s : SV} {v : Nat} (h : LSt s v = 0) : bel s v = 0 := by
  unfold bel
  rw [h, Nat.mul_zero, Nat.zero_div]
theorem sumN_mulL {f : Nat → Nat} (c k : Nat) : sumN (fun i => c * f i) k = c * sumN f k := by
  rw [Nat.mul_comm, ← sumN_mul]
  exact sumN_congr _ (fun i _ => Nat.mul_comm _ _)
theorem bel_sum (s : SV) : sumN (bel s) 8 ≤ 1000 := by
  by_cases h : sumN (LSt s) 8 = 0
  · have : sumN (bel s) 8 = 0 := sumN_zero 8 (fun v _ => by unfold bel; rw [h, Nat.div_zero])
    omega
  · have h1 : sumN (bel s) 8 * sumN (LSt s) 8 ≤ 1000 * sumN (LSt s) 8 := by
      rw [← sumN_mul, ← sumN_mulL]
      exact sumN_le 8 (fun v _ => Nat.div_mul_le_self _ _)
    exact Nat.le_of_mul_le_mul_right h1 (by omega)
theorem bel_low {s : SV} (h : 0 < cntC s 8) : 991 < sumN (bel s) 8 := by
  have hT : 0 < sumN (LSt s) 8 := by
    rw [cntC_L] at h
    obtain ⟨v, hv, hp⟩ := (sumN_pos 8).mp h
    refine (sumN_pos 8).mpr ⟨v, hv, ?_⟩
    by_cases p : 0 < LSt s v
    · exact p
    · rw [cif_f p] at hp; omega
  have h1 : sumN (fun v => 1000 * LSt s v + 1) 8 ≤ sumN (fun v => (bel s v + 1) * sumN (LSt s) 8) 8 := sumN_le 8 (fun v _ => by
    have := Nat.lt_div_mul_add (a := 1000 * LSt s v) hT
    show _ ≤ (bel s v + 1) * sumN (LSt s) 8
    rw [Nat.add_mul, Nat.one_mul]
    unfold bel
    omega)
  rw [sumN_mul, sumN_add, sumN_add, sumN_mulL] at h1
  have e8 : sumN (fun _ => 1) 8 = 8 := rfl
  rw [e8] at h1
  refine Classical.byContradiction fun z => ?_
  have h2 : (sumN (bel s) 8 + 8) * sumN (LSt s) 8 ≤ 1000 * sumN (LSt s) 8 := Nat.mul_le_mul_right _ (by omega)
  omega
theorem bel_none {s : SV} (h : cntC s 8 = 0) : sumN (bel s) 8 = 0 := by
  refine sumN_zero 8 (fun v hv => bel_0 ?_)
  apply Nat.eq_zero_of_not_pos
  intro p
  have := rnk_cnt (L := LSt s) hv p
  rw [← cntC_L] at this
  omega
theorem bel_le (s : SV) {v : Nat} (hv : v < 8) : bel s v ≤ 1000 := by
  have h1 := bel_sum s
  have h2 : sumN (fun u => cif (u = v) (bel s v) 0) 8 ≤ sumN (bel s) 8 := sumN_le 8 (fun u _ => by
    by_cases z : u = v
    · rw [cif_t z, z]; exact Nat.le_refl _
    · rw [cif_f z]; exact Nat.zero_le _)
  rw [sumN_one, if_pos hv] at h2
  omega
/-- decoys -/
theorem decF_ok (s : SV) (v : Nat) : ∀ k t, (decF s v k).1 = some t → t < k ∧ t ≠ v ∧ 0 < LK s (2 ^ v ||| 2 ^ t)
  | 0, t, h => by cases h
  | k + 1, t, h => by
    unfold decF at h
    by_cases z : k ≠ v ∧ (decF s v k).2 < LK s (2 ^ v ||| 2 ^ k)
    · rw [cif_t z] at h
      cases h
      exact ⟨by omega, z.1, by omega⟩
    · rw [cif_f z] at h
      obtain ⟨h1, h2⟩ := decF_ok s v k t h
      exact ⟨by omega, h2⟩
/-- how many are possible -/
theorem posI_le (s : SV) (u : Nat) : ∀ k, posI s u k ≤ k
  | 0 => Nat.le_refl _
  | k + 1 => by
    have h1 := posI_le s u k
    have h2 := cif_01 (0 < LK s (2 ^ u ||| 2 ^ (u + k)))
    show posI s u k + cif (0 < LK s (2 ^ u ||| 2 ^ (u + k))) 1 0 ≤ k + 1
    omega
theorem posI_ge (s : SV) (u : Nat) : ∀ k, cif (0 < LSt s u) 1 0 ≤ posI s u (k + 1)
  | 0 => by
    show _ ≤ 0 + cif (0 < LK s (2 ^ u ||| 2 ^ (u + 0))) 1 0
    rw [Nat.add_zero, Nat.or_self, Nat.zero_add]
    exact Nat.le_refl _
  | k + 1 => by
    have h1 := posI_ge s u k
    show _ ≤ posI s u (k + 1) + cif (0 < LK s (2 ^ u ||| 2 ^ (u + (k + 1)))) 1 0
    omega
theorem posA_le (s : SV) : posA s 8 ≤ 36 := by
  have h0 := posI_le s 0 8; have h1 := posI_le s 1 7; have h2 := posI_le s 2 6; have h3 := posI_le s 3 5
  have h4 := posI_le s 4 4; have h5 := posI_le s 5 3; have h6 := posI_le s 6 2; have h7 := posI_le s 7 1
  show ((((((((0 + posI s 0 8) + posI s 1 7) + posI s 2 6) + posI s 3 5) + posI s 4 4) + posI s 5 3) + posI s 6 2) + posI s 7 1) ≤ 36
  omega
theorem posA_ge (s : SV) : ∀ u, u ≤ 8 → cntC s u ≤ posA s u
  | 0, _ => Nat.le_refl _
  | u + 1, h => by
    have h1 := posA_ge s u (by omega)
    have h2 := posI_ge s u (8 - u - 1)
    rw [show 8 - u - 1 + 1 = 8 - u by omega] at h2
    show cntC s u + cif (0 < LSt s u) 1 0 ≤ posA s u + posI s u (8 - u)
    omega
theorem posI_all {s : SV} {u : Nat} : ∀ k, (∀ i, i < k → 0 < LK s (2 ^ u ||| 2 ^ (u + i))) → posI s u k = k
  | 0, _ => rfl
  | k + 1, h => by
    show posI s u k + cif (0 < LK s (2 ^ u ||| 2 ^ (u + k))) 1 0 = k + 1
    rw [posI_all k (fun i hi => h i (by omega)), cif_t (h k (by omega))]
/-- values -/
theorem cnt_pos {s : SV} : 0 < cntC s 8 ↔ ∃ u, u < 8 ∧ 0 < LSt s u := by
  rw [cntC_L]
  unfold cntL
  rw [sumN_pos]
  constructor
  · rintro ⟨u, hu, h⟩
    refine ⟨u, hu, ?_⟩
    by_cases p : 0 < LSt s u
    · exact p
    · rw [cif_f p] at h; omega
  · rintro ⟨u, hu, h⟩
    exact ⟨u, hu, by rw [cif_t h]; omega⟩
theorem values_N {s : SV} (hW : WE s) {v : Nat} (hv : v < 8) : ∃ q : Nat, q ≤ 32 ∧ bcF (lN (metS s v 8)) = nI q ∧ (0 < q ↔ 0 < cntC s 8) := by
  refine ⟨_, ?_, bcF_pop (metS_lt s v 8), ?_⟩
  · exact sum_le1 32 (fun k _ => by omega)
  · rw [sumN_pos, cnt_pos]
    constructor
    · rintro ⟨k, hk, h⟩
      have hb : (metS s v 8).testBit k = true := by
        rw [Nat.testBit_eq_decide_div_mod_eq]
        exact decide_eq_true (by omega)
      obtain ⟨-, u, hu, o, ⟨h1, h2, h3, h4⟩, -⟩ := (setN_bit _ 32 k).mp hb
      exact ⟨u, hu, LK_pos.mpr ⟨o, h1, h3, h4⟩⟩
    · rintro ⟨u, hu, h⟩
      obtain ⟨o, h1, h3, h4⟩ := LK_pos.mp h
      have h31 := tau_31 hW (2 ^ u) o hv
      have hb : (metS s v 8).testBit (tau s (2 ^ u) o v) = true := (setN_bit _ 32 _).mpr ⟨by omega, u, hu, o, ⟨h1, agr0 s 0 o, h3, h4⟩, rfl⟩
      rw [Nat.testBit_eq_decide_div_mod_eq] at hb
      have := of_decide_eq_true hb
      exact ⟨_, (by omega : tau s (2 ^ u) o v < 32), by omega⟩
end RANKS
