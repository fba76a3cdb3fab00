/-! Sums over outcomes. -/
section SUMS
def sumN (f : Nat → Nat) : Nat → Nat
  | 0 => 0
  | k + 1 => sumN f k + f k
theorem sumN_congr {f g : Nat → Nat} : ∀ k, (∀ i, i < k → f i = g i) → sumN f k = sumN g k
  | 0, _ => rfl
  | k + 1, h => by
    unfold sumN
    rw [sumN_congr k (fun i hi => h i (by omega)), h k (by omega)]
theorem sumN_add {f g : Nat → Nat} : ∀ k, sumN (fun i => f i + g i) k = sumN f k + sumN g k
  | 0 => rfl
  | k + 1 => by
    unfold sumN
    rw [sumN_add k]
    omega
theorem sumN_zero {f : Nat → Nat} : ∀ k, (∀ i, i < k → f i = 0) → sumN f k = 0
  | 0, _ => rfl
  | k + 1, h => by
    unfold sumN
    rw [sumN_zero k (fun i hi => h i (by omega)), h k (by omega)]
theorem sumN_app {f : Nat → Nat} (a : Nat) : ∀ b, sumN f (a + b) = sumN f a + sumN (fun i => f (a + i)) b
  | 0 => rfl
  | b + 1 => by
    show sumN f (a + b) + f (a + b) = _
    rw [sumN_app a b]
    show _ = sumN f a + (sumN (fun i => f (a + i)) b + f (a + b))
    omega
theorem sumN_le {f g : Nat → Nat} : ∀ k, (∀ i, i < k → f i ≤ g i) → sumN f k ≤ sumN g k
  | 0, _ => Nat.le_refl _
  | k + 1, h => Nat.add_le_add (sumN_le k (fun i hi => h i (by omega))) (h k (by omega))
theorem sumN_mul {f : Nat → Nat} (c : Nat) : ∀ k, sumN (fun i => f i * c) k = sumN f k * c
  | 0 => by simp [sumN]
  | k + 1 => by
    unfold sumN
    rw [sumN_mul c k, Nat.add_mul]
theorem sumN_pos {f : Nat → Nat} : ∀ k, (0 < sumN f k ↔ ∃ i, i < k ∧ 0 < f i)
  | 0 => ⟨fun h => absurd h (Nat.lt_irrefl 0), fun ⟨i, h, _⟩ => absurd h (Nat.not_lt_zero i)⟩
  | k + 1 => by
    unfold sumN
    have ih := sumN_pos (f := f) k
    constructor
    · intro h
      by_cases z : 0 < f k
      · exact ⟨k, by omega, z⟩
      · obtain ⟨i, h1, h2⟩ := ih.mp (by omega)
        exact ⟨i, by omega, h2⟩
    · rintro ⟨i, h1, h2⟩
      by_cases z : i = k
      · rw [z] at h2; omega
      · have := ih.mpr ⟨i, by omega, h2⟩; omega
/-- bits of a number below 2^k, and with the bit k -/
theorem tb_hi {i k : Nat} (h : i < 2 ^ k) : i.testBit k = false := Nat.testBit_lt_two_pow h
theorem tb_add_lo {i k e : Nat} (he : e < k) : (2 ^ k + i).testBit e = i.testBit e := Nat.testBit_two_pow_add_gt he i
theorem tb_add_hi {i k : Nat} (h : i < 2 ^ k) : (2 ^ k + i).testBit k = true := by rw [Nat.testBit_two_pow_add_eq, tb_hi h]; rfl
/-- the weight looks at the low bits alone -/
theorem wtN_congr {W : Nat → Nat} {o o' : Nat} : ∀ k, (∀ e, e < k → o.testBit e = o'.testBit e) → wtN W o k = wtN W o' k
  | 0, _ => rfl
  | k + 1, h => by
    unfold wtN
    rw [wtN_congr k (fun e he => h e (by omega)), h k (by omega)]
/-- what agreeing outcomes weigh together, edges below k -/
def pwU (W : Nat → Nat) (d w : Nat) : Nat → Nat
  | 0 => 1
  | k + 1 => pwU W d w k * (if d.testBit k then (if w.testBit k then W k else 10 - W k) else 10)
def agrK (d w o k : Nat) : Prop := ∀ e, e < k → d.testBit e = true → o.testBit e = w.testBit e
theorem agrK_s {d w o k : Nat} : agrK d w o (k + 1) ↔ agrK d w o k ∧ (d.testBit k = true → o.testBit k = w.testBit k) :=
  ⟨fun h => ⟨fun e he => h e (by omega), h k (by omega)⟩, fun h e he => by
    by_cases z : e = k
    · rw [z]; exact h.2
    · exact h.1 e (by omega)⟩
theorem agrK_congr {d w o o' k : Nat} (h : ∀ e, e < k → o.testBit e = o'.testBit e) : agrK d w o k ↔ agrK d w o' k :=
  ⟨fun g e he hd => by rw [← h e he]; exact g e he hd, fun g e he hd => by rw [h e he]; exact g e he hd⟩
theorem cif_c {α : Type} {P Q : Prop} {a b : α} (h : P ↔ Q) : cif P a b = cif Q a b := by rw [propext h]
theorem sum_agr {W : Nat → Nat} {d w n : Nat} (hW : ∀ e, e < n → W e ≤ 10) : ∀ k, k ≤ n → sumN (fun o => cif (agrK d w o k) (wtN W o k) 0) (2 ^ k) = pwU W d w k
  | 0, _ => by
    show 0 + cif (agrK d w 0 0) 1 0 = 1
    rw [cif_t (P := agrK d w 0 0) (fun e he => absurd he (Nat.not_lt_zero e))]
  | k + 1, hk => by
    have ih := sum_agr (d := d) (w := w) hW k (by omega)
    have hWk := hW k (by omega)
    have e2 : 2 ^ (k + 1) = 2 ^ k + 2 ^ k := by rw [Nat.pow_succ]; omega
    rw [e2, sumN_app]
    have lo : sumN (fun o => cif (agrK d w o (k + 1)) (wtN W o (k + 1)) 0) (2 ^ k) = sumN (fun o => cif (agrK d w o k) (wtN W o k) 0 * (if d.testBit k = true ∧ w.testBit k = true then 0 else 10 - W k)) (2 ^ k) := by
      refine sumN_congr _ (fun o ho => ?_)
      have ht := tb_hi ho
      have e3 : wtN W o (k + 1) = wtN W o k * (10 - W k) := by
        show wtN W o k * (if o.testBit k then W k else 10 - W k) = _
        rw [ht]; rfl
      by_cases c : d.testBit k = true ∧ w.testBit k = true
      · rw [if_pos c, Nat.mul_zero]
        exact cif_f (fun z => by
          have := (agrK_s.mp z).2 c.1
          rw [ht, c.2] at this
          cases this)
      · rw [if_neg c]
        by_cases a : agrK d w o k
        · rw [cif_t a, cif_t (agrK_s.mpr ⟨a, fun hd => by
            rw [ht]
            cases hw : w.testBit k with
            | true => exact absurd ⟨hd, hw⟩ c
            | false => rfl⟩), e3]
        · rw [cif_f a, cif_f (fun z => a (agrK_s.mp z).1), Nat.zero_mul]
    have hi : sumN (fun o => cif (agrK d w (2 ^ k + o) (k + 1)) (wtN W (2 ^ k + o) (k + 1)) 0) (2 ^ k) = sumN (fun o => cif (agrK d w o k) (wtN W o k) 0 * (if d.testBit k = true ∧ w.testBit k = false then 0 else W k)) (2 ^ k) := by
      refine sumN_congr _ (fun o ho => ?_)
      have ht := tb_add_hi ho
      have hlo : ∀ e, e < k → (2 ^ k + o).testBit e = o.testBit e := fun e he => tb_add_lo he
      have e3 : wtN W (2 ^ k + o) (k + 1) = wtN W o k * W k := by
        show wtN W (2 ^ k + o) k * (if (2 ^ k + o).testBit k then W k else 10 - W k) = _
        rw [ht, wtN_congr k hlo]; rfl
      by_cases c : d.testBit k = true ∧ w.testBit k = false
      · rw [if_pos c, Nat.mul_zero]
        exact cif_f (fun z => by
          have := (agrK_s.mp z).2 c.1
          rw [ht, c.2] at this
          cases this)
      · rw [if_neg c]
        by_cases a : agrK d w o k
        · rw [cif_t a, cif_t (agrK_s.mpr ⟨(agrK_congr hlo).mpr a, fun hd => by
            rw [ht]
            cases hw : w.testBit k with
            | true => rfl
            | false => exact absurd ⟨hd, hw⟩ c⟩), e3]
        · rw [cif_f a, cif_f (fun z => a ((agrK_congr hlo).mp (agrK_s.mp z).1)), Nat.zero_mul]
    rw [lo, hi, sumN_mul, sumN_mul, ih, ← Nat.mul_add]
    show _ = pwU W d w k * (if d.testBit k then (if w.testBit k then W k else 10 - W k) else 10)
    refine congrArg _ ?_
    cases hd : d.testBit k <;> cases hw : w.testBit k <;> (try simp) <;> (try omega)
theorem sum_all {W : Nat → Nat} {n : Nat} (hW : ∀ e, e < n → W e ≤ 10) : sumN (fun o => wtN W o n) (2 ^ n) = 10 ^ n := by
  have h := sum_agr (d := 0) (w := 0) hW n (Nat.le_refl _)
  have e : ∀ k, pwU W 0 0 k = 10 ^ k := by
    intro k
    induction k with
    | zero => rfl
    | succ k ih => unfold pwU; rw [ih, Nat.pow_succ]; simp
  rw [e] at h
  rw [← h]
  exact sumN_congr _ (fun o _ => (cif_t (fun e _ hd => by simp at hd)).symm)
theorem pwU_le {W : Nat → Nat} {d w n : Nat} (hW : ∀ e, e < n → W e ≤ 10) : ∀ k, k ≤ n → pwU W d w k ≤ 10 ^ k
  | 0, _ => Nat.le_refl _
  | k + 1, h => by
    unfold pwU
    rw [Nat.pow_succ]
    refine Nat.mul_le_mul (pwU_le hW k (by omega)) ?_
    have := hW k (by omega)
    split
    · split <;> omega
    · omega
/-- the decided edges' part, and the undecided ones' -/
def pwD (W : Nat → Nat) (d w : Nat) : Nat → Nat
  | 0 => 1
  | k + 1 => pwD W d w k * (if d.testBit k then (if w.testBit k then W k else 10 - W k) else 1)
def tens (d : Nat) : Nat → Nat
  | 0 => 1
  | k + 1 => if d.testBit k then tens d k else tens d k * 10
theorem pwD_tens (W : Nat → Nat) (d w : Nat) : ∀ k, pwD W d w k * tens d k = pwU W d w k
  | 0 => rfl
  | k + 1 => by
    unfold pwD tens pwU
    rw [← pwD_tens W d w k]
    cases d.testBit k
    · simp [Nat.mul_assoc]
    · simp [Nat.mul_right_comm]
theorem pwD_le {W : Nat → Nat} {d w n : Nat} (hW : ∀ e, e < n → W e ≤ 10) : ∀ k, k ≤ n → pwD W d w k ≤ 10 ^ k
  | 0, _ => Nat.le_refl _
  | k + 1, h => by
    unfold pwD
    rw [Nat.pow_succ]
    refine Nat.mul_le_mul (pwD_le hW k (by omega)) ?_
    have := hW k (by omega)
    split
    · split <;> omega
    · omega
/-- deciding one more -/
theorem pwD_congr {W : Nat → Nat} {d w d' w' : Nat} : ∀ k, (∀ e, e < k → d.testBit e = d'.testBit e ∧ w.testBit e = w'.testBit e) → pwD W d w k = pwD W d' w' k
  | 0, _ => rfl
  | k + 1, h => by
    unfold pwD
    rw [pwD_congr k (fun e he => h e (by omega)), (h k (by omega)).1, (h k (by omega)).2]
theorem pwD_yes {W : Nat → Nat} {d w e : Nat} (hd : d.testBit e = false) : ∀ k, e < k → pwD W (d ||| 2 ^ e) (w ||| 2 ^ e) k = pwD W d w k * W e := by
  intro k
  induction k with
  | zero => intro h; omega
  | succ k ih =>
    intro hk
    unfold pwD
    by_cases z : e = k
    · subst z
      rw [pwD_congr (d' := d) (w' := w) e (fun q hq => by simp [tb_or, show ¬ e = q by omega])]
      simp [tb_or, hd]
    · rw [ih (by omega)]
      simp only [tb_or, z, decide_false, Bool.or_false]
      rw [Nat.mul_right_comm]
theorem pwD_no {W : Nat → Nat} {d w e : Nat} (hd : d.testBit e = false) (hw : w.testBit e = false) : ∀ k, e < k → pwD W (d ||| 2 ^ e) w k = pwD W d w k * (10 - W e) := by
  intro k
  induction k with
  | zero => intro h; omega
  | succ k ih =>
    intro hk
    unfold pwD
    by_cases z : e = k
    · subst z
      rw [pwD_congr (d' := d) (w' := w) e (fun q hq => by simp [tb_or, show ¬ e = q by omega])]
      simp [tb_or, hd, hw]
    · rw [ih (by omega)]
      simp only [tb_or, z, decide_false, Bool.or_false]
      rw [Nat.mul_right_comm]
theorem wtN_zero {W : Nat → Nat} {o e : Nat} : ∀ n, e < n → (if o.testBit e then W e else 10 - W e) = 0 → wtN W o n = 0 := by
  intro n
  induction n with
  | zero => intro h; omega
  | succ n ih =>
    intro h h0
    unfold wtN
    by_cases z : e = n
    · subst z; rw [h0, Nat.mul_zero]
    · rw [ih (by omega) h0, Nat.zero_mul]
/-- the greatest weight among those that agree, and its lowest mask -/
def grK (W : Nat → Nat) (d : Nat) : Nat → Nat → Nat
  | 0, g => g
  | k + 1, g => if d.testBit k then grK W d k g else grK W d k g * (if 10 - W k < W k then W k else 10 - W k)
def ouK (W : Nat → Nat) (d w : Nat) : Nat → Nat
  | 0 => w
  | k + 1 => if d.testBit k then ouK W d w k else if 10 - W k < W k then ouK W d w k ||| 2 ^ k else ouK W d w k
def mxK (W : Nat → Nat) (d w : Nat) : Nat → Nat
  | 0 => 1
  | k + 1 => mxK W d w k * (if d.testBit k then (if w.testBit k then W k else 10 - W k) else (if 10 - W k < W k then W k else 10 - W k))
theorem grK_mx (W : Nat → Nat) (d w : Nat) : ∀ k, grK W d k 1 * pwD W d w k = mxK W d w k
  | 0 => rfl
  | k + 1 => by
    unfold grK pwD mxK
    rw [← grK_mx W d w k]
    cases d.testBit k
    · simp [Nat.mul_right_comm]
    · simp [Nat.mul_assoc]
theorem grK_lin (W : Nat → Nat) (d : Nat) : ∀ k g, grK W d k g = grK W d k 1 * g
  | 0, g => by unfold grK; omega
  | k + 1, g => by
    unfold grK
    rw [grK_lin W d k g]
    split
    · rfl
    · rw [Nat.mul_right_comm]
theorem ouK_tb {W : Nat → Nat} {d w : Nat} (hdw : ∀ e, w.testBit e = true → d.testBit e = true) : ∀ k e, (ouK W d w k).testBit e = (if d.testBit e then w.testBit e else decide (e < k ∧ 10 - W e < W e))
  | 0, e => by
    unfold ouK
    cases hd : d.testBit e with
    | true => simp
    | false =>
      cases hw : w.testBit e with
      | true => rw [hdw e hw] at hd; cases hd
      | false => simp
  | k + 1, e => by
    have ih := ouK_tb (W := W) hdw k
    unfold ouK
    cases hdk : d.testBit k with
    | true =>
      simp only [if_true]
      rw [ih e]
      cases hd : d.testBit e with
      | true => rfl
      | false =>
        have : e ≠ k := fun z => by rw [z, hdk] at hd; cases hd
        simp only [Bool.false_eq_true, if_false]
        congr 1
        rw [show (e < k + 1) = (e < k) from propext (by omega)]
    | false =>
      simp only [Bool.false_eq_true, if_false]
      by_cases c : 10 - W k < W k
      · rw [if_pos c, tb_or, ih e]
        by_cases z : k = e
        · subst z
          simp [hdk, c]
        · simp only [z, decide_false, Bool.or_false]
          split
          · rfl
          · congr 1
            rw [show (e < k + 1) = (e < k) from propext (by omega)]
      · rw [if_neg c, ih e]
        split
        · rfl
        · by_cases z : e = k
          · subst z; simp [c]
          · congr 1
            rw [show (e < k + 1) = (e < k) from propext (by omega)]
/-- the leaf's best: none that agrees weighs more, and those that weigh as much have no lower mask -/
theorem best_leaf {W : Nat → Nat} {d w o n : Nat} (hW : ∀ e, e < n → W e ≤ 10) (hdw : ∀ e, w.testBit e = true → d.testBit e = true) : ∀ k, k ≤ n → agrK d w o k → 0 < pwD W d w k → wtN W o k ≤ mxK W d w k ∧ 0 < mxK W d w k ∧ (wtN W o k = mxK W d w k → ouK W d w n % 2 ^ k ≤ o % 2 ^ k)
  | 0, _, _, _ => ⟨Nat.le_refl _, Nat.one_pos, fun _ => by simp [Nat.mod_one]⟩
  | k + 1, hk, ha, hp => by
    have hWk := hW k (by omega)
    obtain ⟨a1, a2⟩ := agrK_s.mp ha
    have hp2 : 0 < pwD W d w k ∧ 0 < (if d.testBit k then (if w.testBit k then W k else 10 - W k) else 1) := by
      unfold pwD at hp
      exact ⟨Nat.pos_of_mul_pos_right hp, Nat.pos_of_mul_pos_left hp⟩
    obtain ⟨i1, i2, i3⟩ := best_leaf hW hdw k (by omega) a1 hp2.1
    have ob := ouK_tb (W := W) hdw n k
    -- the two factors
    have hf : (if o.testBit k then W k else 10 - W k) ≤ (if d.testBit k then (if w.testBit k then W k else 10 - W k) else (if 10 - W k < W k then W k else 10 - W k)) := by
      cases hd : d.testBit k with
      | true => rw [a2 hd]; simp
      | false =>
        simp only [Bool.false_eq_true, if_false]
        cases o.testBit k <;> simp <;> split <;> omega
    have hg : 0 < (if d.testBit k then (if w.testBit k then W k else 10 - W k) else (if 10 - W k < W k then W k else 10 - W k)) := by
      cases hd : d.testBit k with
      | true => have := hp2.2; rw [hd] at this; exact this
      | false =>
        simp only [Bool.false_eq_true, if_false]
        split <;> omega
    have hbit : (if o.testBit k then W k else 10 - W k) = (if d.testBit k then (if w.testBit k then W k else 10 - W k) else (if 10 - W k < W k then W k else 10 - W k)) → ((ouK W d w n).testBit k).toNat ≤ (o.testBit k).toNat := by
      intro he
      rw [ob]
      cases hd : d.testBit k with
      | true => rw [a2 hd]; simp
      | false =>
        rw [hd] at he
        simp only [Bool.false_eq_true, if_false] at he ⊢
        by_cases c : 10 - W k < W k
        · rw [if_pos c] at he
          cases hob : o.testBit k with
          | true => exact Bool.toNat_le _
          | false => rw [hob] at he; simp at he; omega
        · have : decide (k < n ∧ 10 - W k < W k) = false := by simp [c]
          rw [this]; exact Nat.zero_le _
    have md : ∀ x : Nat, x % 2 ^ (k + 1) = x % 2 ^ k + 2 ^ k * (x.testBit k).toNat := fun x => by
      rw [Nat.mod_pow_succ, Nat.toNat_testBit]
    refine ⟨Nat.mul_le_mul i1 hf, Nat.mul_pos i2 hg, fun he => ?_⟩
    have h1 : wtN W o k = mxK W d w k := by
      apply Nat.le_antisymm i1
      apply Nat.not_lt.mp
      intro z
      have h3 : wtN W o k * (if o.testBit k then W k else 10 - W k) < mxK W d w k * (if d.testBit k then (if w.testBit k then W k else 10 - W k) else (if 10 - W k < W k then W k else 10 - W k)) :=
        Nat.lt_of_le_of_lt (Nat.mul_le_mul_left _ hf) (Nat.mul_lt_mul_of_pos_right z hg)
      exact absurd he (Nat.ne_of_lt h3)
    have h2 : (if o.testBit k then W k else 10 - W k) = (if d.testBit k then (if w.testBit k then W k else 10 - W k) else (if 10 - W k < W k then W k else 10 - W k)) := by
      have he' : wtN W o k * (if o.testBit k then W k else 10 - W k) = mxK W d w k * (if d.testBit k then (if w.testBit k then W k else 10 - W k) else (if 10 - W k < W k then W k else 10 - W k)) := he
      rw [h1] at he'
      exact Nat.eq_of_mul_eq_mul_left i2 he'
    rw [md, md]
    exact Nat.add_le_add (i3 h1) (Nat.mul_le_mul_left _ (hbit h2))
end SUMS
