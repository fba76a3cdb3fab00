section TEXTN
/-- the digits from i on: where they end, and their value -/
noncomputable def dgW (n : Nat) (b : Nat → Int32) : Nat → Nat → Int32 → Nat × Int32
  | 0, i, v => (i, v)
  | k + 1, i, v => cif (i < n ∧ 48 ≤ b i ∧ b i ≤ 57) (dgW n b k (i + 1) (v * 10 + (b i - 48))) (i, v)
theorem dgW_le (n : Nat) (b : Nat → Int32) : ∀ k i v, i + k = n → i ≤ (dgW n b k i v).1 ∧ (dgW n b k i v).1 ≤ n := by
  intro k
  induction k with
  | zero => intro i v h; exact ⟨Nat.le_refl _, by show i ≤ n; omega⟩
  | succ k ih =>
    intro i v h
    unfold dgW
    by_cases c : i < n ∧ 48 ≤ b i ∧ b i ≤ 57
    · rw [cif_t c]
      have := ih (i + 1) (v * 10 + (b i - 48)) (by omega)
      exact ⟨by omega, this.2⟩
    · rw [cif_f c]; exact ⟨Nat.le_refl _, by show i ≤ n; omega⟩
theorem skp_le (n : Nat) (b : Nat → Int32) : ∀ k i, i + k = n → i ≤ skp n b k i ∧ skp n b k i ≤ n := by
  intro k
  induction k with
  | zero => intro i h; exact ⟨Nat.le_refl _, by show i ≤ n; omega⟩
  | succ k ih =>
    intro i h
    unfold skp
    by_cases c : i < n ∧ b i = 32
    · rw [cif_t c]
      have := ih (i + 1) (by omega)
      exact ⟨by omega, this.2⟩
    · rw [cif_f c]; exact ⟨Nat.le_refl _, by show i ≤ n; omega⟩
end TEXTN
