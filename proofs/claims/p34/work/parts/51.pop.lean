section POP
theorem lN_and (x y : Nat) : lN x &&& lN y = lN (x &&& y) := by
  apply Int64.toBitVec_inj.mp
  apply BitVec.eq_of_toNat_eq
  unfold lN
  simp [Int64.toBitVec_and, Nat.and_mod_two_pow]
theorem lN_tn {n : Nat} (h : n < 18446744073709551616) : (lN n).toBitVec.toNat = n := by
  show (BitVec.ofNat 64 n).toNat = n
  rw [BitVec.toNat_ofNat]
  exact Nat.mod_eq_of_lt h
theorem bshN {x : Nat} (hx : x < 18446744073709551616) (k : Int32) (j : Nat) (hj : ((Int32.toInt64 k).toUInt64 &&& Int64.toUInt64 63).toNat % 64 = j) : bsh (lN x) k = lN (x / 2 ^ j) := by
  apply Int64.toBitVec_inj.mp
  apply BitVec.eq_of_toNat_eq
  have hle : x / 2 ^ j ≤ x := Nat.div_le_self _ _
  rw [lN_tn (by omega)]
  show ((lN x).toUInt64 >>> ((Int32.toInt64 k).toUInt64 &&& Int64.toUInt64 63)).toNat = x / 2 ^ j
  rw [UInt64.toNat_shiftRight, hj, Nat.shiftRight_eq_div_pow, show (lN x).toUInt64.toNat = x from lN_tn hx]
def S1 (M x : Nat) : Nat := x - ((x / 2) &&& M)
def S2 (M x : Nat) : Nat := (x &&& M) + ((x / 4) &&& M)
def S3 (M x : Nat) : Nat := (x + x / 16) &&& M
theorem and_d {a m : Nat} (b k : Nat) (ha : a < 256) (hm : m < 256) : (a + 256 * b) &&& (m + 256 * k) = (a &&& m) + 256 * (b &&& k) := by
  have h1 := Nat.div_add_mod ((a + 256 * b) &&& (m + 256 * k)) 256
  have h2 : ((a + 256 * b) &&& (m + 256 * k)) / 256 = ((a + 256 * b) / 256) &&& ((m + 256 * k) / 256) := Nat.and_div_two_pow (n := 8)
  have h3 : ((a + 256 * b) &&& (m + 256 * k)) % 256 = ((a + 256 * b) % 256) &&& ((m + 256 * k) % 256) := Nat.and_mod_two_pow (n := 8)
  rw [h2, h3] at h1
  rw [show (a + 256 * b) / 256 = b by omega, show (m + 256 * k) / 256 = k by omega, show (a + 256 * b) % 256 = a by omega, show (m + 256 * k) % 256 = m by omega] at h1
  omega
theorem tb_1 : ∀ a, a < 256 → ∀ c, c < 2 → (a / 2 + 128 * c) &&& 85 = (a / 2) &&& 85 := by decide +kernel
theorem tb_2 : ∀ a, a < 256 → ∀ c, c < 4 → (a / 4 + 64 * c) &&& 51 = (a / 4) &&& 51 := by decide +kernel
theorem tb_3 : ∀ a, a < 256 → ∀ c, c < 16 → (a + a / 16 + 16 * c) &&& 15 = (a + a / 16) &&& 15 := by decide +kernel
theorem S1_d {a : Nat} (b M : Nat) (ha : a < 256) : S1 (85 + 256 * M) (a + 256 * b) = S1 85 a + 256 * S1 M b := by
  unfold S1
  have e : (a + 256 * b) / 2 = (a / 2 + 128 * (b % 2)) + 256 * (b / 2) := by omega
  rw [e, and_d _ _ (by omega) (by omega), tb_1 a ha (b % 2) (by omega)]
  have h2 : (a / 2) &&& 85 ≤ a / 2 := Nat.and_le_left
  have h3 : (b / 2) &&& M ≤ b / 2 := Nat.and_le_left
  generalize (a / 2) &&& 85 = u at h2 ⊢
  generalize (b / 2) &&& M = v at h3 ⊢
  omega
theorem S2_d {a : Nat} (b M : Nat) (ha : a < 256) : S2 (51 + 256 * M) (a + 256 * b) = S2 51 a + 256 * S2 M b := by
  unfold S2
  have e : (a + 256 * b) / 4 = (a / 4 + 64 * (b % 4)) + 256 * (b / 4) := by omega
  rw [e, and_d (a := a) _ _ ha (by omega), and_d (a := a / 4 + 64 * (b % 4)) _ _ (by omega) (by omega), tb_2 a ha (b % 4) (by omega)]
  omega
theorem S3_d {a : Nat} (b M : Nat) (ha : a ≤ 68) (hb : b % 16 ≤ 4) : S3 (15 + 256 * M) (a + 256 * b) = S3 15 a + 256 * S3 M b := by
  unfold S3
  have e : (a + 256 * b) + (a + 256 * b) / 16 = (a + a / 16 + 16 * (b % 16)) + 256 * (b + b / 16) := by omega
  rw [e, and_d _ _ (by omega) (by omega), tb_3 a (by omega) (b % 16) (by omega)]
def pbN (a : Nat) : Nat := sumN (fun k => a / 2 ^ k % 2) 8
theorem tb_4 : ∀ a, a < 256 → S1 85 a < 256 ∧ S2 51 (S1 85 a) ≤ 68 ∧ S2 51 (S1 85 a) % 16 ≤ 4 ∧ S3 15 (S2 51 (S1 85 a)) = pbN a ∧ pbN a ≤ 8 := by decide +kernel
theorem tb_5 : ∀ a, a < 256 → S1 366503875925 a = S1 85 a ∧ S2 219902325555 (S1 85 a) = S2 51 (S1 85 a) ∧ S3 64677154575 (S2 51 (S1 85 a)) = S3 15 (S2 51 (S1 85 a)) := by decide +kernel
theorem pop3 {a b c d : Nat} (ha : a < 256) (hb : b < 256) (hc : c < 256) (hd : d < 256) : S3 1085102592571150095 (S2 3689348814741910323 (S1 6148914691236517205 (a + 256 * (b + 256 * (c + 256 * d))))) = pbN a + 256 * (pbN b + 256 * (pbN c + 256 * pbN d)) := by
  obtain ⟨a1, a2, a3, a4, -⟩ := tb_4 a ha
  obtain ⟨b1, b2, b3, b4, -⟩ := tb_4 b hb
  obtain ⟨c1, c2, c3, c4, -⟩ := tb_4 c hc
  obtain ⟨d1, d2, d3, d4, -⟩ := tb_4 d hd
  obtain ⟨e1, e2, e3⟩ := tb_5 d hd
  rw [show (6148914691236517205 : Nat) = 85 + 256 * (85 + 256 * (85 + 256 * 366503875925)) from rfl, S1_d _ _ ha, S1_d _ _ hb, S1_d _ _ hc, e1]
  rw [show (3689348814741910323 : Nat) = 51 + 256 * (51 + 256 * (51 + 256 * 219902325555)) from rfl, S2_d _ _ a1, S2_d _ _ b1, S2_d _ _ c1, e2]
  rw [show (1085102592571150095 : Nat) = 15 + 256 * (15 + 256 * (15 + 256 * 64677154575)) from rfl, S3_d _ _ a2 (by omega), S3_d _ _ b2 (by omega), S3_d _ _ c2 (by omega), e3, a4, b4, c4, d4]
theorem bits_blk {a : Nat} (y m : Nat) (ha : a < 256) : sumN (fun k => (a + 256 * y) / 2 ^ k % 2) (8 + m) = pbN a + sumN (fun k => y / 2 ^ k % 2) m := by
  rw [sumN_app]
  congr 1
  · refine sumN_congr 8 (fun k hk => ?_)
    have h8 : k = 0 ∨ k = 1 ∨ k = 2 ∨ k = 3 ∨ k = 4 ∨ k = 5 ∨ k = 6 ∨ k = 7 := by omega
    rcases h8 with rfl | rfl | rfl | rfl | rfl | rfl | rfl | rfl
    all_goals (simp only [Nat.reducePow]; omega)
  · refine sumN_congr m (fun k hk => ?_)
    show (a + 256 * y) / 2 ^ (8 + k) % 2 = y / 2 ^ k % 2
    rw [Nat.pow_add, ← Nat.div_div_eq_div_mul, show (a + 256 * y) / 2 ^ 8 = y by omega]
theorem bits_32 {a b c d : Nat} (ha : a < 256) (hb : b < 256) (hc : c < 256) : sumN (fun k => (a + 256 * (b + 256 * (c + 256 * d))) / 2 ^ k % 2) 32 = pbN a + pbN b + pbN c + pbN d := by
  have h1 := bits_blk (b + 256 * (c + 256 * d)) 24 ha
  have h2 := bits_blk (c + 256 * d) 16 hb
  have h3 := bits_blk d 8 hc
  have h4 : sumN (fun k => d / 2 ^ k % 2) 8 = pbN d := rfl
  rw [h4] at h3
  have e1 : (8 + 24 : Nat) = 32 := rfl
  have e2 : (8 + 16 : Nat) = 24 := rfl
  have e3 : (8 + 8 : Nat) = 16 := rfl
  rw [e1] at h1
  rw [e2] at h2
  rw [e3] at h3
  rw [h1, h2, h3]
  omega
theorem bcF_pop {x : Nat} (hx : x < 4294967296) : bcF (lN x) = nI (sumN (fun k => x / 2 ^ k % 2) 32) := by
  obtain ⟨a, b, c, d, ha, hb, hc, hd, rfl⟩ : ∃ a b c d : Nat, a < 256 ∧ b < 256 ∧ c < 256 ∧ d < 256 ∧ x = a + 256 * (b + 256 * (c + 256 * d)) := ⟨x % 256, x / 256 % 256, x / 65536 % 256, x / 16777216, by omega, by omega, by omega, by omega, by omega⟩
  rw [bits_32 ha hb hc]
  have h3 := pop3 ha hb hc hd
  obtain ⟨X, hX⟩ : ∃ X, X = a + 256 * (b + 256 * (c + 256 * d)) := ⟨_, rfl⟩
  rw [← hX] at hx h3 ⊢
  have n1 : (X / 2) &&& 6148914691236517205 ≤ X / 2 := Nat.and_le_left
  have b1 : bc1 (lN X) = lN (S1 6148914691236517205 X) := by
    unfold bc1 S1
    rw [bshN (by omega) 1 1 (by decide), show (6148914691236517205 : Int64) = lN 6148914691236517205 from rfl, lN_and]
    exact lN_sub (by show (X / 2 ^ 1) &&& 6148914691236517205 ≤ X; exact Nat.le_trans n1 (by omega))
  have l1 : S1 6148914691236517205 X < 4294967296 := by unfold S1; omega
  obtain ⟨X1, hX1⟩ : ∃ X1, X1 = S1 6148914691236517205 X := ⟨_, rfl⟩
  rw [← hX1] at b1 l1 h3
  have n2 : X1 &&& 3689348814741910323 ≤ X1 := Nat.and_le_left
  have n3 : (X1 / 4) &&& 3689348814741910323 ≤ X1 / 4 := Nat.and_le_left
  have b2 : bc2 (lN X1) = lN (S2 3689348814741910323 X1) := by
    unfold bc2 S2
    rw [bshN (by omega) 2 2 (by decide), show (3689348814741910323 : Int64) = lN 3689348814741910323 from rfl, lN_and, lN_and, lN_add]
  have l2 : S2 3689348814741910323 X1 < 8589934592 := by unfold S2; omega
  obtain ⟨X2, hX2⟩ : ∃ X2, X2 = S2 3689348814741910323 X1 := ⟨_, rfl⟩
  rw [← hX2] at b2 l2 h3
  have b3 : bc3 (lN X2) = lN (S3 1085102592571150095 X2) := by
    unfold bc3 S3
    rw [bshN (by omega) 4 4 (by decide), show (1085102592571150095 : Int64) = lN 1085102592571150095 from rfl, lN_add, lN_and]
  rw [h3] at b3
  obtain ⟨-, -, -, -, pa⟩ := tb_4 a ha
  obtain ⟨-, -, -, -, pb⟩ := tb_4 b hb
  obtain ⟨-, -, -, -, pc⟩ := tb_4 c hc
  obtain ⟨-, -, -, -, pd⟩ := tb_4 d hd
  generalize pbN a = u at pa b3 ⊢
  generalize pbN b = v at pb b3 ⊢
  generalize pbN c = w at pc b3 ⊢
  generalize pbN d = z at pd b3 ⊢
  unfold bcF
  rw [b1, b2, b3]
  unfold bc6 bc5 bc4
  rw [bshN (by omega) 8 8 (by decide), lN_add, bshN (by omega) 16 16 (by decide), lN_add, bshN (by omega) 32 32 (by decide), lN_add, lN_i, pk_andN (by omega) 7 rfl]
  congr 1
  simp only [Nat.reducePow]
  have y1 : (u + 256 * (v + 256 * (w + 256 * z))) / 256 = v + 256 * (w + 256 * z) := by omega
  rw [y1]
  have y2 : (u + 256 * (v + 256 * (w + 256 * z)) + (v + 256 * (w + 256 * z))) / 65536 = (w + z) + 256 * z := by omega
  rw [y2]
  have y3 : (u + 256 * (v + 256 * (w + 256 * z)) + (v + 256 * (w + 256 * z)) + ((w + z) + 256 * z)) / 4294967296 = 0 := by omega
  rw [y3]
  omega
end POP
