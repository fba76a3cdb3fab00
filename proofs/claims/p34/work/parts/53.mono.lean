/-! More edges and more sources: no later times; sums over times; a simulated outcome. -/
section MONO
theorem Sol.anti {s : SV} {m m' o o' : Nat} {t t' : Nat → Nat} (hW : WE s) (hm : ∀ v, v < 8 → m'.testBit v = true → m.testBit v = true) (ho : ∀ e, e < s.n → o'.testBit e = true → o.testBit e = true) (h : Sol s m o t) (h' : Sol s m' o' t') : ∀ (k v : Nat), v < 8 → t' v = k → t v ≤ t' v := by
  intro k
  induction k using Nat.strongRecOn with
  | ind k ih =>
    intro v hv hk
    cases hb : m.testBit v with
    | true => rw [h.2.1 v hv hb]; omega
    | false =>
      have hb' : m'.testBit v = false := by
        cases z : m'.testBit v with
        | false => rfl
        | true => rw [hm v hv z] at hb; cases hb
      by_cases h31 : t' v < 31
      · obtain ⟨e, he, ho1, hT, hE⟩ := h'.2.2.2 v hv hb' h31
        obtain ⟨f1, f2, f3, f4, f5⟩ := hW.2.1 e he
        obtain ⟨g1, g2, g3⟩ := arr_lt f4 (t := t') (by omega)
        have h1 := ih (t' (s.F e)) (by omega) (s.F e) f1 rfl
        have h2 := h.2.2.1 e he (ho e he ho1)
        have h3 := arr_mono (t := t) (t' := t') (e := e) h1 hW.2.2 (h'.1 _ f1)
        rw [hT] at h2
        omega
      · have := h.1 v hv; omega
theorem tau_anti {s : SV} (hW : WE s) {m m' o o' : Nat} (hm : ∀ v, v < 8 → m'.testBit v = true → m.testBit v = true) (ho : ∀ e, e < s.n → o'.testBit e = true → o.testBit e = true) {v : Nat} (hv : v < 8) : tau s m o v ≤ tau s m' o' v := Sol.anti hW hm ho (tau_sol hW m o) (tau_sol hW m' o') _ v hv rfl
theorem tau_31 {s : SV} (hW : WE s) (m o : Nat) {v : Nat} (hv : v < 8) : tau s m o v ≤ 31 := (tau_sol hW m o).1 v hv
theorem tau_0 {s : SV} (hW : WE s) {m : Nat} (o : Nat) {v : Nat} (hv : v < 8) (h : m.testBit v = true) : tau s m o v = 0 := (tau_sol hW m o).2.1 v hv h
theorem tau_pos {s : SV} (hW : WE s) {m : Nat} (o : Nat) {v : Nat} (hv : v < 8) (h : m.testBit v = false) : 0 < tau s m o v := by
  have h1 := tau_31 hW m o hv
  by_cases h31 : tau s m o v < 31
  · obtain ⟨e, he, ho1, hT, hE⟩ := (tau_sol hW m o).2.2.2 v hv h h31
    obtain ⟨f1, f2, f3, f4, f5⟩ := hW.2.1 e he
    obtain ⟨g1, g2, g3⟩ := arr_lt f4 (t := tau s m o) (by omega)
    omega
  · omega
theorem hc_mono {t t' : Nat → Nat} (h : ∀ v, v < 8 → t v ≤ t' v) (h31 : ∀ v, v < 8 → t' v ≤ 31) : hc t' ≤ hc t := by
  refine sumN_le 8 (fun v hv => ?_)
  have := h v hv
  have := h31 v hv
  split
  · split <;> omega
  · rw [if_neg (by omega)]
    exact Nat.le_refl _
theorem agr0 (s : SV) (w o : Nat) : agr s 0 w o := fun e _ hd => by simp at hd
theorem fit100 (s : SV) (m o : Nat) : fitW s m (fun _ => 100) o := fun v _ => Or.inl rfl
theorem SF0 (s : SV) (m : Nat) (wn : Nat → Nat) : SF s m wn 0 0 = sumN (fun o => cif (fitW s m wn o) (wtN s.W o s.n) 0) (2 ^ s.n) := sumN_congr _ (fun o _ => cif_c ⟨fun z => z.2, fun z => ⟨agr0 s 0 o, z⟩⟩)
theorem SH100 (s : SV) (m : Nat) : SH s m (fun _ => 100) 0 0 = sumN (fun o => wtN s.W o s.n * hc (tau s m o)) (2 ^ s.n) := sumN_congr _ (fun o _ => cif_t ⟨agr0 s 0 o, fit100 s m o⟩)
theorem reach_mono {s : SV} (hW : WE s) {m m' : Nat} (hm : ∀ v, v < 8 → m.testBit v = true → m'.testBit v = true) : SH s m (fun _ => 100) 0 0 ≤ SH s m' (fun _ => 100) 0 0 := by
  rw [SH100, SH100]
  exact sumN_le _ (fun o _ => Nat.mul_le_mul_left _ (hc_mono (fun v hv => tau_anti hW hm (fun e _ h => h) hv) (fun v hv => tau_31 hW m o hv)))
theorem hc_8 (t : Nat → Nat) : hc t ≤ 8 := by
  have h : ∀ k, sumN (fun u => if t u = 31 then 0 else 1) k ≤ k := by
    intro k
    induction k with
    | zero => exact Nat.le_refl _
    | succ k ih =>
      show sumN (fun u => if t u = 31 then 0 else 1) k + (if t k = 31 then 0 else 1) ≤ k + 1
      split <;> omega
  exact h 8
theorem sumN_all (s : SV) (hW : WE s) : sumN (fun o => wtN s.W o s.n) (2 ^ s.n) = 10 ^ s.n := sum_all (fun e he => (hW.2.1 e he).2.2.1)
theorem SH_12 {s : SV} (hW : WE s) (m : Nat) : SH s m (fun _ => 100) 0 0 ≤ 10 ^ s.n * 8 := by
  rw [SH100, ← sumN_all s hW, ← sumN_mul]
  exact sumN_le _ (fun o _ => Nat.mul_le_mul_left _ (hc_8 _))
/-- sums in the other order -/
theorem sumN_swap (f : Nat → Nat → Nat) (b : Nat) : ∀ a, sumN (fun i => sumN (f i) b) a = sumN (fun j => sumN (fun i => f i j) a) b
  | 0 => by
    show 0 = _
    exact (sumN_zero b (fun _ _ => rfl)).symm
  | a + 1 => by
    show sumN (fun i => sumN (f i) b) a + sumN (f a) b = _
    rw [sumN_swap f b a, ← sumN_add]
    exact sumN_congr _ (fun j _ => rfl)
theorem sumN_one (x j : Nat) : ∀ n, sumN (fun k => cif (k = j) x 0) n = if j < n then x else 0
  | 0 => rfl
  | n + 1 => by
    show sumN (fun k => cif (k = j) x 0) n + cif (n = j) x 0 = _
    rw [sumN_one x j n]
    by_cases h : n = j
    · rw [cif_t h, if_neg (by omega), if_pos (by omega)]; omega
    · rw [cif_f h]
      by_cases h2 : j < n
      · rw [if_pos h2, if_pos (by omega)]; rfl
      · rw [if_neg h2, if_neg (by omega)]
/-- the k-th of the times -1 to 30, and how it is wanted -/
def tK (k : Nat) : Int32 := if k = 0 then -1 else nI (k - 1)
def wK (k : Nat) : Nat := if k = 0 then 31 else k - 1
theorem wI_tK {k : Nat} (h : k < 32) : wI (tK k) = wK k := by
  unfold wI tK wK
  by_cases z : k = 0
  · rw [if_pos z, if_pos rfl, if_pos z]
  · rw [if_neg z, if_neg z]
    have : ¬ nI (k - 1) = -1 := fun y => by
      have := (eqI _ _).mp y
      rw [nI_toInt (by omega), tI_m1] at this
      omega
    rw [if_neg this, show cl (nI (k - 1)) = k - 1 from clampN (by omega)]
theorem tK_in {k : Nat} (h : k < 32) : inR (tK k) (-1) 30 := by
  unfold tK inR
  by_cases z : k = 0
  · rw [if_pos z, tI_m1]; omega
  · rw [if_neg z, nI_toInt (by omega)]; omega
theorem tK_s {k : Nat} (h : k < 32) : tK k + 1 = tK (k + 1) := by
  unfold tK
  by_cases z : k = 0
  · subst z; rfl
  · rw [if_neg z, if_neg (by omega), add1N]
    congr 1
    omega
theorem tK_gt {k : Nat} (h : k ≤ 32) : (30 < tK k) ↔ k = 32 := by
  rw [ltI, tI_30]
  unfold tK
  by_cases z : k = 0
  · rw [if_pos z, tI_m1]; omega
  · rw [if_neg z, nI_toInt (by omega)]; omega
theorem sumK {P : Prop} {a x : Nat} (ha : a ≤ 31) : sumN (fun k => cif (P ∧ a = wK k) x 0) 32 = cif P x 0 := by
  by_cases p : P
  · rw [cif_t p]
    have : sumN (fun k => cif (P ∧ a = wK k) x 0) 32 = sumN (fun k => cif (k = if a = 31 then 0 else a + 1) x 0) 32 := sumN_congr _ (fun k hk => cif_c (by
      unfold wK
      constructor
      · rintro ⟨-, h⟩
        by_cases z : k = 0
        · rw [if_pos z] at h; rw [if_pos h]; exact z
        · rw [if_neg z] at h; rw [if_neg (by omega)]; omega
      · intro h
        refine ⟨p, ?_⟩
        by_cases z : a = 31
        · rw [if_pos z] at h; rw [if_pos h]; exact z
        · rw [if_neg z] at h; rw [if_neg (by omega)]; omega))
    rw [this, sumN_one, if_pos (by split <;> omega)]
  · rw [cif_f p]
    exact sumN_zero _ (fun k _ => cif_f (fun z => p z.1))
theorem fitOnly {s : SV} {m v k o : Nat} (hv : v < 8) (hk : k < 32) : fitW s m (wOnly v (tK k)) o ↔ tau s m o v = wK k := by
  have hw : wK k ≠ 100 := by unfold wK; split <;> omega
  constructor
  · intro h
    have := h v hv
    unfold wOnly at this
    rw [if_pos rfl, wI_tK hk] at this
    exact this.resolve_left hw
  · intro h u hu
    unfold wOnly
    by_cases z : u = v
    · rw [if_pos z, wI_tK hk, z]; exact Or.inr h
    · rw [if_neg z]; exact Or.inl rfl
/-- every outcome tells a node just once -/
theorem sum_times {s : SV} (hW : WE s) (m : Nat) {v : Nat} (hv : v < 8) : sumN (fun k => SF s m (wOnly v (tK k)) 0 0) 32 = 10 ^ s.n := by
  rw [← sumN_all s hW]
  have e : sumN (fun k => SF s m (wOnly v (tK k)) 0 0) 32 = sumN (fun k => sumN (fun o => cif (True ∧ tau s m o v = wK k) (wtN s.W o s.n) 0) (2 ^ s.n)) 32 := sumN_congr _ (fun k hk => by
    rw [SF0]
    exact sumN_congr _ (fun o _ => cif_c (by rw [fitOnly hv hk]; exact ⟨fun z => ⟨trivial, z⟩, fun z => z.2⟩)))
  rw [e, sumN_swap]
  exact sumN_congr _ (fun o _ => by rw [sumK (tau_31 hW m o hv), cif_t trivial])
theorem arr_cg {s s' : SV} (hF : s'.F = s.F) (hD : s'.D = s.D) (hH : s'.H = s.H) (t : Nat → Nat) (e : Nat) : arr s' t e = arr s t e := by
  unfold arr
  rw [hF, hD, hH]
theorem rnd_cg {s s' : SV} (hF : s'.F = s.F) (hT : s'.T = s.T) (hD : s'.D = s.D) (hH : s'.H = s.H) (o : Nat) (t : Nat → Nat) : ∀ k, rnd s' o t k = rnd s o t k
  | 0 => rfl
  | k + 1 => by
    unfold rnd
    rw [rnd_cg hF hT hD hH o t k]
    unfold relax
    rw [arr_cg hF hD hH, hT]
theorem tau_cg {s s' : SV} (hn : s'.n = s.n) (hF : s'.F = s.F) (hT : s'.T = s.T) (hD : s'.D = s.D) (hH : s'.H = s.H) (m o : Nat) : tau s' m o = tau s m o := by
  have h : ∀ r, folR s' m o r = folR s m o r := by
    intro r
    induction r with
    | zero => rfl
    | succ r ih =>
      unfold folR
      rw [ih, hn]
      exact rnd_cg hF hT hD hH o _ _
  exact h 7
theorem wS_see (s : SV) (v : Nat) (t : Int32) (u : Nat) : wS (s_see s v t) u = if u = v then wI t else wS s u := by
  show wI (upd s.S v t u) = _
  rw [upd_a]
  split <;> rfl
theorem fit_see {s : SV} {m v k o : Nat} (hv : v < 8) (hk : k < 32) (h100 : s.S v = 100) : fitW (s_see s v (tK k)) m (wS (s_see s v (tK k))) o ↔ fitW s m (wS s) o ∧ tau s m o v = wK k := by
  have hw : wK k ≠ 100 := by unfold wK; split <;> omega
  have ht : tau (s_see s v (tK k)) m o = tau s m o := tau_cg (s := s) (s' := s_see s v (tK k)) rfl rfl rfl rfl rfl m o
  constructor
  · intro h
    refine ⟨fun u hu => ?_, ?_⟩
    · by_cases z : u = v
      · left
        rw [z]
        show wI (s.S v) = 100
        rw [h100]; decide
      · have := h u hu
        rw [ht, wS_see, if_neg z] at this
        exact this
    · have := h v hv
      rw [ht, wS_see, if_pos rfl, wI_tK hk] at this
      exact this.resolve_left hw
  · rintro ⟨h1, h2⟩ u hu
    rw [ht, wS_see]
    by_cases z : u = v
    · rw [if_pos z, wI_tK hk, z]; exact Or.inr h2
    · rw [if_neg z]; exact h1 u hu
theorem sum_divided {s : SV} (hW : WE s) (m : Nat) {v : Nat} (hv : v < 8) (h100 : s.S v = 100) : sumN (fun k => LK (s_see s v (tK k)) m) 32 = LK s m := by
  have e : sumN (fun k => LK (s_see s v (tK k)) m) 32 = sumN (fun k => sumN (fun o => cif (fitW s m (wS s) o ∧ tau s m o v = wK k) (wtN s.W o s.n) 0) (2 ^ s.n)) 32 := sumN_congr _ (fun k hk => by
    unfold LK
    rw [SF0]
    exact sumN_congr _ (fun o _ => cif_c (fit_see hv hk h100)))
  rw [e, sumN_swap]
  unfold LK
  rw [SF0]
  exact sumN_congr _ (fun o _ => sumK (tau_31 hW m o hv))
/-- what was simulated is possible -/
theorem drawN_tb (W : Nat → Nat) (x : Int32) : ∀ k e, (drawN W x k).testBit e = true ↔ e < k ∧ drawB W x e
  | 0, e => by simp [drawN]
  | k + 1, e => by
    unfold drawN
    by_cases h : drawB W x k
    · rw [cif_t h, tb_or]
      simp only [Bool.or_eq_true, decide_eq_true_eq]
      rw [drawN_tb W x k e]
      constructor
      · rintro (z | z)
        · exact ⟨by omega, z.2⟩
        · subst z; exact ⟨by omega, h⟩
      · rintro ⟨z, y⟩
        by_cases q : k = e
        · exact Or.inr q
        · exact Or.inl ⟨by omega, y⟩
    · rw [cif_f h, drawN_tb W x k e]
      constructor
      · rintro ⟨z, y⟩; exact ⟨by omega, y⟩
      · rintro ⟨z, y⟩
        by_cases q : e = k
        · subst q; exact absurd y h
        · exact ⟨by omega, y⟩
theorem u10_N (s : Int32) : ∃ a : Nat, a < 16777216 ∧ u10 s = nI a := by
  have h := pk_ushr s 8 8 (by decide)
  refine ⟨s.toBitVec.toNat / 2 ^ 8, ?_, ?_⟩
  · have := s.toBitVec.isLt
    omega
  · apply Int32.toBitVec_inj.1
    apply BitVec.eq_of_toNat_eq
    rw [show (u10 s).toBitVec.toNat = s.toBitVec.toNat / 2 ^ 8 from h, pk_tn (by have := s.toBitVec.isLt; omega)]
theorem draw_N (W : Nat → Nat) (x : Int32) (k : Nat) (hW : W k ≤ 10) : ∃ r : Nat, r < 10 ∧ (drawB W x k ↔ r < W k) := by
  obtain ⟨a, ha, e⟩ := u10_N (seedN x (k + 1))
  refine ⟨a % 10, by omega, ?_⟩
  unfold drawB
  rw [e, show (10 : Int32) = nI 10 from rfl, pk_rem (by omega) (by omega) (by omega), ltN (by omega) (by omega)]
theorem drawN_wt {W : Nat → Nat} (x : Int32) {n : Nat} (hW : ∀ e, e < n → W e ≤ 10) : ∀ k, k ≤ n → 0 < wtN W (drawN W x n) k
  | 0, _ => Nat.one_pos
  | k + 1, h => by
    unfold wtN
    refine Nat.mul_pos (drawN_wt x hW k (by omega)) ?_
    obtain ⟨r, hr, hd⟩ := draw_N W x k (hW k (by omega))
    have h10 := hW k (by omega)
    by_cases z : (drawN W x n).testBit k = true
    · rw [if_pos z]
      have := hd.mp ((drawN_tb W x n k).mp z).2
      omega
    · rw [if_neg z]
      have : ¬ r < W k := fun y => z ((drawN_tb W x n k).mpr ⟨by omega, hd.mpr y⟩)
      omega
theorem wI_tN {t : Nat} (h : t ≤ 31) : wI (tN t) = t := by
  unfold tN wI
  by_cases z : t = 31
  · rw [if_pos z, if_pos rfl, z]
  · rw [if_neg z]
    have : ¬ nI t = -1 := fun y => by
      have := (eqI _ _).mp y
      rw [nI_toInt (by omega), tI_m1] at this
      omega
    rw [if_neg this, show cl (nI t) = t from clampN (by omega)]
theorem told_pos {s : SV} (hW : WE s) (m : Nat) {o : Nat} (ho : o < 2 ^ s.n) (hp : 0 < wtN s.W o s.n) : 0 < LK (s_told s (tau s m o)) m := by
  unfold LK
  rw [SF0]
  refine (sumN_pos _).mpr ⟨o, ho, ?_⟩
  rw [cif_t]
  · exact hp
  · intro v hv
    have ht : tau (s_told s (tau s m o)) m o = tau s m o := tau_cg (s := s) (s' := s_told s (tau s m o)) rfl rfl rfl rfl rfl m o
    rw [ht]
    show wI (if s.Q.testBit v = true then tN (tau s m o v) else 100) = 100 ∨ tau s m o v = wI (if s.Q.testBit v = true then tN (tau s m o v) else 100)
    by_cases z : s.Q.testBit v = true
    · rw [if_pos z, wI_tN (tau_31 hW m o hv)]; exact Or.inr rfl
    · rw [if_neg z]; left; decide
theorem LK_pos {s : SV} {m : Nat} : 0 < LK s m ↔ ∃ o, o < 2 ^ s.n ∧ fitW s m (wS s) o ∧ 0 < wtN s.W o s.n := by
  unfold LK
  rw [SF0, sumN_pos]
  constructor
  · rintro ⟨o, ho, h⟩
    by_cases z : fitW s m (wS s) o
    · rw [cif_t z] at h; exact ⟨o, ho, z, h⟩
    · rw [cif_f z] at h; omega
  · rintro ⟨o, ho, h1, h2⟩
    exact ⟨o, ho, by rw [cif_t h1]; exact h2⟩
end MONO
