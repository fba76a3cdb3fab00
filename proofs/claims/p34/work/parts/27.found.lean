/-! What the search finds. -/
section FOUND
def hc (t : Nat → Nat) : Nat := sumN (fun u => if t u = 31 then 0 else 1) 8
def fitW (s : SV) (m : Nat) (wn : Nat → Nat) (o : Nat) : Prop := ∀ v, v < 8 → wn v = 100 ∨ tau s m o v = wn v
def reg (s : SV) (m : Nat) (wn : Nat → Nat) (d w o : Nat) : Prop := o < 2 ^ s.n ∧ agr s d w o ∧ fitW s m wn o ∧ 0 < wtN s.W o s.n
noncomputable def SF (s : SV) (m : Nat) (wn : Nat → Nat) (d w : Nat) : Nat := sumN (fun o => cif (agr s d w o ∧ fitW s m wn o) (wtN s.W o s.n) 0) (2 ^ s.n)
noncomputable def SH (s : SV) (m : Nat) (wn : Nat → Nat) (d w : Nat) : Nat := sumN (fun o => cif (agr s d w o ∧ fitW s m wn o) (wtN s.W o s.n * hc (tau s m o)) 0) (2 ^ s.n)
noncomputable def AG (s : SV) (d w : Nat) : Nat := sumN (fun o => cif (agr s d w o) (wtN s.W o s.n) 0) (2 ^ s.n)
def BestOf (s : SV) (P : Nat → Prop) (bw : Nat) (bo : Option Nat) : Prop := (bo = none ∧ bw = 0 ∧ ∀ o, ¬ P o) ∨ ∃ b, bo = some b ∧ P b ∧ wtN s.W b s.n = bw ∧ 0 < bw ∧ ∀ o, P o → wtN s.W o s.n < bw ∨ (wtN s.W o s.n = bw ∧ b ≤ o)
def DP (s : SV) (m : Nat) (wn : Nat → Nat) (d w : Nat) (any : Bool) (a a' : ACC) : Prop := a.tot ≤ a'.tot ∧ a'.tot ≤ a.tot + SF s m wn d w ∧ (0 < SF s m wn d w → 0 < a'.tot) ∧ (any = false → a'.tot = a.tot + SF s m wn d w ∧ a'.hrd = a.hrd + SH s m wn d w ∧ (∀ P, BestOf s P a.bw a.bo → BestOf s (fun o => P o ∨ reg s m wn d w o) a'.bw a'.bo) ∧
  ∀ v, v < 8 → ∀ k, ((a'.met v).testBit k = true ↔ (a.met v).testBit k = true ∨ ∃ o, reg s m wn d w o ∧ tau s m o v = k))
theorem BestOf.congr {s : SV} {P Q : Nat → Prop} {bw : Nat} {bo : Option Nat} (h : BestOf s P bw bo) (e : ∀ o, P o ↔ Q o) : BestOf s Q bw bo := by
  rcases h with ⟨h1, h2, h3⟩ | ⟨b, h1, h2, h3, h4, h5⟩
  · exact Or.inl ⟨h1, h2, fun o z => h3 o ((e o).mpr z)⟩
  · exact Or.inr ⟨b, h1, (e b).mp h2, h3, h4, fun o z => h5 o ((e o).mpr z)⟩
theorem SF_zero {s : SV} {m : Nat} {wn : Nat → Nat} {d w : Nat} (h : ∀ o, ¬ reg s m wn d w o) : SF s m wn d w = 0 ∧ SH s m wn d w = 0 := by
  have key : ∀ o, o < 2 ^ s.n → agr s d w o ∧ fitW s m wn o → wtN s.W o s.n = 0 := fun o ho z => by
    apply Nat.eq_zero_of_not_pos
    intro y
    exact h o ⟨ho, z.1, z.2, y⟩
  constructor
  · refine sumN_zero _ (fun o ho => ?_)
    by_cases z : agr s d w o ∧ fitW s m wn o
    · rw [cif_t z]; exact key o ho z
    · rw [cif_f z]
  · refine sumN_zero _ (fun o ho => ?_)
    by_cases z : agr s d w o ∧ fitW s m wn o
    · rw [cif_t z, key o ho z, Nat.zero_mul]
    · rw [cif_f z]
/-- nothing to find -/
theorem DP.none {s : SV} {m : Nat} {wn : Nat → Nat} {d w : Nat} {any : Bool} {a : ACC} (h : ∀ o, ¬ reg s m wn d w o) : DP s m wn d w any a a := by
  obtain ⟨h1, h2⟩ := SF_zero h
  refine ⟨Nat.le_refl _, by omega, fun z => by omega, fun _ => ⟨by omega, by omega, fun P hP => hP.congr (fun o => ⟨Or.inl, fun z => z.elim id (fun y => absurd y (h o))⟩), fun v hv k => ⟨Or.inl, fun z => z.elim id (fun ⟨o, y, _⟩ => absurd y (h o))⟩⟩⟩
/-- one is found already, and any will do -/
theorem DP.early {s : SV} {m : Nat} {wn : Nat → Nat} {d w : Nat} {a : ACC} (h : 0 < a.tot) : DP s m wn d w true a a := ⟨Nat.le_refl _, Nat.le_add_right _ _, fun _ => h, fun z => by cases z⟩
theorem agr_split {s : SV} {d w e o : Nat} (he : e < s.n) (hd : d.testBit e = false) (hw : w.testBit e = false) : (agr s (d ||| 2 ^ e) (w ||| 2 ^ e) o ↔ agr s d w o ∧ o.testBit e = true) ∧ (agr s (d ||| 2 ^ e) w o ↔ agr s d w o ∧ o.testBit e = false) := by
  constructor
  · constructor
    · intro h
      refine ⟨fun q hq hdq => ?_, ?_⟩
      · have := h q hq (by simp [tb_or, hdq])
        rw [tb_or] at this
        by_cases z : e = q
        · subst z; rw [hd] at hdq; cases hdq
        · simpa [z] using this
      · have := h e he (by simp [tb_or])
        simpa [tb_or] using this
    · rintro ⟨h1, h2⟩ q hq hdq
      by_cases z : e = q
      · subst z; simp [tb_or, h2]
      · simp only [tb_or, z, decide_false, Bool.or_false] at hdq ⊢
        exact h1 q hq hdq
  · constructor
    · intro h
      refine ⟨fun q hq hdq => ?_, ?_⟩
      · exact h q hq (by simp [tb_or, hdq])
      · have := h e he (by simp [tb_or])
        rw [this, hw]
    · rintro ⟨h1, h2⟩ q hq hdq
      by_cases z : e = q
      · subst z; rw [h2, hw]
      · simp only [tb_or, z, decide_false, Bool.or_false] at hdq
        exact h1 q hq hdq
theorem cif_split {P Q A B : Prop} {x : Nat} (hA : A ↔ P ∧ Q) (hB : B ↔ P ∧ ¬ Q) : cif P x 0 = cif A x 0 + cif B x 0 := by
  by_cases p : P
  · by_cases q : Q
    · rw [cif_t p, cif_t (hA.mpr ⟨p, q⟩), cif_f (fun z => (hB.mp z).2 q)]; omega
    · rw [cif_t p, cif_f (fun z => q (hA.mp z).2), cif_t (hB.mpr ⟨p, q⟩)]; omega
  · rw [cif_f p, cif_f (fun z => p (hA.mp z).1), cif_f (fun z => p (hB.mp z).1)]
theorem sums_split {s : SV} {m : Nat} {wn : Nat → Nat} {d w e : Nat} (he : e < s.n) (hd : d.testBit e = false) (hw : w.testBit e = false) : SF s m wn d w = SF s m wn (d ||| 2 ^ e) (w ||| 2 ^ e) + SF s m wn (d ||| 2 ^ e) w ∧ SH s m wn d w = SH s m wn (d ||| 2 ^ e) (w ||| 2 ^ e) + SH s m wn (d ||| 2 ^ e) w ∧ AG s d w = AG s (d ||| 2 ^ e) (w ||| 2 ^ e) + AG s (d ||| 2 ^ e) w := by
  have nb : ∀ o : Nat, o.testBit e = false ↔ ¬ o.testBit e = true := fun o => by cases o.testBit e <;> simp
  refine ⟨?_, ?_, ?_⟩
  · unfold SF
    rw [← sumN_add]
    refine sumN_congr _ (fun o _ => ?_)
    obtain ⟨h1, h2⟩ := agr_split (o := o) he hd hw
    exact cif_split (Q := o.testBit e = true) (by rw [h1]; exact ⟨fun z => ⟨⟨z.1.1, z.2⟩, z.1.2⟩, fun z => ⟨⟨z.1.1, z.2⟩, z.1.2⟩⟩) (by rw [h2, nb]; exact ⟨fun z => ⟨⟨z.1.1, z.2⟩, z.1.2⟩, fun z => ⟨⟨z.1.1, z.2⟩, z.1.2⟩⟩)
  · unfold SH
    rw [← sumN_add]
    refine sumN_congr _ (fun o _ => ?_)
    obtain ⟨h1, h2⟩ := agr_split (o := o) he hd hw
    exact cif_split (Q := o.testBit e = true) (by rw [h1]; exact ⟨fun z => ⟨⟨z.1.1, z.2⟩, z.1.2⟩, fun z => ⟨⟨z.1.1, z.2⟩, z.1.2⟩⟩) (by rw [h2, nb]; exact ⟨fun z => ⟨⟨z.1.1, z.2⟩, z.1.2⟩, fun z => ⟨⟨z.1.1, z.2⟩, z.1.2⟩⟩)
  · unfold AG
    rw [← sumN_add]
    refine sumN_congr _ (fun o _ => ?_)
    obtain ⟨h1, h2⟩ := agr_split (o := o) he hd hw
    exact cif_split (Q := o.testBit e = true) h1 (by rw [h2, nb])
theorem reg_split {s : SV} {m : Nat} {wn : Nat → Nat} {d w e : Nat} (he : e < s.n) (hd : d.testBit e = false) (hw : w.testBit e = false) (o : Nat) : reg s m wn d w o ↔ reg s m wn (d ||| 2 ^ e) (w ||| 2 ^ e) o ∨ reg s m wn (d ||| 2 ^ e) w o := by
  obtain ⟨h1, h2⟩ := agr_split (o := o) he hd hw
  unfold reg
  rw [h1, h2]
  cases o.testBit e <;> simp
/-- both ways, one after the other -/
theorem DP.both {s : SV} {m : Nat} {wn : Nat → Nat} {d w e : Nat} {any : Bool} {a b c : ACC} (he : e < s.n) (hd : d.testBit e = false) (hw : w.testBit e = false) (h1 : DP s m wn (d ||| 2 ^ e) (w ||| 2 ^ e) any a b) (h2 : DP s m wn (d ||| 2 ^ e) w any b c) : DP s m wn d w any a c := by
  obtain ⟨e1, e2, -⟩ := sums_split (m := m) (wn := wn) he hd hw
  obtain ⟨a1, a2, a3, a4⟩ := h1
  obtain ⟨b1, b2, b3, b4⟩ := h2
  refine ⟨by omega, by omega, fun z => ?_, fun z => ?_⟩
  · rw [e1] at z
    by_cases y : 0 < SF s m wn (d ||| 2 ^ e) (w ||| 2 ^ e)
    · have := a3 y; omega
    · exact b3 (by omega)
  · obtain ⟨c1, c2, c3, c4⟩ := a4 z
    obtain ⟨d1, d2, d3, d4⟩ := b4 z
    refine ⟨by omega, by omega, fun P hP => (d3 _ (c3 P hP)).congr (fun o => ?_), fun v hv k => ?_⟩
    · rw [reg_split he hd hw o]
      exact or_assoc
    · rw [d4 v hv k, c4 v hv k]
      constructor
      · rintro ((z | ⟨o, y, x⟩) | ⟨o, y, x⟩)
        · exact Or.inl z
        · exact Or.inr ⟨o, (reg_split he hd hw o).mpr (Or.inl y), x⟩
        · exact Or.inr ⟨o, (reg_split he hd hw o).mpr (Or.inr y), x⟩
      · rintro (z | ⟨o, y, x⟩)
        · exact Or.inl (Or.inl z)
        · rcases (reg_split he hd hw o).mp y with y | y
          · exact Or.inl (Or.inr ⟨o, y, x⟩)
          · exact Or.inr ⟨o, y, x⟩
/-- an edge that can't work, or can't but work -/
theorem reg_yes0 {s : SV} {m : Nat} {wn : Nat → Nat} {d w e : Nat} (he : e < s.n) (hd : d.testBit e = false) (hw : w.testBit e = false) (h0 : s.W e = 0) : ∀ o, ¬ reg s m wn (d ||| 2 ^ e) (w ||| 2 ^ e) o := by
  rintro o ⟨-, h2, -, h4⟩
  have := ((agr_split (o := o) he hd hw).1.mp h2).2
  rw [wtN_zero s.n he (by rw [this, h0]; rfl)] at h4
  omega
theorem reg_no0 {s : SV} {m : Nat} {wn : Nat → Nat} {d w e : Nat} (he : e < s.n) (hd : d.testBit e = false) (hw : w.testBit e = false) (h0 : s.W e = 10) : ∀ o, ¬ reg s m wn (d ||| 2 ^ e) w o := by
  rintro o ⟨-, h2, -, h4⟩
  have := ((agr_split (o := o) he hd hw).2.mp h2).2
  rw [wtN_zero s.n he (by rw [this, h0]; rfl)] at h4
  omega
/-- the leaf's own outcome -/
theorem agrK_n {s : SV} {d w o : Nat} : agrK d w o s.n ↔ agr s d w o := Iff.rfl
theorem ouK_agr {s : SV} {d w : Nat} (hdw : ∀ e, w.testBit e = true → d.testBit e = true) : agr s d w (ouK s.W d w s.n) := fun e _ hd => by
  rw [ouK_tb hdw, hd]; simp
theorem ouK_wt {W : Nat → Nat} {d w n : Nat} (hdw : ∀ e, w.testBit e = true → d.testBit e = true) : ∀ k, k ≤ n → wtN W (ouK W d w n) k = mxK W d w k
  | 0, _ => rfl
  | k + 1, hk => by
    show wtN W (ouK W d w n) k * (if (ouK W d w n).testBit k then W k else 10 - W k) = mxK W d w k * _
    rw [ouK_wt hdw k (by omega), ouK_tb hdw]
    congr 1
    cases hd : d.testBit k with
    | true => simp
    | false =>
      by_cases c : 10 - W k < W k
      · simp [c, show k < n by omega]
      · simp [c]
theorem mxK_le {W : Nat → Nat} {d w n : Nat} (hW : ∀ e, e < n → W e ≤ 10) : ∀ k, k ≤ n → mxK W d w k ≤ 10 ^ k
  | 0, _ => Nat.le_refl _
  | k + 1, h => by
    unfold mxK
    rw [Nat.pow_succ]
    refine Nat.mul_le_mul (mxK_le hW k (by omega)) ?_
    have := hW k (by omega)
    split
    · split <;> omega
    · split <;> omega
/-- the leaf -/
theorem DP.leaf {s : SV} {m : Nat} {wn : Nat → Nat} {d w : Nat} {any : Bool} {a : ACC} {t : Nat → Nat} (hW : WE s) (hw2 : w < 2 ^ s.n) (hdw : ∀ e, w.testBit e = true → d.testBit e = true) (hp : 0 < pwD s.W d w s.n) (ht : ∀ o, agr s d w o → ∀ v, v < 8 → tau s m o v = t v) (hf : ∀ o, agr s d w o → fitW s m wn o) : DP s m wn d w any a (colA s t d w (pwD s.W d w s.n) a) := by
  have hWe : ∀ e, e < s.n → s.W e ≤ 10 := fun e he => (hW.2.1 e he).2.2.1
  have hS : pwD s.W d w s.n * tens d s.n = AG s d w := by rw [pwD_tens]; exact (sum_agr hWe s.n (Nat.le_refl _)).symm
  have hSF : SF s m wn d w = AG s d w := sumN_congr _ (fun o _ => cif_c ⟨fun z => z.1, fun z => ⟨z, hf o z⟩⟩)
  have hcc : ∀ o, agr s d w o → hc (tau s m o) = hc t := fun o ho => sumN_congr _ (fun v hv => by rw [ht o ho v hv])
  have hSH : SH s m wn d w = AG s d w * hc t := by
    unfold SH AG
    rw [← sumN_mul]
    refine sumN_congr _ (fun o _ => ?_)
    by_cases z : agr s d w o
    · rw [cif_t ⟨z, hf o z⟩, cif_t z, hcc o z]
    · rw [cif_f (fun y => z y.1), cif_f z, Nat.zero_mul]
  have hhs : hsum t (AG s d w) 8 = AG s d w * hc t := by
    unfold hsum hc
    rw [Nat.mul_comm, ← sumN_mul]
    refine sumN_congr _ (fun v _ => ?_)
    split <;> omega
  have hou := ouK_agr (s := s) hdw
  have howt := ouK_wt (W := s.W) (n := s.n) hdw s.n (Nat.le_refl _)
  have hlt := ouK_lt (W := s.W) (d := d) hw2 s.n (Nat.le_refl _)
  have hmx : 0 < mxK s.W d w s.n := (best_leaf (o := ouK s.W d w s.n) hWe hdw s.n (Nat.le_refl _) hou hp).2.1
  have hgr : grK s.W d s.n (pwD s.W d w s.n) = mxK s.W d w s.n := by rw [grK_lin, grK_mx]
  have hreg : reg s m wn d w (ouK s.W d w s.n) := ⟨hlt, hou, hf _ hou, by rw [howt]; exact hmx⟩
  have hAG : 0 < AG s d w := (sumN_pos _).mpr ⟨_, hlt, by rw [cif_t hou, howt]; exact hmx⟩
  have etot : (colA s t d w (pwD s.W d w s.n) a).tot = a.tot + AG s d w := by show a.tot + _ = _; rw [hS]
  refine ⟨by omega, by omega, fun _ => by omega, fun _ => ⟨by omega, ?_, fun P hP => ?_, fun v hv k => ?_⟩⟩
  · show a.hrd + hsum t (pwD s.W d w s.n * tens d s.n) 8 = _
    rw [hS, hhs, hSH]
  · show BestOf s _ (cif (kbC a.bw a.bo (grK s.W d s.n (pwD s.W d w s.n)) (ouK s.W d w s.n)) _ a.bw) (cif (kbC a.bw a.bo (grK s.W d s.n (pwD s.W d w s.n)) (ouK s.W d w s.n)) _ a.bo)
    rw [hgr]
    have hb : ∀ o, reg s m wn d w o → wtN s.W o s.n < mxK s.W d w s.n ∨ (wtN s.W o s.n = mxK s.W d w s.n ∧ ouK s.W d w s.n ≤ o) := by
      rintro o ⟨h1, h2, h3, h4⟩
      obtain ⟨b1, b2, b3⟩ := best_leaf hWe hdw s.n (Nat.le_refl _) (agrK_n.mpr h2) hp
      by_cases z : wtN s.W o s.n = mxK s.W d w s.n
      · have := b3 z
        rw [Nat.mod_eq_of_lt hlt, Nat.mod_eq_of_lt h1] at this
        exact Or.inr ⟨z, this⟩
      · exact Or.inl (Nat.lt_of_le_of_ne b1 z)
    by_cases c : kbC a.bw a.bo (mxK s.W d w s.n) (ouK s.W d w s.n)
    · rw [cif_t c, cif_t c]
      refine Or.inr ⟨_, rfl, Or.inr hreg, howt, hmx, fun o ho => ?_⟩
      rcases ho with ho | ho
      · rcases hP with ⟨p1, p2, p3⟩ | ⟨b, p1, p2, p3, p4, p5⟩
        · exact absurd ho (p3 o)
        · rcases c with c | ⟨c1, b', c2, c3⟩
          · rcases p5 o ho with q | q
            · exact Or.inl (by omega)
            · exact Or.inl (by omega)
          · rw [p1] at c2
            cases c2
            rcases p5 o ho with q | q
            · exact Or.inl (by omega)
            · exact Or.inr ⟨by omega, by omega⟩
      · exact hb o ho
    · rw [cif_f c, cif_f c]
      rcases hP with ⟨p1, p2, p3⟩ | ⟨b, p1, p2, p3, p4, p5⟩
      · exact absurd (Or.inl (by omega)) c
      · refine Or.inr ⟨b, p1, Or.inl p2, p3, p4, fun o ho => ?_⟩
        rcases ho with ho | ho
        · exact p5 o ho
        · have hle : mxK s.W d w s.n ≤ a.bw := Nat.not_lt.mp (fun z => c (Or.inl z))
          rcases hb o ho with q | q
          · exact Or.inl (by omega)
          · by_cases y : mxK s.W d w s.n = a.bw
            · refine Or.inr ⟨by omega, ?_⟩
              have : ¬ ouK s.W d w s.n < b := fun z => c (Or.inr ⟨y, b, p1, z⟩)
              omega
            · exact Or.inl (by omega)
  · show (a.met v ||| 2 ^ t v).testBit k = true ↔ _
    rw [tb_or]
    simp only [Bool.or_eq_true, decide_eq_true_eq]
    constructor
    · rintro (z | z)
      · exact Or.inl z
      · exact Or.inr ⟨_, hreg, by rw [ht _ hou v hv]; exact z⟩
    · rintro (z | ⟨o, y, x⟩)
      · exact Or.inl z
      · exact Or.inr (by rw [← x]; exact (ht o y.2.1 v hv).symm)
theorem colA_ok {s : SV} {t : Nat → Nat} {d w wt : Nat} {a : ACC} (ha : acOK a) (hg : grK s.W d s.n wt ≤ 1000000000000) (ho : ouK s.W d w s.n < 4096) (ht : ∀ v, v < 8 → t v ≤ 31) : acOK (colA s t d w wt a) := by
  obtain ⟨h1, h2, h3⟩ := ha
  refine ⟨?_, fun b hb => ?_, fun v hv => ?_⟩
  · show cif _ _ a.bw ≤ _
    by_cases c : kbC a.bw a.bo (grK s.W d s.n wt) (ouK s.W d w s.n)
    · rw [cif_t c]; exact hg
    · rw [cif_f c]; exact h1
  · have hb' : cif (kbC a.bw a.bo (grK s.W d s.n wt) (ouK s.W d w s.n)) (some (ouK s.W d w s.n)) a.bo = some b := hb
    by_cases c : kbC a.bw a.bo (grK s.W d s.n wt) (ouK s.W d w s.n)
    · rw [cif_t c] at hb'; cases hb'; exact ho
    · rw [cif_f c] at hb'; exact h2 b hb'
  · have e : (4294967296 : Nat) = 2 ^ 32 := by decide
    show a.met v ||| 2 ^ t v < 4294967296
    rw [e]
    exact Nat.or_lt_two_pow (by rw [← e]; exact h3 v hv) (Nat.pow_lt_pow_right (by decide) (by have := ht v hv; omega))
/-- how many edges are undecided -/
def und (d : Nat) : Nat → Nat
  | 0 => 0
  | k + 1 => und d k + (if d.testBit k then 0 else 1)
theorem und_congr {d d' : Nat} : ∀ k, (∀ e, e < k → d.testBit e = d'.testBit e) → und d k = und d' k
  | 0, _ => rfl
  | k + 1, h => by
    unfold und
    rw [und_congr k (fun e he => h e (by omega)), h k (by omega)]
theorem und_or {d e : Nat} (hd : d.testBit e = false) : ∀ k, e < k → und (d ||| 2 ^ e) k + 1 = und d k := by
  intro k
  induction k with
  | zero => intro h; omega
  | succ k ih =>
    intro hk
    unfold und
    by_cases z : e = k
    · subst z
      rw [und_congr (d' := d) e (fun q hq => by simp [tb_or, show ¬ e = q by omega])]
      simp [tb_or, hd]
    · have := ih (by omega)
      simp only [tb_or, z, decide_false, Bool.or_false]
      omega
theorem und_0 : ∀ k, und 0 k = k
  | 0 => rfl
  | k + 1 => by unfold und; rw [und_0 k]; simp
theorem SF_le {s : SV} {m : Nat} {wn : Nat → Nat} {d w : Nat} : SF s m wn d w ≤ AG s d w := sumN_le _ (fun o _ => by
  by_cases z : agr s d w o ∧ fitW s m wn o
  · rw [cif_t z, cif_t z.1]; exact Nat.le_refl _
  · rw [cif_f z]; exact Nat.zero_le _)
end FOUND
