/-! Rows of the abstract machine, and its runs. -/
section RUN
def xIg (lv : List (Nat × Value)) (a : Nat) (f : Int32 → Prop) : Prop := xI (lget lv a) f
def xLg (lv : List (Nat × Value)) (a : Nat) (f : Int64 → Prop) : Prop := xL (lget lv a) f
def xRg (lv : List (Nat × Value)) (a : Nat) (f : Nat → Prop) : Prop := xR (lget lv a) f
def lrmK (i : Nat) (two : Bool) (lv : List (Nat × Value)) (f : List (Nat × Value) → Prop) : Prop := f (lrm i two lv)
def lsto (i : Nat) (v : Value) (two : Bool) (lv : List (Nat × Value)) (f : List (Nat × Value) → Prop) : Prop := f ((i, v) :: lrm i two lv)
def gfK (X : XT) (c k j : Nat) (f : Value → Prop) : Prop := f (fvA X c k j)
theorem xIg_c (j a : Nat) (u : Value) (r : List (Nat × Value)) (f : Int32 → Prop) : xIg ((j, u) :: r) a f = if j = a then xI (some u) f else xIg r a f := by
  unfold xIg
  show xI (if j = a then some u else lget r a) f = _
  split <;> rfl
theorem xLg_c (j a : Nat) (u : Value) (r : List (Nat × Value)) (f : Int64 → Prop) : xLg ((j, u) :: r) a f = if j = a then xL (some u) f else xLg r a f := by
  unfold xLg
  show xL (if j = a then some u else lget r a) f = _
  split <;> rfl
theorem xRg_c (j a : Nat) (u : Value) (r : List (Nat × Value)) (f : Nat → Prop) : xRg ((j, u) :: r) a f = if j = a then xR (some u) f else xRg r a f := by
  unfold xRg
  show xR (if j = a then some u else lget r a) f = _
  split <;> rfl
theorem lsto_e (i : Nat) (v : Value) (two : Bool) (lv : List (Nat × Value)) (f : List (Nat × Value) → Prop) : lsto i v two lv f = lrmK i two lv (fun l => f ((i, v) :: l)) := (rfl)
theorem lrmK_n (i : Nat) (two : Bool) (f : List (Nat × Value) → Prop) : lrmK i two [] f = f [] := (rfl)
theorem lrmK_f (i j : Nat) (u : Value) (r : List (Nat × Value)) (f : List (Nat × Value) → Prop) : lrmK i false ((j, u) :: r) f = if j = i then lrmK i false r f else if j + 1 = i ∧ u.category = 2 then lrmK i false r f else lrmK i false r (fun l => f ((j, u) :: l)) := by
  show f (lrm i false ((j, u) :: r)) = _
  unfold lrmK
  have e : lrm i false ((j, u) :: r) = if j = i then lrm i false r else if false = true ∧ j = i + 1 then lrm i false r else if j + 1 = i ∧ u.category = 2 then lrm i false r else (j, u) :: lrm i false r := rfl
  rw [e, if_neg (show ¬ (false = true ∧ j = i + 1) from fun z => by cases z.1)]
  split
  · rfl
  · split <;> rfl
theorem lrmK_t (i j : Nat) (u : Value) (r : List (Nat × Value)) (f : List (Nat × Value) → Prop) : lrmK i true ((j, u) :: r) f = if j = i then lrmK i true r f else if j = i + 1 then lrmK i true r f else if j + 1 = i ∧ u.category = 2 then lrmK i true r f else lrmK i true r (fun l => f ((j, u) :: l)) := by
  show f (lrm i true ((j, u) :: r)) = _
  unfold lrmK
  have e : lrm i true ((j, u) :: r) = if j = i then lrm i true r else if true = true ∧ j = i + 1 then lrm i true r else if j + 1 = i ∧ u.category = 2 then lrm i true r else (j, u) :: lrm i true r := rfl
  rw [e]
  by_cases h1 : j = i
  · simp [h1]
  · by_cases h2 : j = i + 1
    · simp [h2]
    · by_cases h3 : j + 1 = i ∧ u.category = 2 <;> simp [h1, h2, h3]
theorem ex_iload (rt : Nat) (calls : List CE) (sc : Option (Nat → Int32)) (L : Nat) (post : Option Value → XT → Prop) (len a b : Nat) (k : Int32) (w : Int64) (pc : Nat) (lv : List (Nat × Value)) (st : List Value) (X : XT) (κ : KT) (i : Nat) : exec rt calls sc L post (.iload i, len, a, b, k, w) pc lv st X κ = (xIg lv a fun x => κ (pc + 2) lv (.int x :: st) X) := (rfl)
theorem ex_iload_n (rt : Nat) (calls : List CE) (sc : Option (Nat → Int32)) (L : Nat) (post : Option Value → XT → Prop) (len a b : Nat) (k : Int32) (w : Int64) (pc : Nat) (lv : List (Nat × Value)) (st : List Value) (X : XT) (κ : KT) (i : Fin 4) : exec rt calls sc L post (.iload_n i, len, a, b, k, w) pc lv st X κ = (xIg lv a fun x => κ (pc + 1) lv (.int x :: st) X) := (rfl)
theorem ex_lload (rt : Nat) (calls : List CE) (sc : Option (Nat → Int32)) (L : Nat) (post : Option Value → XT → Prop) (len a b : Nat) (k : Int32) (w : Int64) (pc : Nat) (lv : List (Nat × Value)) (st : List Value) (X : XT) (κ : KT) (i : Nat) : exec rt calls sc L post (.lload i, len, a, b, k, w) pc lv st X κ = (xLg lv a fun x => κ (pc + 2) lv (.long x :: st) X) := (rfl)
theorem ex_lload_n (rt : Nat) (calls : List CE) (sc : Option (Nat → Int32)) (L : Nat) (post : Option Value → XT → Prop) (len a b : Nat) (k : Int32) (w : Int64) (pc : Nat) (lv : List (Nat × Value)) (st : List Value) (X : XT) (κ : KT) (i : Fin 4) : exec rt calls sc L post (.lload_n i, len, a, b, k, w) pc lv st X κ = (xLg lv a fun x => κ (pc + 1) lv (.long x :: st) X) := (rfl)
theorem ex_aload (rt : Nat) (calls : List CE) (sc : Option (Nat → Int32)) (L : Nat) (post : Option Value → XT → Prop) (len a b : Nat) (k : Int32) (w : Int64) (pc : Nat) (lv : List (Nat × Value)) (st : List Value) (X : XT) (κ : KT) (i : Nat) : exec rt calls sc L post (.aload i, len, a, b, k, w) pc lv st X κ = (xRg lv a fun x => κ (pc + 2) lv (.ref x :: st) X) := (rfl)
theorem ex_aload_n (rt : Nat) (calls : List CE) (sc : Option (Nat → Int32)) (L : Nat) (post : Option Value → XT → Prop) (len a b : Nat) (k : Int32) (w : Int64) (pc : Nat) (lv : List (Nat × Value)) (st : List Value) (X : XT) (κ : KT) (i : Fin 4) : exec rt calls sc L post (.aload_n i, len, a, b, k, w) pc lv st X κ = (xRg lv a fun x => κ (pc + 1) lv (.ref x :: st) X) := (rfl)
theorem ex_istore (rt : Nat) (calls : List CE) (sc : Option (Nat → Int32)) (L : Nat) (post : Option Value → XT → Prop) (len a b : Nat) (k : Int32) (w : Int64) (pc : Nat) (lv : List (Nat × Value)) (st : List Value) (X : XT) (κ : KT) (i : Nat) : exec rt calls sc L post (.istore i, len, a, b, k, w) pc lv st X κ = (s1I st fun x r => lsto a (.int x) false lv fun lv1 => κ (pc + 2) lv1 r X) := (rfl)
theorem ex_istore_n (rt : Nat) (calls : List CE) (sc : Option (Nat → Int32)) (L : Nat) (post : Option Value → XT → Prop) (len a b : Nat) (k : Int32) (w : Int64) (pc : Nat) (lv : List (Nat × Value)) (st : List Value) (X : XT) (κ : KT) (i : Fin 4) : exec rt calls sc L post (.istore_n i, len, a, b, k, w) pc lv st X κ = (s1I st fun x r => lsto a (.int x) false lv fun lv1 => κ (pc + 1) lv1 r X) := (rfl)
theorem ex_lstore (rt : Nat) (calls : List CE) (sc : Option (Nat → Int32)) (L : Nat) (post : Option Value → XT → Prop) (len a b : Nat) (k : Int32) (w : Int64) (pc : Nat) (lv : List (Nat × Value)) (st : List Value) (X : XT) (κ : KT) (i : Nat) : exec rt calls sc L post (.lstore i, len, a, b, k, w) pc lv st X κ = (s1L st fun x r => lsto a (.long x) true lv fun lv1 => κ (pc + 2) lv1 r X) := (rfl)
theorem ex_lstore_n (rt : Nat) (calls : List CE) (sc : Option (Nat → Int32)) (L : Nat) (post : Option Value → XT → Prop) (len a b : Nat) (k : Int32) (w : Int64) (pc : Nat) (lv : List (Nat × Value)) (st : List Value) (X : XT) (κ : KT) (i : Fin 4) : exec rt calls sc L post (.lstore_n i, len, a, b, k, w) pc lv st X κ = (s1L st fun x r => lsto a (.long x) true lv fun lv1 => κ (pc + 1) lv1 r X) := (rfl)
theorem ex_astore (rt : Nat) (calls : List CE) (sc : Option (Nat → Int32)) (L : Nat) (post : Option Value → XT → Prop) (len a b : Nat) (k : Int32) (w : Int64) (pc : Nat) (lv : List (Nat × Value)) (st : List Value) (X : XT) (κ : KT) (i : Nat) : exec rt calls sc L post (.astore i, len, a, b, k, w) pc lv st X κ = (s1R st fun x r => lsto a (.ref x) false lv fun lv1 => κ (pc + 2) lv1 r X) := (rfl)
theorem ex_astore_n (rt : Nat) (calls : List CE) (sc : Option (Nat → Int32)) (L : Nat) (post : Option Value → XT → Prop) (len a b : Nat) (k : Int32) (w : Int64) (pc : Nat) (lv : List (Nat × Value)) (st : List Value) (X : XT) (κ : KT) (i : Fin 4) : exec rt calls sc L post (.astore_n i, len, a, b, k, w) pc lv st X κ = (s1R st fun x r => lsto a (.ref x) false lv fun lv1 => κ (pc + 1) lv1 r X) := (rfl)
theorem ex_iinc (rt : Nat) (calls : List CE) (sc : Option (Nat → Int32)) (L : Nat) (post : Option Value → XT → Prop) (len a b : Nat) (k : Int32) (w : Int64) (pc : Nat) (lv : List (Nat × Value)) (st : List Value) (X : XT) (κ : KT) (i : Nat) (n : Int) : exec rt calls sc L post (.iinc i n, len, a, b, k, w) pc lv st X κ = (xIg lv a fun x => lsto a (.int (x + k)) false lv fun lv1 => κ (pc + 3) lv1 st X) := (rfl)
theorem ex_iconst (rt : Nat) (calls : List CE) (sc : Option (Nat → Int32)) (L : Nat) (post : Option Value → XT → Prop) (len a b : Nat) (k : Int32) (w : Int64) (pc : Nat) (lv : List (Nat × Value)) (st : List Value) (X : XT) (κ : KT) (n : Int) : exec rt calls sc L post (.iconst n, len, a, b, k, w) pc lv st X κ = (κ (pc + 1) lv (.int k :: st) X) := (rfl)
theorem ex_bipush (rt : Nat) (calls : List CE) (sc : Option (Nat → Int32)) (L : Nat) (post : Option Value → XT → Prop) (len a b : Nat) (k : Int32) (w : Int64) (pc : Nat) (lv : List (Nat × Value)) (st : List Value) (X : XT) (κ : KT) (n : Int) : exec rt calls sc L post (.bipush n, len, a, b, k, w) pc lv st X κ = (κ (pc + 2) lv (.int k :: st) X) := (rfl)
theorem ex_sipush (rt : Nat) (calls : List CE) (sc : Option (Nat → Int32)) (L : Nat) (post : Option Value → XT → Prop) (len a b : Nat) (k : Int32) (w : Int64) (pc : Nat) (lv : List (Nat × Value)) (st : List Value) (X : XT) (κ : KT) (n : Int) : exec rt calls sc L post (.sipush n, len, a, b, k, w) pc lv st X κ = (κ (pc + 3) lv (.int k :: st) X) := (rfl)
theorem ex_ldc (rt : Nat) (calls : List CE) (sc : Option (Nat → Int32)) (L : Nat) (post : Option Value → XT → Prop) (len a b : Nat) (k : Int32) (w : Int64) (pc : Nat) (lv : List (Nat × Value)) (st : List Value) (X : XT) (κ : KT) (i : Nat) : exec rt calls sc L post (.ldc i, len, a, b, k, w) pc lv st X κ = (κ (pc + 2) lv (.int k :: st) X) := (rfl)
theorem ex_lconst (rt : Nat) (calls : List CE) (sc : Option (Nat → Int32)) (L : Nat) (post : Option Value → XT → Prop) (len a b : Nat) (k : Int32) (w : Int64) (pc : Nat) (lv : List (Nat × Value)) (st : List Value) (X : XT) (κ : KT) (n : Fin 2) : exec rt calls sc L post (.lconst n, len, a, b, k, w) pc lv st X κ = (κ (pc + 1) lv (.long w :: st) X) := (rfl)
theorem ex_ldc2_w (rt : Nat) (calls : List CE) (sc : Option (Nat → Int32)) (L : Nat) (post : Option Value → XT → Prop) (len a b : Nat) (k : Int32) (w : Int64) (pc : Nat) (lv : List (Nat × Value)) (st : List Value) (X : XT) (κ : KT) (i : Nat) : exec rt calls sc L post (.ldc2_w i, len, a, b, k, w) pc lv st X κ = (κ (pc + 3) lv (.long w :: st) X) := (rfl)
theorem ex_iadd (rt : Nat) (calls : List CE) (sc : Option (Nat → Int32)) (L : Nat) (post : Option Value → XT → Prop) (len a b : Nat) (k : Int32) (w : Int64) (pc : Nat) (lv : List (Nat × Value)) (st : List Value) (X : XT) (κ : KT)  : exec rt calls sc L post (.iadd, len, a, b, k, w) pc lv st X κ = (s2I st fun x y r => κ (pc + 1) lv (.int (x + y) :: r) X) := (rfl)
theorem ex_isub (rt : Nat) (calls : List CE) (sc : Option (Nat → Int32)) (L : Nat) (post : Option Value → XT → Prop) (len a b : Nat) (k : Int32) (w : Int64) (pc : Nat) (lv : List (Nat × Value)) (st : List Value) (X : XT) (κ : KT)  : exec rt calls sc L post (.isub, len, a, b, k, w) pc lv st X κ = (s2I st fun x y r => κ (pc + 1) lv (.int (x - y) :: r) X) := (rfl)
theorem ex_imul (rt : Nat) (calls : List CE) (sc : Option (Nat → Int32)) (L : Nat) (post : Option Value → XT → Prop) (len a b : Nat) (k : Int32) (w : Int64) (pc : Nat) (lv : List (Nat × Value)) (st : List Value) (X : XT) (κ : KT)  : exec rt calls sc L post (.imul, len, a, b, k, w) pc lv st X κ = (s2I st fun x y r => κ (pc + 1) lv (.int (x * y) :: r) X) := (rfl)
theorem ex_iand (rt : Nat) (calls : List CE) (sc : Option (Nat → Int32)) (L : Nat) (post : Option Value → XT → Prop) (len a b : Nat) (k : Int32) (w : Int64) (pc : Nat) (lv : List (Nat × Value)) (st : List Value) (X : XT) (κ : KT)  : exec rt calls sc L post (.iand, len, a, b, k, w) pc lv st X κ = (s2I st fun x y r => κ (pc + 1) lv (.int (x &&& y) :: r) X) := (rfl)
theorem ex_ior (rt : Nat) (calls : List CE) (sc : Option (Nat → Int32)) (L : Nat) (post : Option Value → XT → Prop) (len a b : Nat) (k : Int32) (w : Int64) (pc : Nat) (lv : List (Nat × Value)) (st : List Value) (X : XT) (κ : KT)  : exec rt calls sc L post (.ior, len, a, b, k, w) pc lv st X κ = (s2I st fun x y r => κ (pc + 1) lv (.int (x ||| y) :: r) X) := (rfl)
theorem ex_ishl (rt : Nat) (calls : List CE) (sc : Option (Nat → Int32)) (L : Nat) (post : Option Value → XT → Prop) (len a b : Nat) (k : Int32) (w : Int64) (pc : Nat) (lv : List (Nat × Value)) (st : List Value) (X : XT) (κ : KT)  : exec rt calls sc L post (.ishl, len, a, b, k, w) pc lv st X κ = (s2I st fun x y r => κ (pc + 1) lv (.int (x <<< (y &&& 31)) :: r) X) := (rfl)
theorem ex_ishr (rt : Nat) (calls : List CE) (sc : Option (Nat → Int32)) (L : Nat) (post : Option Value → XT → Prop) (len a b : Nat) (k : Int32) (w : Int64) (pc : Nat) (lv : List (Nat × Value)) (st : List Value) (X : XT) (κ : KT)  : exec rt calls sc L post (.ishr, len, a, b, k, w) pc lv st X κ = (s2I st fun x y r => κ (pc + 1) lv (.int (x >>> (y &&& 31)) :: r) X) := (rfl)
theorem ex_iushr (rt : Nat) (calls : List CE) (sc : Option (Nat → Int32)) (L : Nat) (post : Option Value → XT → Prop) (len a b : Nat) (k : Int32) (w : Int64) (pc : Nat) (lv : List (Nat × Value)) (st : List Value) (X : XT) (κ : KT)  : exec rt calls sc L post (.iushr, len, a, b, k, w) pc lv st X κ = (s2I st fun x y r => κ (pc + 1) lv (.int (x.toUInt32 >>> (y.toUInt32 &&& Int32.toUInt32 31)).toInt32 :: r) X) := (rfl)
theorem ex_idiv (rt : Nat) (calls : List CE) (sc : Option (Nat → Int32)) (L : Nat) (post : Option Value → XT → Prop) (len a b : Nat) (k : Int32) (w : Int64) (pc : Nat) (lv : List (Nat × Value)) (st : List Value) (X : XT) (κ : KT)  : exec rt calls sc L post (.idiv, len, a, b, k, w) pc lv st X κ = (s2I st fun x y r => ¬ y = 0 ∧ κ (pc + 1) lv (.int (x / y) :: r) X) := (rfl)
theorem ex_irem (rt : Nat) (calls : List CE) (sc : Option (Nat → Int32)) (L : Nat) (post : Option Value → XT → Prop) (len a b : Nat) (k : Int32) (w : Int64) (pc : Nat) (lv : List (Nat × Value)) (st : List Value) (X : XT) (κ : KT)  : exec rt calls sc L post (.irem, len, a, b, k, w) pc lv st X κ = (s2I st fun x y r => ¬ y = 0 ∧ κ (pc + 1) lv (.int (x - x / y * y) :: r) X) := (rfl)
theorem ex_ladd (rt : Nat) (calls : List CE) (sc : Option (Nat → Int32)) (L : Nat) (post : Option Value → XT → Prop) (len a b : Nat) (k : Int32) (w : Int64) (pc : Nat) (lv : List (Nat × Value)) (st : List Value) (X : XT) (κ : KT)  : exec rt calls sc L post (.ladd, len, a, b, k, w) pc lv st X κ = (s2L st fun x y r => κ (pc + 1) lv (.long (x + y) :: r) X) := (rfl)
theorem ex_lsub (rt : Nat) (calls : List CE) (sc : Option (Nat → Int32)) (L : Nat) (post : Option Value → XT → Prop) (len a b : Nat) (k : Int32) (w : Int64) (pc : Nat) (lv : List (Nat × Value)) (st : List Value) (X : XT) (κ : KT)  : exec rt calls sc L post (.lsub, len, a, b, k, w) pc lv st X κ = (s2L st fun x y r => κ (pc + 1) lv (.long (x - y) :: r) X) := (rfl)
theorem ex_lmul (rt : Nat) (calls : List CE) (sc : Option (Nat → Int32)) (L : Nat) (post : Option Value → XT → Prop) (len a b : Nat) (k : Int32) (w : Int64) (pc : Nat) (lv : List (Nat × Value)) (st : List Value) (X : XT) (κ : KT)  : exec rt calls sc L post (.lmul, len, a, b, k, w) pc lv st X κ = (s2L st fun x y r => κ (pc + 1) lv (.long (x * y) :: r) X) := (rfl)
theorem ex_land (rt : Nat) (calls : List CE) (sc : Option (Nat → Int32)) (L : Nat) (post : Option Value → XT → Prop) (len a b : Nat) (k : Int32) (w : Int64) (pc : Nat) (lv : List (Nat × Value)) (st : List Value) (X : XT) (κ : KT)  : exec rt calls sc L post (.land, len, a, b, k, w) pc lv st X κ = (s2L st fun x y r => κ (pc + 1) lv (.long (x &&& y) :: r) X) := (rfl)
theorem ex_lor (rt : Nat) (calls : List CE) (sc : Option (Nat → Int32)) (L : Nat) (post : Option Value → XT → Prop) (len a b : Nat) (k : Int32) (w : Int64) (pc : Nat) (lv : List (Nat × Value)) (st : List Value) (X : XT) (κ : KT)  : exec rt calls sc L post (.lor, len, a, b, k, w) pc lv st X κ = (s2L st fun x y r => κ (pc + 1) lv (.long (x ||| y) :: r) X) := (rfl)
theorem ex_ldiv (rt : Nat) (calls : List CE) (sc : Option (Nat → Int32)) (L : Nat) (post : Option Value → XT → Prop) (len a b : Nat) (k : Int32) (w : Int64) (pc : Nat) (lv : List (Nat × Value)) (st : List Value) (X : XT) (κ : KT)  : exec rt calls sc L post (.ldiv, len, a, b, k, w) pc lv st X κ = (s2L st fun x y r => ¬ y = 0 ∧ κ (pc + 1) lv (.long (x / y) :: r) X) := (rfl)
theorem ex_lcmp (rt : Nat) (calls : List CE) (sc : Option (Nat → Int32)) (L : Nat) (post : Option Value → XT → Prop) (len a b : Nat) (k : Int32) (w : Int64) (pc : Nat) (lv : List (Nat × Value)) (st : List Value) (X : XT) (κ : KT)  : exec rt calls sc L post (.lcmp, len, a, b, k, w) pc lv st X κ = (s2L st fun x y r => κ (pc + 1) lv (.int (lg_cmp x y) :: r) X) := (rfl)
theorem ex_lshl (rt : Nat) (calls : List CE) (sc : Option (Nat → Int32)) (L : Nat) (post : Option Value → XT → Prop) (len a b : Nat) (k : Int32) (w : Int64) (pc : Nat) (lv : List (Nat × Value)) (st : List Value) (X : XT) (κ : KT)  : exec rt calls sc L post (.lshl, len, a, b, k, w) pc lv st X κ = (sLI st fun x y r => κ (pc + 1) lv (.long (x <<< (y.toInt64 &&& 63)) :: r) X) := (rfl)
theorem ex_lushr (rt : Nat) (calls : List CE) (sc : Option (Nat → Int32)) (L : Nat) (post : Option Value → XT → Prop) (len a b : Nat) (k : Int32) (w : Int64) (pc : Nat) (lv : List (Nat × Value)) (st : List Value) (X : XT) (κ : KT)  : exec rt calls sc L post (.lushr, len, a, b, k, w) pc lv st X κ = (sLI st fun x y r => κ (pc + 1) lv (.long (x.toUInt64 >>> (y.toInt64.toUInt64 &&& Int64.toUInt64 63)).toInt64 :: r) X) := (rfl)
theorem ex_i2l (rt : Nat) (calls : List CE) (sc : Option (Nat → Int32)) (L : Nat) (post : Option Value → XT → Prop) (len a b : Nat) (k : Int32) (w : Int64) (pc : Nat) (lv : List (Nat × Value)) (st : List Value) (X : XT) (κ : KT)  : exec rt calls sc L post (.i2l, len, a, b, k, w) pc lv st X κ = (s1I st fun x r => κ (pc + 1) lv (.long x.toInt64 :: r) X) := (rfl)
theorem ex_l2i (rt : Nat) (calls : List CE) (sc : Option (Nat → Int32)) (L : Nat) (post : Option Value → XT → Prop) (len a b : Nat) (k : Int32) (w : Int64) (pc : Nat) (lv : List (Nat × Value)) (st : List Value) (X : XT) (κ : KT)  : exec rt calls sc L post (.l2i, len, a, b, k, w) pc lv st X κ = (s1L st fun x r => κ (pc + 1) lv (.int x.toInt32 :: r) X) := (rfl)
theorem ex_ifCond_eq (rt : Nat) (calls : List CE) (sc : Option (Nat → Int32)) (L : Nat) (post : Option Value → XT → Prop) (len a b : Nat) (k : Int32) (w : Int64) (pc : Nat) (lv : List (Nat × Value)) (st : List Value) (X : XT) (κ : KT) (o : Int) : exec rt calls sc L post (.ifCond .eq o, len, a, b, k, w) pc lv st X κ = (s1I st fun x r => (x = 0 → κ a lv r X) ∧ (¬ x = 0 → κ (pc + 3) lv r X)) := (rfl)
theorem ex_ifCond_ne (rt : Nat) (calls : List CE) (sc : Option (Nat → Int32)) (L : Nat) (post : Option Value → XT → Prop) (len a b : Nat) (k : Int32) (w : Int64) (pc : Nat) (lv : List (Nat × Value)) (st : List Value) (X : XT) (κ : KT) (o : Int) : exec rt calls sc L post (.ifCond .ne o, len, a, b, k, w) pc lv st X κ = (s1I st fun x r => (¬ x = 0 → κ a lv r X) ∧ (x = 0 → κ (pc + 3) lv r X)) := (rfl)
theorem ex_ifCond_lt (rt : Nat) (calls : List CE) (sc : Option (Nat → Int32)) (L : Nat) (post : Option Value → XT → Prop) (len a b : Nat) (k : Int32) (w : Int64) (pc : Nat) (lv : List (Nat × Value)) (st : List Value) (X : XT) (κ : KT) (o : Int) : exec rt calls sc L post (.ifCond .lt o, len, a, b, k, w) pc lv st X κ = (s1I st fun x r => (x < 0 → κ a lv r X) ∧ (¬ x < 0 → κ (pc + 3) lv r X)) := (rfl)
theorem ex_ifCond_ge (rt : Nat) (calls : List CE) (sc : Option (Nat → Int32)) (L : Nat) (post : Option Value → XT → Prop) (len a b : Nat) (k : Int32) (w : Int64) (pc : Nat) (lv : List (Nat × Value)) (st : List Value) (X : XT) (κ : KT) (o : Int) : exec rt calls sc L post (.ifCond .ge o, len, a, b, k, w) pc lv st X κ = (s1I st fun x r => (0 ≤ x → κ a lv r X) ∧ (¬ 0 ≤ x → κ (pc + 3) lv r X)) := (rfl)
theorem ex_ifCond_gt (rt : Nat) (calls : List CE) (sc : Option (Nat → Int32)) (L : Nat) (post : Option Value → XT → Prop) (len a b : Nat) (k : Int32) (w : Int64) (pc : Nat) (lv : List (Nat × Value)) (st : List Value) (X : XT) (κ : KT) (o : Int) : exec rt calls sc L post (.ifCond .gt o, len, a, b, k, w) pc lv st X κ = (s1I st fun x r => (0 < x → κ a lv r X) ∧ (¬ 0 < x → κ (pc + 3) lv r X)) := (rfl)
theorem ex_ifCond_le (rt : Nat) (calls : List CE) (sc : Option (Nat → Int32)) (L : Nat) (post : Option Value → XT → Prop) (len a b : Nat) (k : Int32) (w : Int64) (pc : Nat) (lv : List (Nat × Value)) (st : List Value) (X : XT) (κ : KT) (o : Int) : exec rt calls sc L post (.ifCond .le o, len, a, b, k, w) pc lv st X κ = (s1I st fun x r => (x ≤ 0 → κ a lv r X) ∧ (¬ x ≤ 0 → κ (pc + 3) lv r X)) := (rfl)
theorem ex_if_icmp_eq (rt : Nat) (calls : List CE) (sc : Option (Nat → Int32)) (L : Nat) (post : Option Value → XT → Prop) (len a b : Nat) (k : Int32) (w : Int64) (pc : Nat) (lv : List (Nat × Value)) (st : List Value) (X : XT) (κ : KT) (o : Int) : exec rt calls sc L post (.if_icmp .eq o, len, a, b, k, w) pc lv st X κ = (s2I st fun x y r => (x = y → κ a lv r X) ∧ (¬ x = y → κ (pc + 3) lv r X)) := (rfl)
theorem ex_if_icmp_ne (rt : Nat) (calls : List CE) (sc : Option (Nat → Int32)) (L : Nat) (post : Option Value → XT → Prop) (len a b : Nat) (k : Int32) (w : Int64) (pc : Nat) (lv : List (Nat × Value)) (st : List Value) (X : XT) (κ : KT) (o : Int) : exec rt calls sc L post (.if_icmp .ne o, len, a, b, k, w) pc lv st X κ = (s2I st fun x y r => (¬ x = y → κ a lv r X) ∧ (x = y → κ (pc + 3) lv r X)) := (rfl)
theorem ex_if_icmp_lt (rt : Nat) (calls : List CE) (sc : Option (Nat → Int32)) (L : Nat) (post : Option Value → XT → Prop) (len a b : Nat) (k : Int32) (w : Int64) (pc : Nat) (lv : List (Nat × Value)) (st : List Value) (X : XT) (κ : KT) (o : Int) : exec rt calls sc L post (.if_icmp .lt o, len, a, b, k, w) pc lv st X κ = (s2I st fun x y r => (x < y → κ a lv r X) ∧ (¬ x < y → κ (pc + 3) lv r X)) := (rfl)
theorem ex_if_icmp_ge (rt : Nat) (calls : List CE) (sc : Option (Nat → Int32)) (L : Nat) (post : Option Value → XT → Prop) (len a b : Nat) (k : Int32) (w : Int64) (pc : Nat) (lv : List (Nat × Value)) (st : List Value) (X : XT) (κ : KT) (o : Int) : exec rt calls sc L post (.if_icmp .ge o, len, a, b, k, w) pc lv st X κ = (s2I st fun x y r => (y ≤ x → κ a lv r X) ∧ (¬ y ≤ x → κ (pc + 3) lv r X)) := (rfl)
theorem ex_if_icmp_gt (rt : Nat) (calls : List CE) (sc : Option (Nat → Int32)) (L : Nat) (post : Option Value → XT → Prop) (len a b : Nat) (k : Int32) (w : Int64) (pc : Nat) (lv : List (Nat × Value)) (st : List Value) (X : XT) (κ : KT) (o : Int) : exec rt calls sc L post (.if_icmp .gt o, len, a, b, k, w) pc lv st X κ = (s2I st fun x y r => (y < x → κ a lv r X) ∧ (¬ y < x → κ (pc + 3) lv r X)) := (rfl)
theorem ex_if_icmp_le (rt : Nat) (calls : List CE) (sc : Option (Nat → Int32)) (L : Nat) (post : Option Value → XT → Prop) (len a b : Nat) (k : Int32) (w : Int64) (pc : Nat) (lv : List (Nat × Value)) (st : List Value) (X : XT) (κ : KT) (o : Int) : exec rt calls sc L post (.if_icmp .le o, len, a, b, k, w) pc lv st X κ = (s2I st fun x y r => (x ≤ y → κ a lv r X) ∧ (¬ x ≤ y → κ (pc + 3) lv r X)) := (rfl)
theorem ex_goto (rt : Nat) (calls : List CE) (sc : Option (Nat → Int32)) (L : Nat) (post : Option Value → XT → Prop) (len a b : Nat) (k : Int32) (w : Int64) (pc : Nat) (lv : List (Nat × Value)) (st : List Value) (X : XT) (κ : KT) (o : Int) : exec rt calls sc L post (.goto o, len, a, b, k, w) pc lv st X κ = (κ a lv st X) := (rfl)
theorem ex_tableswitch (rt : Nat) (calls : List CE) (sc : Option (Nat → Int32)) (L : Nat) (post : Option Value → XT → Prop) (len a b : Nat) (k : Int32) (w : Int64) (pc : Nat) (lv : List (Nat × Value)) (st : List Value) (X : XT) (κ : KT) (d lo hi : Int) (offs : Array Int) : exec rt calls sc L post (.tableswitch d lo hi offs, len, a, b, k, w) pc lv st X κ = (s1I st fun x r => κ (tsw pc d lo hi offs x) lv r X) := (rfl)
theorem ex_getfield (rt : Nat) (calls : List CE) (sc : Option (Nat → Int32)) (L : Nat) (post : Option Value → XT → Prop) (len a b : Nat) (k : Int32) (w : Int64) (pc : Nat) (lv : List (Nat × Value)) (st : List Value) (X : XT) (κ : KT) (i : Nat) : exec rt calls sc L post (.getfield i, len, a, b, k, w) pc lv st X κ = (s1R st fun q r => (q < NC ∧ (shp q).1 = a) ∧ gfK X a q b fun v => κ (pc + 3) lv (v :: r) X) := (rfl)
theorem ex_putfield (rt : Nat) (calls : List CE) (sc : Option (Nat → Int32)) (L : Nat) (post : Option Value → XT → Prop) (len a b : Nat) (k : Int32) (w : Int64) (pc : Nat) (lv : List (Nat × Value)) (st : List Value) (X : XT) (κ : KT) (i : Nat) : exec rt calls sc L post (.putfield i, len, a, b, k, w) pc lv st X κ = (pfA X a b st fun r X' => κ (pc + 3) lv r X') := (rfl)
theorem ex_iaload (rt : Nat) (calls : List CE) (sc : Option (Nat → Int32)) (L : Nat) (post : Option Value → XT → Prop) (len a b : Nat) (k : Int32) (w : Int64) (pc : Nat) (lv : List (Nat × Value)) (st : List Value) (X : XT) (κ : KT)  : exec rt calls sc L post (.iaload, len, a, b, k, w) pc lv st X κ = (sRI st fun q i r => scrR sc L q i (fun x => κ (pc + 1) lv (.int x :: r) X) ((q < NC ∧ (shp q).1 = 5 ∧ vp_in i (shp q).2) ∧ κ (pc + 1) lv (.int (X.1 q i.toNatClampNeg) :: r) X)) := (rfl)
theorem ex_laload (rt : Nat) (calls : List CE) (sc : Option (Nat → Int32)) (L : Nat) (post : Option Value → XT → Prop) (len a b : Nat) (k : Int32) (w : Int64) (pc : Nat) (lv : List (Nat × Value)) (st : List Value) (X : XT) (κ : KT)  : exec rt calls sc L post (.laload, len, a, b, k, w) pc lv st X κ = (sRI st fun q i r => (q < NC ∧ (shp q).1 = 6 ∧ vp_in i (shp q).2) ∧ κ (pc + 1) lv (.long (X.2.1 q i.toNatClampNeg) :: r) X) := (rfl)
theorem ex_aaload (rt : Nat) (calls : List CE) (sc : Option (Nat → Int32)) (L : Nat) (post : Option Value → XT → Prop) (len a b : Nat) (k : Int32) (w : Int64) (pc : Nat) (lv : List (Nat × Value)) (st : List Value) (X : XT) (κ : KT)  : exec rt calls sc L post (.aaload, len, a, b, k, w) pc lv st X κ = (sRI st fun q i r => (q < NC ∧ (shp q).1 = 8 ∧ vp_in i (shp q).2) ∧ κ (pc + 1) lv (.ref (X.2.2 i.toNatClampNeg) :: r) X) := (rfl)
theorem ex_iastore (rt : Nat) (calls : List CE) (sc : Option (Nat → Int32)) (L : Nat) (post : Option Value → XT → Prop) (len a b : Nat) (k : Int32) (w : Int64) (pc : Nat) (lv : List (Nat × Value)) (st : List Value) (X : XT) (κ : KT)  : exec rt calls sc L post (.iastore, len, a, b, k, w) pc lv st X κ = (sRII st fun q i x r => (q < NC ∧ (shp q).1 = 5 ∧ vp_in i (shp q).2) ∧ κ (pc + 1) lv r (sI X q i.toNatClampNeg x)) := (rfl)
theorem ex_lastore (rt : Nat) (calls : List CE) (sc : Option (Nat → Int32)) (L : Nat) (post : Option Value → XT → Prop) (len a b : Nat) (k : Int32) (w : Int64) (pc : Nat) (lv : List (Nat × Value)) (st : List Value) (X : XT) (κ : KT)  : exec rt calls sc L post (.lastore, len, a, b, k, w) pc lv st X κ = (sRIL st fun q i x r => (q < NC ∧ (shp q).1 = 6 ∧ vp_in i (shp q).2) ∧ κ (pc + 1) lv r (sL X q i.toNatClampNeg x)) := (rfl)
theorem ex_aastore (rt : Nat) (calls : List CE) (sc : Option (Nat → Int32)) (L : Nat) (post : Option Value → XT → Prop) (len a b : Nat) (k : Int32) (w : Int64) (pc : Nat) (lv : List (Nat × Value)) (st : List Value) (X : XT) (κ : KT)  : exec rt calls sc L post (.aastore, len, a, b, k, w) pc lv st X κ = (sRIR st fun q i x r => (q < NC ∧ (shp q).1 = 8 ∧ vp_in i (shp q).2 ∧ x < NC ∧ (shp x).1 = 0) ∧ κ (pc + 1) lv r (sR X i.toNatClampNeg x)) := (rfl)
theorem ex_arraylength (rt : Nat) (calls : List CE) (sc : Option (Nat → Int32)) (L : Nat) (post : Option Value → XT → Prop) (len a b : Nat) (k : Int32) (w : Int64) (pc : Nat) (lv : List (Nat × Value)) (st : List Value) (X : XT) (κ : KT)  : exec rt calls sc L post (.arraylength, len, a, b, k, w) pc lv st X κ = (s1R st fun q r => scrN sc L q (fun x => κ (pc + 1) lv (.int x :: r) X) ((q < NC ∧ 5 ≤ (shp q).1 ∧ (shp q).1 ≤ 8) ∧ κ (pc + 1) lv (.int (nI (shp q).2) :: r) X)) := (rfl)
theorem ex_invokevirtual (rt : Nat) (calls : List CE) (sc : Option (Nat → Int32)) (L : Nat) (post : Option Value → XT → Prop) (len a b : Nat) (k : Int32) (w : Int64) (pc : Nat) (lv : List (Nat × Value)) (st : List Value) (X : XT) (κ : KT) (i : Nat) : exec rt calls sc L post (.invokevirtual i, len, a, b, k, w) pc lv st X κ = (xcall calls a i false st X fun r X' => κ (pc + 3) lv r X') := (rfl)
theorem ex_invokestatic (rt : Nat) (calls : List CE) (sc : Option (Nat → Int32)) (L : Nat) (post : Option Value → XT → Prop) (len a b : Nat) (k : Int32) (w : Int64) (pc : Nat) (lv : List (Nat × Value)) (st : List Value) (X : XT) (κ : KT) (i : Nat) : exec rt calls sc L post (.invokestatic i, len, a, b, k, w) pc lv st X κ = (xcall calls a i true st X fun r X' => κ (pc + 3) lv r X') := (rfl)
theorem ex_dup (rt : Nat) (calls : List CE) (sc : Option (Nat → Int32)) (L : Nat) (post : Option Value → XT → Prop) (len a b : Nat) (k : Int32) (w : Int64) (pc : Nat) (lv : List (Nat × Value)) (X : XT) (κ : KT) (v : Value) (r : List Value) : exec rt calls sc L post (.dup, len, a, b, k, w) pc lv (v :: r) X κ = (v.category = 1 ∧ κ (pc + 1) lv (v :: v :: r) X) := (rfl)
theorem ex_pop (rt : Nat) (calls : List CE) (sc : Option (Nat → Int32)) (L : Nat) (post : Option Value → XT → Prop) (len a b : Nat) (k : Int32) (w : Int64) (pc : Nat) (lv : List (Nat × Value)) (X : XT) (κ : KT) (v : Value) (r : List Value) : exec rt calls sc L post (.pop, len, a, b, k, w) pc lv (v :: r) X κ = (v.category = 1 ∧ κ (pc + 1) lv r X) := (rfl)
theorem ex_dup2 (rt : Nat) (calls : List CE) (sc : Option (Nat → Int32)) (L : Nat) (post : Option Value → XT → Prop) (len a b : Nat) (k : Int32) (w : Int64) (pc : Nat) (lv : List (Nat × Value)) (X : XT) (κ : KT) (v u : Value) (r : List Value) : exec rt calls sc L post (.dup2, len, a, b, k, w) pc lv (v :: u :: r) X κ = ((v.category = 1 ∧ u.category = 1) ∧ κ (pc + 1) lv (v :: u :: v :: u :: r) X) := (rfl)
theorem ex_ireturn (rt : Nat) (calls : List CE) (sc : Option (Nat → Int32)) (L : Nat) (post : Option Value → XT → Prop) (len a b : Nat) (k : Int32) (w : Int64) (pc : Nat) (lv : List (Nat × Value)) (st : List Value) (X : XT) (κ : KT) : exec rt calls sc L post (.ireturn, len, a, b, k, w) pc lv st X κ = retx rt post .ireturn st X := (rfl)
theorem ex_lreturn (rt : Nat) (calls : List CE) (sc : Option (Nat → Int32)) (L : Nat) (post : Option Value → XT → Prop) (len a b : Nat) (k : Int32) (w : Int64) (pc : Nat) (lv : List (Nat × Value)) (st : List Value) (X : XT) (κ : KT) : exec rt calls sc L post (.lreturn, len, a, b, k, w) pc lv st X κ = retx rt post .lreturn st X := (rfl)
theorem ex_return_ (rt : Nat) (calls : List CE) (sc : Option (Nat → Int32)) (L : Nat) (post : Option Value → XT → Prop) (len a b : Nat) (k : Int32) (w : Int64) (pc : Nat) (lv : List (Nat × Value)) (st : List Value) (X : XT) (κ : KT) : exec rt calls sc L post (.return_, len, a, b, k, w) pc lv st X κ = retx rt post .return_ st X := (rfl)
theorem xI_i (x : Int32) (κ : Int32 → Prop) : xI (some (.int x)) κ = κ x := (rfl)
theorem xL_l (x : Int64) (κ : Int64 → Prop) : xL (some (.long x)) κ = κ x := (rfl)
theorem xR_r (x : Nat) (κ : Nat → Prop) : xR (some (.ref x)) κ = κ x := (rfl)
theorem s1I_c (x : Int32) (r : List Value) (κ : Int32 → List Value → Prop) : s1I (.int x :: r) κ = κ x r := (rfl)
theorem s1L_c (x : Int64) (r : List Value) (κ : Int64 → List Value → Prop) : s1L (.long x :: r) κ = κ x r := (rfl)
theorem s1R_c (x : Nat) (r : List Value) (κ : Nat → List Value → Prop) : s1R (.ref x :: r) κ = κ x r := (rfl)
theorem s2I_c (x y : Int32) (r : List Value) (κ : Int32 → Int32 → List Value → Prop) : s2I (.int y :: .int x :: r) κ = κ x y r := (rfl)
theorem s2L_c (x y : Int64) (r : List Value) (κ : Int64 → Int64 → List Value → Prop) : s2L (.long y :: .long x :: r) κ = κ x y r := (rfl)
theorem sLI_c (x : Int64) (y : Int32) (r : List Value) (κ : Int64 → Int32 → List Value → Prop) : sLI (.int y :: .long x :: r) κ = κ x y r := (rfl)
theorem sRI_c (q : Nat) (i : Int32) (r : List Value) (κ : Nat → Int32 → List Value → Prop) : sRI (.int i :: .ref q :: r) κ = κ q i r := (rfl)
theorem sRII_c (q : Nat) (i x : Int32) (r : List Value) (κ : Nat → Int32 → Int32 → List Value → Prop) : sRII (.int x :: .int i :: .ref q :: r) κ = κ q i x r := (rfl)
theorem sRIL_c (q : Nat) (i : Int32) (x : Int64) (r : List Value) (κ : Nat → Int32 → Int64 → List Value → Prop) : sRIL (.long x :: .int i :: .ref q :: r) κ = κ q i x r := (rfl)
theorem sRIR_c (q : Nat) (i : Int32) (x : Nat) (r : List Value) (κ : Nat → Int32 → Nat → List Value → Prop) : sRIR (.ref x :: .int i :: .ref q :: r) κ = κ q i x r := (rfl)
theorem lget_c (j i : Nat) (u : Value) (r : List (Nat × Value)) : lget ((j, u) :: r) i = if j = i then some u else lget r i := (rfl)
theorem ct_i (x : Int32) : (Value.int x).category = 1 := (rfl)
theorem ct_l (x : Int64) : (Value.long x).category = 2 := (rfl)
theorem ct_r (x : Nat) : (Value.ref x).category = 1 := (rfl)
theorem catS_n : catS [] = 0 := (rfl)
theorem catS_c (v : Value) (r : List Value) : catS (v :: r) = v.category + catS r := by
  unfold catS; simp
theorem rOk_c (q c : Nat) (r : List Value) : recvOk (.ref q :: r) c = (q < NC ∧ (shp q).1 = c) := (rfl)
theorem scrR_n (L k : Nat) (i : Int32) (κ : Int32 → Prop) (o : Prop) : scrR none L k i κ o = o := (rfl)
theorem scrN_n (L k : Nat) (κ : Int32 → Prop) (o : Prop) : scrN none L k κ o = o := (rfl)
theorem rt_i (rt : Nat) (post : Option Value → XT → Prop) (x : Int32) (X : XT) : retx rt post .ireturn [.int x] X = ((rt = 0 ∨ (rt = 1 ∧ bl x)) ∧ post (some (.int x)) X) := (rfl)
theorem rt_l (rt : Nat) (post : Option Value → XT → Prop) (x : Int64) (X : XT) : retx rt post .lreturn [.long x] X = (rt = 2 ∧ post (some (.long x)) X) := (rfl)
theorem rt_v (rt : Nat) (post : Option Value → XT → Prop) (X : XT) : retx rt post .return_ [] X = (rt = 3 ∧ post none X) := (rfl)
def xcall1 (q : CE) (i : Nat) (sta : Bool) (st : List Value) (X : XT) (κ : List Value → XT → Prop) : Prop := match q with
  | (i', sta', n, c, C) => (i' = i ∧ sta' = sta) ∧ (match popA n [] st with
    | some (As, r) => catS r ≤ 8 ∧ (sta = false → recvOk As c) ∧ C As X (fun v X' => κ (v.toList ++ r) X')
    | none => False)
theorem xc_0 (q : CE) (r : List CE) (i : Nat) (sta : Bool) (st : List Value) (X : XT) (κ : List Value → XT → Prop) : xcall (q :: r) 0 i sta st X κ = xcall1 q i sta st X κ := (rfl)
theorem xc_s (q : CE) (r : List CE) (n i : Nat) (sta : Bool) (st : List Value) (X : XT) (κ : List Value → XT → Prop) : xcall (q :: r) (n + 1) i sta st X κ = xcall r n i sta st X κ := by
  unfold xcall
  rw [List.getElem?_cons_succ]
def kont (κ : List Value → XT → Prop) (v : Option Value) (r : List Value) (X : XT) : Prop := κ (v.toList ++ r) X
def pcallK (n : Nat) (acc st : List Value) (sta : Bool) (c : Nat) (C : CT) (X : XT) (κ : List Value → XT → Prop) : Prop := match popA n acc st with
  | some (As, r) => catS r ≤ 8 ∧ (sta = false → recvOk As c) ∧ C As X (fun v X' => kont κ v r X')
  | none => False
theorem k_s (κ : List Value → XT → Prop) (v : Value) (r : List Value) (X : XT) : kont κ (some v) r X = κ (v :: r) X := (rfl)
theorem k_n (κ : List Value → XT → Prop) (r : List Value) (X : XT) : kont κ none r X = κ r X := (rfl)
theorem xc_1 (i' : Nat) (sta' : Bool) (n c : Nat) (C : CT) (i : Nat) (sta : Bool) (st : List Value) (X : XT) (κ : List Value → XT → Prop) : xcall1 (i', sta', n, c, C) i sta st X κ = ((i' = i ∧ sta' = sta) ∧ pcallK n [] st sta c C X κ) := (rfl)
theorem pk_s (n : Nat) (v : Value) (acc st : List Value) (sta : Bool) (c : Nat) (C : CT) (X : XT) (κ : List Value → XT → Prop) : pcallK (n + 1) acc (v :: st) sta c C X κ = pcallK n (v :: acc) st sta c C X κ := (rfl)
theorem pk_f (acc st : List Value) (c : Nat) (C : CT) (X : XT) (κ : List Value → XT → Prop) : pcallK 0 acc st false c C X κ = (catS st ≤ 8 ∧ recvOk acc c ∧ C acc X (fun v X' => kont κ v st X')) := by
  show (catS st ≤ 8 ∧ (false = false → recvOk acc c) ∧ C acc X (fun v X' => kont κ v st X')) = _
  simp
theorem pk_t (acc st : List Value) (c : Nat) (C : CT) (X : XT) (κ : List Value → XT → Prop) : pcallK 0 acc st true c C X κ = (catS st ≤ 8 ∧ C acc X (fun v X' => kont κ v st X')) := by
  show (catS st ≤ 8 ∧ (true = false → recvOk acc c) ∧ C acc X (fun v X' => kont κ v st X')) = _
  simp
theorem fv_0_0 (X : XT) (k : Nat) (f : Value → Prop) : gfK X 0 k 0 f = f (.ref (k + 1)) := (rfl)
theorem fv_0_1 (X : XT) (k : Nat) (f : Value → Prop) : gfK X 0 k 1 f = f (.ref (k + 2)) := (rfl)
theorem fv_0_2 (X : XT) (k : Nat) (f : Value → Prop) : gfK X 0 k 2 f = f (.ref (k + 3)) := (rfl)
theorem fv_0_3 (X : XT) (k : Nat) (f : Value → Prop) : gfK X 0 k 3 f = f (.ref (k + 4)) := (rfl)
theorem fv_0_4 (X : XT) (k : Nat) (f : Value → Prop) : gfK X 0 k 4 f = f (.int (X.1 k 4)) := (rfl)
theorem pf_0_4 (X : XT) (x : Int32) (k : Nat) (r : List Value) (κ : List Value → XT → Prop) : pfA X 0 4 (.int x :: .ref k :: r) κ = ((k < NC ∧ (shp k).1 = 0) ∧ κ r (sI X k 4 x)) := by
  show (k < NC ∧ (shp k).1 = 0 ∧ (false = true → bl x) ∧ κ r (sI X k 4 x)) = _
  simp [and_assoc]
theorem fv_0_5 (X : XT) (k : Nat) (f : Value → Prop) : gfK X 0 k 5 f = f (.int (X.1 k 5)) := (rfl)
theorem pf_0_5 (X : XT) (x : Int32) (k : Nat) (r : List Value) (κ : List Value → XT → Prop) : pfA X 0 5 (.int x :: .ref k :: r) κ = ((k < NC ∧ (shp k).1 = 0) ∧ κ r (sI X k 5 x)) := by
  show (k < NC ∧ (shp k).1 = 0 ∧ (false = true → bl x) ∧ κ r (sI X k 5 x)) = _
  simp [and_assoc]
theorem fv_0_6 (X : XT) (k : Nat) (f : Value → Prop) : gfK X 0 k 6 f = f (.ref (k + 5)) := (rfl)
theorem fv_0_7 (X : XT) (k : Nat) (f : Value → Prop) : gfK X 0 k 7 f = f (.int (X.1 k 7)) := (rfl)
theorem pf_0_7 (X : XT) (x : Int32) (k : Nat) (r : List Value) (κ : List Value → XT → Prop) : pfA X 0 7 (.int x :: .ref k :: r) κ = ((k < NC ∧ (shp k).1 = 0) ∧ κ r (sI X k 7 x)) := by
  show (k < NC ∧ (shp k).1 = 0 ∧ (false = true → bl x) ∧ κ r (sI X k 7 x)) = _
  simp [and_assoc]
theorem fv_1_0 (X : XT) (k : Nat) (f : Value → Prop) : gfK X 1 k 0 f = f (.ref (k + 1)) := (rfl)
theorem fv_1_1 (X : XT) (k : Nat) (f : Value → Prop) : gfK X 1 k 1 f = f (.ref (k + 2)) := (rfl)
theorem fv_1_2 (X : XT) (k : Nat) (f : Value → Prop) : gfK X 1 k 2 f = f (.long (X.2.1 k 2)) := (rfl)
theorem pf_1_2 (X : XT) (x : Int64) (k : Nat) (r : List Value) (κ : List Value → XT → Prop) : pfA X 1 2 (.long x :: .ref k :: r) κ = ((k < NC ∧ (shp k).1 = 1) ∧ κ r (sL X k 2 x)) := by
  show (k < NC ∧ (shp k).1 = 1 ∧ κ r (sL X k 2 x)) = _
  simp [and_assoc]
theorem fv_1_3 (X : XT) (k : Nat) (f : Value → Prop) : gfK X 1 k 3 f = f (.long (X.2.1 k 3)) := (rfl)
theorem pf_1_3 (X : XT) (x : Int64) (k : Nat) (r : List Value) (κ : List Value → XT → Prop) : pfA X 1 3 (.long x :: .ref k :: r) κ = ((k < NC ∧ (shp k).1 = 1) ∧ κ r (sL X k 3 x)) := by
  show (k < NC ∧ (shp k).1 = 1 ∧ κ r (sL X k 3 x)) = _
  simp [and_assoc]
theorem fv_1_4 (X : XT) (k : Nat) (f : Value → Prop) : gfK X 1 k 4 f = f (.long (X.2.1 k 4)) := (rfl)
theorem pf_1_4 (X : XT) (x : Int64) (k : Nat) (r : List Value) (κ : List Value → XT → Prop) : pfA X 1 4 (.long x :: .ref k :: r) κ = ((k < NC ∧ (shp k).1 = 1) ∧ κ r (sL X k 4 x)) := by
  show (k < NC ∧ (shp k).1 = 1 ∧ κ r (sL X k 4 x)) = _
  simp [and_assoc]
theorem fv_1_5 (X : XT) (k : Nat) (f : Value → Prop) : gfK X 1 k 5 f = f (.int (X.1 k 5)) := (rfl)
theorem pf_1_5 (X : XT) (x : Int32) (k : Nat) (r : List Value) (κ : List Value → XT → Prop) : pfA X 1 5 (.int x :: .ref k :: r) κ = ((k < NC ∧ (shp k).1 = 1) ∧ κ r (sI X k 5 x)) := by
  show (k < NC ∧ (shp k).1 = 1 ∧ (false = true → bl x) ∧ κ r (sI X k 5 x)) = _
  simp [and_assoc]
theorem fv_1_6 (X : XT) (k : Nat) (f : Value → Prop) : gfK X 1 k 6 f = f (.ref (k + 3)) := (rfl)
theorem fv_1_7 (X : XT) (k : Nat) (f : Value → Prop) : gfK X 1 k 7 f = f (.int (X.1 k 7)) := (rfl)
theorem pf_1_7 (X : XT) (x : Int32) (k : Nat) (r : List Value) (κ : List Value → XT → Prop) : pfA X 1 7 (.int x :: .ref k :: r) κ = ((k < NC ∧ (shp k).1 = 1) ∧ bl x ∧ κ r (sI X k 7 x)) := by
  show (k < NC ∧ (shp k).1 = 1 ∧ (true = true → bl x) ∧ κ r (sI X k 7 x)) = _
  simp [and_assoc]
theorem fv_2_0 (X : XT) (k : Nat) (f : Value → Prop) : gfK X 2 k 0 f = f (.ref (k + 1)) := (rfl)
theorem fv_2_1 (X : XT) (k : Nat) (f : Value → Prop) : gfK X 2 k 1 f = f (.int (X.1 k 1)) := (rfl)
theorem pf_2_1 (X : XT) (x : Int32) (k : Nat) (r : List Value) (κ : List Value → XT → Prop) : pfA X 2 1 (.int x :: .ref k :: r) κ = ((k < NC ∧ (shp k).1 = 2) ∧ κ r (sI X k 1 x)) := by
  show (k < NC ∧ (shp k).1 = 2 ∧ (false = true → bl x) ∧ κ r (sI X k 1 x)) = _
  simp [and_assoc]
theorem fv_2_2 (X : XT) (k : Nat) (f : Value → Prop) : gfK X 2 k 2 f = f (.ref (k + 2)) := (rfl)
theorem fv_2_3 (X : XT) (k : Nat) (f : Value → Prop) : gfK X 2 k 3 f = f (.int (X.1 k 3)) := (rfl)
theorem pf_2_3 (X : XT) (x : Int32) (k : Nat) (r : List Value) (κ : List Value → XT → Prop) : pfA X 2 3 (.int x :: .ref k :: r) κ = ((k < NC ∧ (shp k).1 = 2) ∧ κ r (sI X k 3 x)) := by
  show (k < NC ∧ (shp k).1 = 2 ∧ (false = true → bl x) ∧ κ r (sI X k 3 x)) = _
  simp [and_assoc]
theorem fv_2_4 (X : XT) (k : Nat) (f : Value → Prop) : gfK X 2 k 4 f = f (.int (X.1 k 4)) := (rfl)
theorem pf_2_4 (X : XT) (x : Int32) (k : Nat) (r : List Value) (κ : List Value → XT → Prop) : pfA X 2 4 (.int x :: .ref k :: r) κ = ((k < NC ∧ (shp k).1 = 2) ∧ κ r (sI X k 4 x)) := by
  show (k < NC ∧ (shp k).1 = 2 ∧ (false = true → bl x) ∧ κ r (sI X k 4 x)) = _
  simp [and_assoc]
theorem fv_3_0 (X : XT) (k : Nat) (f : Value → Prop) : gfK X 3 k 0 f = f (.ref (k + 1)) := (rfl)
theorem fv_3_1 (X : XT) (k : Nat) (f : Value → Prop) : gfK X 3 k 1 f = f (.ref (k + 7)) := (rfl)
theorem fv_3_2 (X : XT) (k : Nat) (f : Value → Prop) : gfK X 3 k 2 f = f (.ref (k + 8)) := (rfl)
theorem fv_3_3 (X : XT) (k : Nat) (f : Value → Prop) : gfK X 3 k 3 f = f (.ref (k + 12)) := (rfl)
theorem fv_3_4 (X : XT) (k : Nat) (f : Value → Prop) : gfK X 3 k 4 f = f (.ref (k + 20)) := (rfl)
theorem fv_3_5 (X : XT) (k : Nat) (f : Value → Prop) : gfK X 3 k 5 f = f (.int (X.1 k 5)) := (rfl)
theorem pf_3_5 (X : XT) (x : Int32) (k : Nat) (r : List Value) (κ : List Value → XT → Prop) : pfA X 3 5 (.int x :: .ref k :: r) κ = ((k < NC ∧ (shp k).1 = 3) ∧ κ r (sI X k 5 x)) := by
  show (k < NC ∧ (shp k).1 = 3 ∧ (false = true → bl x) ∧ κ r (sI X k 5 x)) = _
  simp [and_assoc]
theorem sh_0 : shp 0 = (3, 0) := (rfl)
theorem sh_1 : shp 1 = (0, 0) := (rfl)
theorem sh_2 : shp 2 = (5, 12) := (rfl)
theorem sh_3 : shp 3 = (5, 12) := (rfl)
theorem sh_4 : shp 4 = (5, 12) := (rfl)
theorem sh_5 : shp 5 = (5, 12) := (rfl)
theorem sh_6 : shp 6 = (5, 8) := (rfl)
theorem sh_7 : shp 7 = (8, 5) := (rfl)
theorem sh_8 : shp 8 = (1, 0) := (rfl)
theorem sh_9 : shp 9 = (5, 8) := (rfl)
theorem sh_10 : shp 10 = (5, 8) := (rfl)
theorem sh_11 : shp 11 = (6, 8) := (rfl)
theorem sh_12 : shp 12 = (2, 0) := (rfl)
theorem sh_13 : shp 13 = (5, 120) := (rfl)
theorem sh_14 : shp 14 = (0, 0) := (rfl)
theorem sh_15 : shp 15 = (5, 12) := (rfl)
theorem sh_16 : shp 16 = (5, 12) := (rfl)
theorem sh_17 : shp 17 = (5, 12) := (rfl)
theorem sh_18 : shp 18 = (5, 12) := (rfl)
theorem sh_19 : shp 19 = (5, 8) := (rfl)
theorem sh_20 : shp 20 = (6, 8) := (rfl)
theorem sh_21 : shp 21 = (0, 0) := (rfl)
theorem sh_22 : shp 22 = (5, 12) := (rfl)
theorem sh_23 : shp 23 = (5, 12) := (rfl)
theorem sh_24 : shp 24 = (5, 12) := (rfl)
theorem sh_25 : shp 25 = (5, 12) := (rfl)
theorem sh_26 : shp 26 = (5, 8) := (rfl)
theorem sh_27 : shp 27 = (0, 0) := (rfl)
theorem sh_28 : shp 28 = (5, 12) := (rfl)
theorem sh_29 : shp 29 = (5, 12) := (rfl)
theorem sh_30 : shp 30 = (5, 12) := (rfl)
theorem sh_31 : shp 31 = (5, 12) := (rfl)
theorem sh_32 : shp 32 = (5, 8) := (rfl)
theorem sh_33 : shp 33 = (0, 0) := (rfl)
theorem sh_34 : shp 34 = (5, 12) := (rfl)
theorem sh_35 : shp 35 = (5, 12) := (rfl)
theorem sh_36 : shp 36 = (5, 12) := (rfl)
theorem sh_37 : shp 37 = (5, 12) := (rfl)
theorem sh_38 : shp 38 = (5, 8) := (rfl)
theorem sh_39 : shp 39 = (0, 0) := (rfl)
theorem sh_40 : shp 40 = (5, 12) := (rfl)
theorem sh_41 : shp 41 = (5, 12) := (rfl)
theorem sh_42 : shp 42 = (5, 12) := (rfl)
theorem sh_43 : shp 43 = (5, 12) := (rfl)
theorem sh_44 : shp 44 = (5, 8) := (rfl)
theorem sh_45 : shp 45 = (0, 0) := (rfl)
theorem sh_46 : shp 46 = (5, 12) := (rfl)
theorem sh_47 : shp 47 = (5, 12) := (rfl)
theorem sh_48 : shp 48 = (5, 12) := (rfl)
theorem sh_49 : shp 49 = (5, 12) := (rfl)
theorem sh_50 : shp 50 = (5, 8) := (rfl)
def stepX (t : List (Nat × TE)) (rt : Nat) (calls : List CE) (sc : Option (Nat → Int32)) (L : Nat) (post : Option Value → XT → Prop) (pc : Nat) (lv : List (Nat × Value)) (st : List Value) (X : XT) (κ : KT) : Prop := ∃ te, fetch t pc = some te ∧ exec rt calls sc L post te pc lv st X κ
def fx (o : Option TE) (rt : Nat) (calls : List CE) (sc : Option (Nat → Int32)) (L : Nat) (post : Option Value → XT → Prop) (pc : Nat) (lv : List (Nat × Value)) (st : List Value) (X : XT) (κ : KT) : Prop := match o with
  | some te => exec rt calls sc L post te pc lv st X κ
  | none => False
def lsel (lv : List (Nat × Value)) : List Nat → Option (List (Nat × Value))
  | [] => some []
  | i :: r => match lget lv i, lsel lv r with
    | some v, some q => some ((i, v) :: q)
    | _, _ => none
theorem lsel_in (lv : List (Nat × Value)) : ∀ (l : List Nat) (lv' : List (Nat × Value)), lsel lv l = some lv' → ∀ q ∈ lv', q ∈ lv
  | [], lv', h, q, hq => by cases h; cases hq
  | i :: r, lv', h, q, hq => by
    unfold lsel at h
    split at h
    next v q' h1 h2 =>
      cases h
      rcases List.mem_cons.mp hq with e | e
      · rw [e]; exact lget_in lv i v h1
      · exact lsel_in lv r q' h2 q e
    next => cases h
def atStop (o : Option (List (Nat × Value))) (R : KT) (pc : Nat) (st : List Value) (X : XT) : Prop := match o with
  | some lv' => R pc lv' st X
  | none => False
def rstop (R : KT) (pc : Nat) (lv : List (Nat × Value)) (st : List Value) (X : XT) (n : Prop) : List (Nat × List Nat) → Prop
  | [] => n
  | (q, l) :: r => if q = pc then atStop (lsel lv l) R pc st X else rstop R pc lv st X n r
def run (t : List (Nat × TE)) (rt : Nat) (calls : List CE) (sc : Option (Nat → Int32)) (L : Nat) (post : Option Value → XT → Prop) (stops : List (Nat × List Nat)) (R : KT) : Nat → KT
  | 0 => R
  | n + 1 => fun pc lv st X => rstop R pc lv st X (fx (fetch t pc) rt calls sc L post pc lv st X (run t rt calls sc L post stops R n)) stops
def Clo (t : List (Nat × TE)) (rt : Nat) (calls : List CE) (sc : Option (Nat → Int32)) (L : Nat) (post : Option Value → XT → Prop) (R : KT) : Prop :=
  (∀ (κ : KT), (∀ pc lv st X, κ pc lv st X → R pc lv st X) → ∀ pc lv st X te, fetch t pc = some te → exec rt calls sc L post te pc lv st X κ → R pc lv st X) ∧
  ∀ pc lv lv' st X, (∀ q ∈ lv', q ∈ lv) → R pc lv' st X → R pc lv st X
section GO
variable {t : List (Nat × TE)} {rt : Nat} {calls : List CE} {sc : Option (Nat → Int32)} {L : Nat} {post : Option Value → XT → Prop} {R : KT}
theorem fx_R (h : Clo t rt calls sc L post R) {κ : KT} (hκ : ∀ pc lv st X, κ pc lv st X → R pc lv st X) {pc : Nat} {lv : List (Nat × Value)} {st : List Value} {X : XT} (hx : fx (fetch t pc) rt calls sc L post pc lv st X κ) : R pc lv st X := by
  unfold fx at hx
  split at hx
  next te hf => exact h.1 κ hκ pc lv st X te hf hx
  next => exact hx.elim
theorem run_R (h : Clo t rt calls sc L post R) (stops : List (Nat × List Nat)) : ∀ (n pc : Nat) (lv : List (Nat × Value)) (st : List Value) (X : XT), run t rt calls sc L post stops R n pc lv st X → R pc lv st X
  | 0, _, _, _, _, hr => hr
  | n + 1, pc, lv, st, X, hr => by
    have aux : ∀ (q : List (Nat × List Nat)) (N : Prop), (N → R pc lv st X) → rstop R pc lv st X N q → R pc lv st X := by
      intro q
      induction q with
      | nil => exact fun N hN hq => hN hq
      | cons p r ih =>
        obtain ⟨p1, p2⟩ := p
        intro N hN hq
        unfold rstop at hq
        split at hq
        next =>
          unfold atStop at hq
          split at hq
          next lv' hl => exact h.2 pc lv lv' st X (lsel_in lv p2 lv' hl) hq
          next => exact hq.elim
        next => exact ih N hN hq
    exact aux stops _ (fun hx => fx_R h (run_R h stops n) hx) hr
/-- go on from here, through at most n instructions, to the stops -/
theorem go (h : Clo t rt calls sc L post R) (stops : List (Nat × List Nat)) (n : Nat) {pc : Nat} {lv : List (Nat × Value)} {st : List Value} {X : XT} (hx : fx (fetch t pc) rt calls sc L post pc lv st X (run t rt calls sc L post stops R n)) : R pc lv st X := fx_R h (run_R h stops n) hx
end GO
def szA (As : List Value) : Nat := (lg_sl As).length
theorem szA_cv (ρ : Nat → Nat) (As : List Value) : (lg_sl (As.map (cv ρ))).length = szA As := by
  unfold szA lg_sl
  induction As with
  | nil => rfl
  | cons v r ih =>
    rw [List.map_cons, List.flatMap_cons, List.flatMap_cons, List.length_append, List.length_append, ih, cv_cat]
    by_cases h : v.category = 2 <;> simp [h]
theorem args_cv (ρ : Nat → Nat) : ∀ (As : List Value) (i : Nat), lv_args i (As.map (cv ρ)) = (lv_args i As).map fun q => (q.1, cv ρ q.2)
  | [], _ => rfl
  | v :: r, i => by
    rw [List.map_cons]
    unfold lv_args
    rw [List.map_cons, cv_cat, args_cv ρ r]
def retT : Nat → Option FieldType
  | 0 => some .int
  | 1 => some .boolean
  | 2 => some .long
  | _ => none
theorem retOk_MQ {p : Program} {l : Launch} {e : Env} {R : Room} {s : State} {m : MethodId} {args : Array Value} {below : List Frame} {meth : Method} {c : Code} {γ : GT} {ρ : Nat → Nat} {cc : ByteArray} {rt : Nat} {post : Option Value → XT → Prop} (hx : p.tables.exec = Jvm.exec) (hb : c.code = cc) (hr : meth.sig.returnType = retT rt) (hlocks : meth.locks = false) :
    RetOk p l e R s m args below meth c γ ρ (Ar ρ) 0 0 (MQ below (QX γ ρ post) args s 0 0 (Ar ρ)) cc rt post := by
  intro ins pc st X H locs ls hd h hP hS
  have hQ : ∀ v : Option Value, post v X → ∀ t : State, t.heap = H → s.WarmedH t.vm → QX γ ρ post args s (.returned (v.map (cv ρ))) t := fun v hv t ht hW => ⟨⟨v, X, rfl, hv, by rw [ht]; exact hP⟩, hS.F ht⟩
  unfold retx at h
  split at h
  next x =>
    obtain ⟨h1 | ⟨h1, h2⟩, h3⟩ := h
    · rw [h1] at hr
      exact W.iret (v := x) hx hb hr (hQ (some (.int x)) h3) hS.2.2 hd hlocks
    · rw [h1] at hr
      exact W.zret (v := x) (ty := .boolean) hx hb hr (nar_bl h2).1 (hQ (some (.int x)) h3) hS.2.2 hd hlocks
  next x =>
    obtain ⟨h1, h3⟩ := h
    rw [h1] at hr
    exact W.lret (v := x) hx hb hr (hQ (some (.long x)) h3) hS.2.2 hd hlocks
  next =>
    obtain ⟨h1, h3⟩ := h
    rw [h1] at hr
    exact W.vret hx hb hr (hQ none h3) hS.2.2 hd hlocks
  next => exact h.elim
/-- a method does what its table's runs show -/
theorem does_of {l : Launch} {y : MethodName} {cc : ByteArray} {maxL : Nat} {rt : Nat} {rm : Room} {t : List (Nat × TE)} {calls : List CE} {C : CT} (hy : plainName y.cls = true) (htk : tOk cc y.cls maxL t = true) (hcalls : ∀ q ∈ calls, CallRule l y.cls cc (wY y cc maxL (retT rt)) maxL rm q)
    (hbody : ∀ As X post, C As X post → szA As ≤ maxL ∧ ∀ R, Clo t rt calls none 0 post R → R 0 (lv_args 0 As) [] X) : Does l y (wY y cc maxL (retT rt)) rm C := by
  intro γ ρ As X post hρ hC
  obtain ⟨hsz, hrun⟩ := hbody As X post hC
  refine Met.ofW (cc := cc) (maxL := maxL) (ret := retT rt) hy rfl ?_
  intro p e s m args below meth c s₁ B hml hv
  obtain ⟨rfl, hP, hK, hN⟩ := hv
  have hts := atoms_spec (ws := wY y cc maxL (retT rt)) B.pre
  have hown : s.vm.findClass y.cls = some m.cls := findClass_of_methodNamed B.named
  have hfix : CallFix p m c cc maxL s ((As.map (cv ρ)).toArray) (wY y cc maxL (retT rt)) y.cls := ⟨B.exec, B.bytes, hml, hown, hts⟩
  have hl := lv_entry (As.map (cv ρ)) (n := maxL) (by rw [szA_cv]; exact hsz)
  rw [args_cv] at hl
  rw [lg_entry_eq]
  have hclo : Clo t rt calls none 0 post (RX p l e rm s m ((As.map (cv ρ)).toArray) below meth c γ ρ (Ar ρ) maxL 0 0 (MQ below (QX γ ρ post) ((As.map (cv ρ)).toArray) s 0 0 (Ar ρ))) :=
    ⟨exec_sound hfix (fun w hw => List.mem_cons_of_mem _ hw) hK hN hρ ⟨Nat.zero_le _, Nat.zero_le _⟩ hcalls (retOk_MQ B.exec B.bytes B.returns B.notSynchronized) (fun xs h => by cases h) htk,
     fun pc lv lv' st X hs hR H locs ls hP hS hl => hR H locs ls hP hS (lv_mono hl (fun q hq => by
       obtain ⟨q0, h0, rfl⟩ := List.mem_map.mp hq
       exact List.mem_map.mpr ⟨q0, hs q0 h0, rfl⟩))⟩
  exact hrun _ hclo s.heap [] _ hP va_S.rf hl
theorem fx_s (te : TE) (rt : Nat) (calls : List CE) (sc : Option (Nat → Int32)) (L : Nat) (post : Option Value → XT → Prop) (pc : Nat) (lv : List (Nat × Value)) (st : List Value) (X : XT) (κ : KT) : fx (some te) rt calls sc L post pc lv st X κ = exec rt calls sc L post te pc lv st X κ := (rfl)
theorem run_s (t : List (Nat × TE)) (rt : Nat) (calls : List CE) (sc : Option (Nat → Int32)) (L : Nat) (post : Option Value → XT → Prop) (stops : List (Nat × List Nat)) (R : KT) (n pc : Nat) (lv : List (Nat × Value)) (st : List Value) (X : XT) : run t rt calls sc L post stops R (n + 1) pc lv st X = rstop R pc lv st X (fx (fetch t pc) rt calls sc L post pc lv st X (run t rt calls sc L post stops R n)) stops := (rfl)
theorem run_0 (t : List (Nat × TE)) (rt : Nat) (calls : List CE) (sc : Option (Nat → Int32)) (L : Nat) (post : Option Value → XT → Prop) (stops : List (Nat × List Nat)) (R : KT) : run t rt calls sc L post stops R 0 = R := (rfl)
theorem rs_n (R : KT) (pc : Nat) (lv : List (Nat × Value)) (st : List Value) (X : XT) (n : Prop) : rstop R pc lv st X n [] = n := (rfl)
theorem rs_c (R : KT) (pc : Nat) (lv : List (Nat × Value)) (st : List Value) (X : XT) (n : Prop) (q : Nat) (l : List Nat) (r : List (Nat × List Nat)) : rstop R pc lv st X n ((q, l) :: r) = if q = pc then atStop (lsel lv l) R pc st X else rstop R pc lv st X n r := (rfl)
theorem as_s (lv : List (Nat × Value)) (R : KT) (pc : Nat) (st : List Value) (X : XT) : atStop (some lv) R pc st X = R pc lv st X := (rfl)
theorem ls_n (lv : List (Nat × Value)) : lsel lv [] = some [] := (rfl)
def lcons (i : Nat) (a : Option Value) (b : Option (List (Nat × Value))) : Option (List (Nat × Value)) := match a, b with
  | some v, some q => some ((i, v) :: q)
  | _, _ => none
theorem ls_c (lv : List (Nat × Value)) (i : Nat) (r : List Nat) : lsel lv (i :: r) = lcons i (lget lv i) (lsel lv r) := (rfl)
theorem lc_s (i : Nat) (v : Value) (q : List (Nat × Value)) : lcons i (some v) (some q) = some ((i, v) :: q) := (rfl)
end RUN
