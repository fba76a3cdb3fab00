/-! The abstract machine: what a stretch of a method's code does to locals, stack and world, as a proposition (a condition to prove, then the rest). -/
section MACH
abbrev KT : Type := Nat → List (Nat × Value) → List Value → XT → Prop
abbrev CT : Type := List Value → XT → (Option Value → XT → Prop) → Prop
/-- a call of the pool: its index, whether static, how many arguments (the receiver among them), the receiver's kind, what it does -/
abbrev CE : Type := Nat × Bool × Nat × Nat × CT
abbrev TE : Type := Instr × Nat × Nat × Nat × Int32 × Int64
def fetch : List (Nat × TE) → Nat → Option TE
  | [], _ => none
  | (q, e) :: r, pc => if q = pc then some e else fetch r pc
theorem fetch_in : ∀ (t : List (Nat × TE)) (pc : Nat) (e : TE), fetch t pc = some e → (pc, e) ∈ t
  | [], _, _, h => by cases h
  | (q, e0) :: r, pc, e, h => by
    unfold fetch at h
    split at h
    next hq => cases h; rw [hq]; exact List.mem_cons_self
    next => exact List.mem_cons_of_mem _ (fetch_in r pc e h)
def lget : List (Nat × Value) → Nat → Option Value
  | [], _ => none
  | (j, u) :: r, i => if j = i then some u else lget r i
theorem lget_in : ∀ (l : List (Nat × Value)) (i : Nat) (v : Value), lget l i = some v → (i, v) ∈ l
  | [], _, _, h => by cases h
  | (j, u) :: r, i, v, h => by
    unfold lget at h
    split at h
    next hq => cases h; rw [hq]; exact List.mem_cons_self
    next => exact List.mem_cons_of_mem _ (lget_in r i v h)
/-- what stays of the locals behind a store into place i (two: of a long) -/
def lrm (i : Nat) (two : Bool) : List (Nat × Value) → List (Nat × Value)
  | [] => []
  | (j, u) :: r => if j = i then lrm i two r else if two = true ∧ j = i + 1 then lrm i two r else if j + 1 = i ∧ u.category = 2 then lrm i two r else (j, u) :: lrm i two r
theorem lrm_in (i : Nat) (two : Bool) : ∀ (l : List (Nat × Value)) (q : Nat × Value), q ∈ lrm i two l → q ∈ l ∧ q.1 ≠ i ∧ (two = true → q.1 ≠ i + 1) ∧ ¬ (q.1 + 1 = i ∧ q.2.category = 2)
  | [], q, h => by cases h
  | (j, u) :: r, q, h => by
    have up : q ∈ lrm i two r → q ∈ (j, u) :: r ∧ q.1 ≠ i ∧ (two = true → q.1 ≠ i + 1) ∧ ¬ (q.1 + 1 = i ∧ q.2.category = 2) := fun z => ⟨List.mem_cons_of_mem _ (lrm_in i two r q z).1, (lrm_in i two r q z).2⟩
    unfold lrm at h
    split at h
    next => exact up h
    next h1 =>
      split at h
      next => exact up h
      next h2 =>
        split at h
        next => exact up h
        next h3 =>
          rcases List.mem_cons.mp h with e | e
          · subst e
            exact ⟨List.mem_cons_self, h1, fun t z => h2 ⟨t, z⟩, h3⟩
          · exact up e
def popA : Nat → List Value → List Value → Option (List Value × List Value)
  | 0, acc, st => some (acc, st)
  | n + 1, acc, v :: st => popA n (v :: acc) st
  | _ + 1, _, [] => none
/-- stack st is the arguments As, the last on top, over r -/
theorem popA_st : ∀ (n : Nat) (acc st As r : List Value), popA n acc st = some (As, r) → As.reverse ++ r = acc.reverse ++ st ∧ As.length = acc.length + n
  | 0, acc, st, As, r, h => by
    unfold popA at h
    cases h
    exact ⟨rfl, rfl⟩
  | n + 1, acc, v :: st, As, r, h => by
    unfold popA at h
    obtain ⟨h1, h2⟩ := popA_st n (v :: acc) st As r h
    refine ⟨by rw [h1]; simp, by rw [h2]; simp; omega⟩
  | n + 1, acc, [], As, r, h => by
    unfold popA at h
    cases h
def catS (st : List Value) : Nat := (st.map fun v => v.category).sum
/-- a boolean -/
def bl (x : Int32) : Prop := x = 0 ∨ x = 1
def xI (o : Option Value) (κ : Int32 → Prop) : Prop := match o with
  | some (.int x) => κ x
  | _ => False
def xL (o : Option Value) (κ : Int64 → Prop) : Prop := match o with
  | some (.long x) => κ x
  | _ => False
def xR (o : Option Value) (κ : Nat → Prop) : Prop := match o with
  | some (.ref x) => κ x
  | _ => False
def s1I (st : List Value) (κ : Int32 → List Value → Prop) : Prop := match st with
  | .int x :: r => κ x r
  | _ => False
def s1L (st : List Value) (κ : Int64 → List Value → Prop) : Prop := match st with
  | .long x :: r => κ x r
  | _ => False
def s1R (st : List Value) (κ : Nat → List Value → Prop) : Prop := match st with
  | .ref x :: r => κ x r
  | _ => False
def s2I (st : List Value) (κ : Int32 → Int32 → List Value → Prop) : Prop := match st with
  | .int y :: .int x :: r => κ x y r
  | _ => False
def s2L (st : List Value) (κ : Int64 → Int64 → List Value → Prop) : Prop := match st with
  | .long y :: .long x :: r => κ x y r
  | _ => False
def sLI (st : List Value) (κ : Int64 → Int32 → List Value → Prop) : Prop := match st with
  | .int y :: .long x :: r => κ x y r
  | _ => False
def sRI (st : List Value) (κ : Nat → Int32 → List Value → Prop) : Prop := match st with
  | .int i :: .ref k :: r => κ k i r
  | _ => False
def sRII (st : List Value) (κ : Nat → Int32 → Int32 → List Value → Prop) : Prop := match st with
  | .int x :: .int i :: .ref k :: r => κ k i x r
  | _ => False
def sRIL (st : List Value) (κ : Nat → Int32 → Int64 → List Value → Prop) : Prop := match st with
  | .long x :: .int i :: .ref k :: r => κ k i x r
  | _ => False
def sRIR (st : List Value) (κ : Nat → Int32 → Nat → List Value → Prop) : Prop := match st with
  | .ref x :: .int i :: .ref k :: r => κ k i x r
  | _ => False
/-- a field's value, and a field's writing (False: not that kind) -/
def fvA (X : XT) (c k j : Nat) : Value := match fk c j with
  | 0 => .int (X.1 k j)
  | 1 => .long (X.2.1 k j)
  | n + 2 => .ref (k + n)
def pfA (X : XT) (c j : Nat) (st : List Value) (κ : List Value → XT → Prop) : Prop := match fk c j, st with
  | 0, .int x :: .ref k :: r => k < NC ∧ (shp k).1 = c ∧ (zf c j = true → bl x) ∧ κ r (sI X k j x)
  | 1, .long x :: .ref k :: r => k < NC ∧ (shp k).1 = c ∧ κ r (sL X k j x)
  | _, _ => False
def tsw (pc : Nat) (d lo hi : Int) (offs : Array Int) (x : Int32) : Nat := if x.toInt < lo ∨ hi < x.toInt then ((pc : Int) + d).toNat else ((pc : Int) + offs.getD (x.toInt - lo).toNat 0).toNat
def recvOk (As : List Value) (c : Nat) : Prop := match As with
  | .ref k :: _ => k < NC ∧ (shp k).1 = c
  | _ => False
def xcall (calls : List CE) (a : Nat) (i : Nat) (sta : Bool) (st : List Value) (X : XT) (κ : List Value → XT → Prop) : Prop := match calls[a]? with
  | some (i', sta', n, c, C) => (i' = i ∧ sta' = sta) ∧ (match popA n [] st with
    | some (As, r) => catS r ≤ 8 ∧ (sta = false → recvOk As c) ∧ C As X (fun v X' => κ (v.toList ++ r) X')
    | none => False)
  | none => False
def retx (rt : Nat) (post : Option Value → XT → Prop) (ins : Instr) (st : List Value) (X : XT) : Prop := match ins, st with
  | .ireturn, [.int x] => (rt = 0 ∨ (rt = 1 ∧ bl x)) ∧ post (some (.int x)) X
  | .lreturn, [.long x] => rt = 2 ∧ post (some (.long x)) X
  | .return_, [] => rt = 3 ∧ post none X
  | _, _ => False
def scrR (sc : Option (Nat → Int32)) (L : Nat) (k : Nat) (i : Int32) (κ : Int32 → Prop) (other : Prop) : Prop := match sc with
  | none => other
  | some xs => if k = 999 then vp_in i L ∧ κ (xs i.toNatClampNeg) else other
def scrN (sc : Option (Nat → Int32)) (L : Nat) (k : Nat) (κ : Int32 → Prop) (other : Prop) : Prop := match sc with
  | none => other
  | some _ => if k = 999 then κ (Int32.ofNat L) else other
def exec (rt : Nat) (calls : List CE) (sc : Option (Nat → Int32)) (L : Nat) (post : Option Value → XT → Prop) (e : TE) (pc : Nat) (lv : List (Nat × Value)) (st : List Value) (X : XT) (κ : KT) : Prop := match e with
  | (ins, len, a, b, k, w) => match ins with
    | .iload _ => xI (lget lv a) fun x => κ (pc + 2) lv (.int x :: st) X
    | .iload_n _ => xI (lget lv a) fun x => κ (pc + 1) lv (.int x :: st) X
    | .lload _ => xL (lget lv a) fun x => κ (pc + 2) lv (.long x :: st) X
    | .lload_n _ => xL (lget lv a) fun x => κ (pc + 1) lv (.long x :: st) X
    | .aload _ => xR (lget lv a) fun x => κ (pc + 2) lv (.ref x :: st) X
    | .aload_n _ => xR (lget lv a) fun x => κ (pc + 1) lv (.ref x :: st) X
    | .istore _ => s1I st fun x r => κ (pc + 2) ((a, .int x) :: lrm a false lv) r X
    | .istore_n _ => s1I st fun x r => κ (pc + 1) ((a, .int x) :: lrm a false lv) r X
    | .lstore _ => s1L st fun x r => κ (pc + 2) ((a, .long x) :: lrm a true lv) r X
    | .lstore_n _ => s1L st fun x r => κ (pc + 1) ((a, .long x) :: lrm a true lv) r X
    | .astore _ => s1R st fun x r => κ (pc + 2) ((a, .ref x) :: lrm a false lv) r X
    | .astore_n _ => s1R st fun x r => κ (pc + 1) ((a, .ref x) :: lrm a false lv) r X
    | .iinc _ _ => xI (lget lv a) fun x => κ (pc + 3) ((a, .int (x + k)) :: lrm a false lv) st X
    | .iconst _ => κ (pc + 1) lv (.int k :: st) X
    | .bipush _ => κ (pc + 2) lv (.int k :: st) X
    | .sipush _ => κ (pc + 3) lv (.int k :: st) X
    | .ldc _ => κ (pc + 2) lv (.int k :: st) X
    | .lconst _ => κ (pc + 1) lv (.long w :: st) X
    | .ldc2_w _ => κ (pc + 3) lv (.long w :: st) X
    | .iadd => s2I st fun x y r => κ (pc + 1) lv (.int (x + y) :: r) X
    | .isub => s2I st fun x y r => κ (pc + 1) lv (.int (x - y) :: r) X
    | .imul => s2I st fun x y r => κ (pc + 1) lv (.int (x * y) :: r) X
    | .iand => s2I st fun x y r => κ (pc + 1) lv (.int (x &&& y) :: r) X
    | .ior => s2I st fun x y r => κ (pc + 1) lv (.int (x ||| y) :: r) X
    | .ishl => s2I st fun x y r => κ (pc + 1) lv (.int (x <<< (y &&& 31)) :: r) X
    | .ishr => s2I st fun x y r => κ (pc + 1) lv (.int (x >>> (y &&& 31)) :: r) X
    | .iushr => s2I st fun x y r => κ (pc + 1) lv (.int (x.toUInt32 >>> (y.toUInt32 &&& Int32.toUInt32 31)).toInt32 :: r) X
    | .idiv => s2I st fun x y r => ¬ y = 0 ∧ κ (pc + 1) lv (.int (x / y) :: r) X
    | .irem => s2I st fun x y r => ¬ y = 0 ∧ κ (pc + 1) lv (.int (x - x / y * y) :: r) X
    | .ladd => s2L st fun x y r => κ (pc + 1) lv (.long (x + y) :: r) X
    | .lsub => s2L st fun x y r => κ (pc + 1) lv (.long (x - y) :: r) X
    | .lmul => s2L st fun x y r => κ (pc + 1) lv (.long (x * y) :: r) X
    | .land => s2L st fun x y r => κ (pc + 1) lv (.long (x &&& y) :: r) X
    | .lor => s2L st fun x y r => κ (pc + 1) lv (.long (x ||| y) :: r) X
    | .ldiv => s2L st fun x y r => ¬ y = 0 ∧ κ (pc + 1) lv (.long (x / y) :: r) X
    | .lcmp => s2L st fun x y r => κ (pc + 1) lv (.int (lg_cmp x y) :: r) X
    | .lshl => sLI st fun x y r => κ (pc + 1) lv (.long (x <<< (y.toInt64 &&& 63)) :: r) X
    | .lushr => sLI st fun x y r => κ (pc + 1) lv (.long (x.toUInt64 >>> (y.toInt64.toUInt64 &&& Int64.toUInt64 63)).toInt64 :: r) X
    | .i2l => s1I st fun x r => κ (pc + 1) lv (.long x.toInt64 :: r) X
    | .l2i => s1L st fun x r => κ (pc + 1) lv (.int x.toInt32 :: r) X
    | .dup => (match st with
      | v :: r => v.category = 1 ∧ κ (pc + 1) lv (v :: v :: r) X
      | _ => False)
    | .dup2 => (match st with
      | v :: u :: r => (v.category = 1 ∧ u.category = 1) ∧ κ (pc + 1) lv (v :: u :: v :: u :: r) X
      | _ => False)
    | .pop => (match st with
      | v :: r => v.category = 1 ∧ κ (pc + 1) lv r X
      | _ => False)
    | .ifCond .eq _ => s1I st fun x r => (x = 0 → κ a lv r X) ∧ (¬ x = 0 → κ (pc + 3) lv r X)
    | .ifCond .ne _ => s1I st fun x r => (¬ x = 0 → κ a lv r X) ∧ (x = 0 → κ (pc + 3) lv r X)
    | .ifCond .lt _ => s1I st fun x r => (x < 0 → κ a lv r X) ∧ (¬ x < 0 → κ (pc + 3) lv r X)
    | .ifCond .ge _ => s1I st fun x r => (0 ≤ x → κ a lv r X) ∧ (¬ 0 ≤ x → κ (pc + 3) lv r X)
    | .ifCond .gt _ => s1I st fun x r => (0 < x → κ a lv r X) ∧ (¬ 0 < x → κ (pc + 3) lv r X)
    | .ifCond .le _ => s1I st fun x r => (x ≤ 0 → κ a lv r X) ∧ (¬ x ≤ 0 → κ (pc + 3) lv r X)
    | .if_icmp .eq _ => s2I st fun x y r => (x = y → κ a lv r X) ∧ (¬ x = y → κ (pc + 3) lv r X)
    | .if_icmp .ne _ => s2I st fun x y r => (¬ x = y → κ a lv r X) ∧ (x = y → κ (pc + 3) lv r X)
    | .if_icmp .lt _ => s2I st fun x y r => (x < y → κ a lv r X) ∧ (¬ x < y → κ (pc + 3) lv r X)
    | .if_icmp .ge _ => s2I st fun x y r => (y ≤ x → κ a lv r X) ∧ (¬ y ≤ x → κ (pc + 3) lv r X)
    | .if_icmp .gt _ => s2I st fun x y r => (y < x → κ a lv r X) ∧ (¬ y < x → κ (pc + 3) lv r X)
    | .if_icmp .le _ => s2I st fun x y r => (x ≤ y → κ a lv r X) ∧ (¬ x ≤ y → κ (pc + 3) lv r X)
    | .goto _ => κ a lv st X
    | .tableswitch d lo hi offs => s1I st fun x r => κ (tsw pc d lo hi offs x) lv r X
    | .getfield _ => s1R st fun q r => (q < NC ∧ (shp q).1 = a) ∧ κ (pc + 3) lv (fvA X a q b :: r) X
    | .putfield _ => pfA X a b st fun r X' => κ (pc + 3) lv r X'
    | .iaload => sRI st fun q i r => scrR sc L q i (fun x => κ (pc + 1) lv (.int x :: r) X) ((q < NC ∧ (shp q).1 = 5 ∧ vp_in i (shp q).2) ∧ κ (pc + 1) lv (.int (X.1 q i.toNatClampNeg) :: r) X)
    | .laload => sRI st fun q i r => (q < NC ∧ (shp q).1 = 6 ∧ vp_in i (shp q).2) ∧ κ (pc + 1) lv (.long (X.2.1 q i.toNatClampNeg) :: r) X
    | .aaload => sRI st fun q i r => (q < NC ∧ (shp q).1 = 8 ∧ vp_in i (shp q).2) ∧ κ (pc + 1) lv (.ref (X.2.2 i.toNatClampNeg) :: r) X
    | .iastore => sRII st fun q i x r => (q < NC ∧ (shp q).1 = 5 ∧ vp_in i (shp q).2) ∧ κ (pc + 1) lv r (sI X q i.toNatClampNeg x)
    | .lastore => sRIL st fun q i x r => (q < NC ∧ (shp q).1 = 6 ∧ vp_in i (shp q).2) ∧ κ (pc + 1) lv r (sL X q i.toNatClampNeg x)
    | .aastore => sRIR st fun q i x r => (q < NC ∧ (shp q).1 = 8 ∧ vp_in i (shp q).2 ∧ x < NC ∧ (shp x).1 = 0) ∧ κ (pc + 1) lv r (sR X i.toNatClampNeg x)
    | .arraylength => s1R st fun q r => scrN sc L q (fun x => κ (pc + 1) lv (.int x :: r) X) ((q < NC ∧ 5 ≤ (shp q).1 ∧ (shp q).1 ≤ 8) ∧ κ (pc + 1) lv (.int (nI (shp q).2) :: r) X)
    | .invokevirtual i => xcall calls a i false st X fun r X' => κ (pc + 3) lv r X'
    | .invokestatic i => xcall calls a i true st X fun r X' => κ (pc + 3) lv r X'
    | i => retx rt post i st X
/-- what a row of a method's table must be -/
def eOk (cc : ByteArray) (q : Nat × TE) : Bool := decide (decode cc q.1 = .ok (q.2.1, q.2.2.1)) && (match q with
  | (pc, ins, len, a, b, k, w) => match ins with
    | .iload i => i == a && len == 2
    | .lload i => i == a && len == 2
    | .aload i => i == a && len == 2
    | .istore i => i == a && len == 2
    | .lstore i => i == a && len == 2
    | .astore i => i == a && len == 2
    | .iload_n i => i.val == a && len == 1
    | .lload_n i => i.val == a && len == 1
    | .aload_n i => i.val == a && len == 1
    | .istore_n i => i.val == a && len == 1
    | .lstore_n i => i.val == a && len == 1
    | .astore_n i => i.val == a && len == 1
    | .iinc i n => i == a && Int32.ofInt n == k && len == 3
    | .iconst n => Int32.ofInt n == k && len == 1
    | .bipush n => (Int8.ofInt n).toInt32 == k && len == 2
    | .sipush n => (Int16.ofInt n).toInt32 == k && len == 3
    | .ldc _ => len == 2
    | .lconst n => Int64.ofNat n.val == w && len == 1
    | .ldc2_w _ => len == 3
    | .ifCond _ o => (pc : Int) + o == (a : Int) && len == 3
    | .if_icmp _ o => (pc : Int) + o == (a : Int) && len == 3
    | .goto o => (pc : Int) + o == (a : Int) && len == 3
    | .tableswitch d lo hi offs => decide (0 ≤ (pc : Int) + d) && offs.toList.all (fun o => decide (0 ≤ (pc : Int) + o)) && decide (hi - lo < offs.size)
    | .getfield _ => len == 3
    | .putfield _ => len == 3
    | .invokevirtual _ => len == 3
    | .invokestatic _ => len == 3
    | _ => len == 1)
def nwF : List (String × Nat × String × String × String × String) := [("RumourSource", 102, "RumourSource$Scene", "seen", "[I", "RumourSource"), ("RumourSource", 105, "RumourSource$Scene", "sensors", "I", "RumourSource"), ("RumourSource", 119, "RumourSource$Spread", "times", "[I", "RumourSource"), ("RumourSource", 147, "RumourSource$Spread", "total", "J", "RumourSource"), ("RumourSource", 154, "RumourSource$Spread", "totalHeard", "J", "RumourSource"), ("RumourSource", 172, "RumourSource$Spread", "bestOutcome", "I", "RumourSource"), ("RumourSource", 179, "RumourSource$Spread", "met", "[J", "RumourSource"), ("RumourSource", 201, "RumourSource$Text", "draft", "LRumourSource$Scene;", "RumourSource"), ("RumourSource", 70, "RumourSource$Scene", "trust", "[I", "RumourSource"), ("RumourSource", 74, "RumourSource$Scene", "delay", "[I", "RumourSource"), ("RumourSource", 81, "RumourSource$Scene", "count", "I", "RumourSource"), ("RumourSource", 84, "RumourSource$Scene", "from", "[I", "RumourSource"), ("RumourSource", 87, "RumourSource$Scene", "to", "[I", "RumourSource"), ("RumourSource", 93, "RumourSource$Scene", "horizon", "I", "RumourSource"), ("RumourSource$Spread", 47, "RumourSource$Scene", "seen", "[I", "RumourSource"), ("RumourSource$Spread", 56, "RumourSource$Scene", "count", "I", "RumourSource"), ("RumourSource$Spread", 59, "RumourSource$Scene", "to", "[I", "RumourSource"), ("RumourSource$Spread", 66, "RumourSource$Scene", "from", "[I", "RumourSource"), ("RumourSource$Spread", 69, "RumourSource$Scene", "delay", "[I", "RumourSource"), ("RumourSource$Spread", 72, "RumourSource$Scene", "horizon", "I", "RumourSource"), ("RumourSource$Spread", 89, "RumourSource$Scene", "trust", "[I", "RumourSource"), ("RumourSource$Text", 77, "RumourSource$Scene", "seen", "[I", "RumourSource")]
def nwM : List (String × Nat × MethodName × String) := [("RumourSource", 11, ⟨"RumourSource$Scene", "<init>", "()V"⟩, "RumourSource"), ("RumourSource", 115, ⟨"RumourSource$Spread", "follow", "(LRumourSource$Scene;II)V"⟩, "RumourSource"), ("RumourSource", 130, ⟨"RumourSource$Spread", "wantAsSeen", "(LRumourSource$Scene;)V"⟩, "RumourSource"), ("RumourSource", 134, ⟨"RumourSource$Spread", "isAsWanted", "()Z"⟩, "RumourSource"), ("RumourSource", 139, ⟨"RumourSource$Spread", "wantOnly", "(II)V"⟩, "RumourSource"), ("RumourSource", 143, ⟨"RumourSource$Spread", "search", "(LRumourSource$Scene;IZ)V"⟩, "RumourSource"), ("RumourSource", 151, ⟨"RumourSource$Spread", "wantNothing", "()V"⟩, "RumourSource"), ("RumourSource", 188, ⟨"RumourSource$Scene", "copyFrom", "(LRumourSource$Scene;)V"⟩, "RumourSource"), ("RumourSource", 197, ⟨"RumourSource$Text", "read", "(LRumourSource$Scene;)I"⟩, "RumourSource"), ("RumourSource", 22, ⟨"RumourSource$Spread", "<init>", "()V"⟩, "RumourSource"), ("RumourSource", 29, ⟨"RumourSource$Text", "<init>", "()V"⟩, "RumourSource"), ("RumourSource", 52, ⟨"RumourSource$Scene", "find", "(II)I"⟩, "RumourSource"), ("RumourSource", 56, ⟨"RumourSource$Scene", "isFull", "()Z"⟩, "RumourSource"), ("RumourSource", 63, ⟨"RumourSource$Scene", "put", "(IIII)I"⟩, "RumourSource"), ("RumourSource", 67, ⟨"RumourSource$Scene", "hasEdge", "(I)Z"⟩, "RumourSource"), ("RumourSource", 77, ⟨"RumourSource$Scene", "drop", "(I)V"⟩, "RumourSource"), ("RumourSource$Scene", 45, ⟨"RumourSource", "isNode", "(I)Z"⟩, "RumourSource"), ("RumourSource$Spread", 43, ⟨"RumourSource", "isNode", "(I)Z"⟩, "RumourSource"), ("RumourSource$Text", 21, ⟨"RumourSource$Scene", "<init>", "()V"⟩, "RumourSource"), ("RumourSource$Text", 32, ⟨"RumourSource$Scene", "copyFrom", "(LRumourSource$Scene;)V"⟩, "RumourSource"), ("RumourSource$Text", 63, ⟨"RumourSource$Scene", "isFull", "()Z"⟩, "RumourSource"), ("RumourSource$Text", 66, ⟨"RumourSource$Scene", "find", "(II)I"⟩, "RumourSource"), ("RumourSource$Text", 73, ⟨"RumourSource$Scene", "put", "(IIII)I"⟩, "RumourSource"), ("RumourSource$Text", 80, ⟨"RumourSource", "isNode", "(I)Z"⟩, "RumourSource")]
/-- the words that any of our methods may hold -/
def inB (w : Cond) : Bool := decide (w ∈ lw_tbl) && goodWord w
def BW : List Cond := lw_tbl.filter goodWord
theorem inB_BW {w : Cond} (h : inB w = true) : w ∈ BW := by
  unfold inB at h
  simp only [Bool.and_eq_true, decide_eq_true_eq] at h
  exact List.mem_filter.mpr h
def fldB (own : String) (i c j : Nat) : Bool := match vwCl[c]? with
  | some (_, T, N) => decide (j < N) && (inB (.fieldLink own i (T j).1 (T j).2.1 (T j).2.2.1) || nwF.contains (own, i, (T j).1, (T j).2.1, (T j).2.2.1, "RumourSource"))
  | none => false
def lOk (own : String) (q : Nat × TE) : Bool := match q with
  | (_, ins, _, a, b, k, w) => match ins with
    | .getfield i => fldB own i a b
    | .putfield i => fldB own i a b
    | .ldc i => inB (.constant own i k)
    | .ldc2_w i => inB (.constantLong own i w)
    | _ => true
def nOk (nL : Nat) (q : Nat × TE) : Bool := match q with
  | (_, ins, _, a, _) => match ins with
    | .istore _ => decide (a < nL)
    | .istore_n _ => decide (a < nL)
    | .astore _ => decide (a < nL)
    | .astore_n _ => decide (a < nL)
    | .lstore _ => decide (a + 1 < nL)
    | .lstore_n _ => decide (a + 1 < nL)
    | .iinc _ _ => decide (a < nL)
    | _ => true
def tOk (cc : ByteArray) (own : String) (nL : Nat) (t : List (Nat × TE)) : Bool := t.all (fun q => (eOk cc q && lOk own q) && nOk nL q)
theorem u_inB0 : wsX00.all inB = true := by decide +kernel
theorem u_inB1 : wsX10.all inB = true := by decide +kernel
theorem u_inB2 : wsX20.all inB = true := by decide +kernel
theorem u_inB3 : wsX30.all inB = true := by decide +kernel
/-- the field table of the classes -/
def tyG (c : Nat) : Nat → FieldType := [tyX0, tyX1, tyX2, tyX3].getD c tyX0
theorem cl_facts : ∀ (c : Nat) (q : vw_C), vwCl[c]? = some q → (∀ w ∈ u_ws q.1 q.2.1 q.2.2, w ∈ BW) ∧ (∀ k, k < q.2.2 → parseFieldDescriptor (q.2.1 k).2.2.1 = some (tyG c k)) ∧ (∀ a, a < q.2.2 → ∀ b, b < q.2.2 → a ≠ b → (q.2.1 a).2.1 ≠ (q.2.1 b).2.1) ∧ q.2.2 = nf c ∧ c < 5 := by
  intro c q h
  match c, h with
  | 0, h => cases h; exact ⟨fun w hw => inB_BW (List.all_eq_true.mp u_inB0 w hw), tyX0_ok, nmX0, rfl, by decide⟩
  | 1, h => cases h; exact ⟨fun w hw => inB_BW (List.all_eq_true.mp u_inB1 w hw), tyX1_ok, nmX1, rfl, by decide⟩
  | 2, h => cases h; exact ⟨fun w hw => inB_BW (List.all_eq_true.mp u_inB2 w hw), tyX2_ok, nmX2, rfl, by decide⟩
  | 3, h => cases h; exact ⟨fun w hw => inB_BW (List.all_eq_true.mp u_inB3 w hw), tyX3_ok, nmX3, rfl, by decide⟩
  | c + 4, h => simp [vwCl] at h
/-- which kind of number a field holds, by the class file's own word -/
def fkd (c j : Nat) : Bool := match vwCl[c]? with
  | some (_, T, N) => if j < N then (if fk c j = 0 then !(T j).2.2.2 && (T j).2.2.1 == (if zf c j then "Z" else "I") else if fk c j = 1 then !(T j).2.2.2 && (T j).2.2.1 == "J" else true) else true
  | none => true
theorem fkd_ok : (List.range 5).all (fun c => (List.range 12).all (fun j => fkd c j)) = true := by decide +kernel
def NL (U : State) : Prop := (∀ q ∈ nwF, va_Nw (.fieldLinkNest q.1 q.2.1 q.2.2.1 q.2.2.2.1 q.2.2.2.2.1 q.2.2.2.2.2) U) ∧ ∀ q ∈ nwM, va_Nw (.methodLinkNest q.1 q.2.1 q.2.2.1 q.2.2.2) U
theorem NL.warm {s U : State} (hW : s.WarmedH U.vm) (h : NL s) : NL U := ⟨fun q hq => va_Nw.warmF hW (h.1 q hq), fun q hq => va_Nw.warmM hW (h.2 q hq)⟩
theorem NL.same {u U : State} (hv : u.vm = U.vm) (h : NL u) : NL U := ⟨fun q hq => va_Nw.same rfl hv (h.1 q hq), fun q hq => va_Nw.same rfl hv (h.2 q hq)⟩
/-- a method's words, its start and its end -/
def wY (y : MethodName) (cc : ByteArray) (maxL : Nat) (ret : Option FieldType) : List Cond := Cond.code y cc maxL ret :: BW
def Hd (γ : GT) (ρ : Nat → Nat) (X : XT) (U : State) : Prop := va_P γ.1 vwCl (cells γ ρ X) U.heap ∧ va_K γ.1 vwCl (tysG γ) U ∧ NL U
def Ar (ρ : Nat → Nat) : Nat → Prop := fun q => ∃ k, k < NC ∧ q = ρ k
def QX (γ : GT) (ρ : Nat → Nat) (post : Option Value → XT → Prop) : Array Value → State → Outcome → State → Prop := fun _ st oc t => (∃ (v : Option Value) (X' : XT), oc = .returned (v.map (cv ρ)) ∧ post v X' ∧ va_P γ.1 vwCl (cells γ ρ X') t.heap) ∧ va_F (Ar ρ) st t
def MX (l : Launch) (γ : GT) (ρ : Nat → Nat) (y : MethodName) (ws : List Cond) (rm : Room) (As : List Value) (X : XT) (post : Option Value → XT → Prop) : Prop :=
  Met l y ws rm (va_Pc (As.map (cv ρ)) (Hd γ ρ X)) (QX γ ρ post) 0 0 (Ar ρ)
/-- method y does C -/
def Does (l : Launch) (y : MethodName) (ws : List Cond) (rm : Room) (C : CT) : Prop := ∀ (γ : GT) (ρ : Nat → Nat) (As : List Value) (X : XT) (post : Option Value → XT → Prop), dA (Ar ρ) ρ → C As X post → MX l γ ρ y ws rm As X post
theorem Hd.blind (γ : GT) (ρ : Nat → Nat) (X : XT) (vs : List Value) : FrameBlind (va_Pc vs (Hd γ ρ X)) := by
  intro a U g mk q
  obtain ⟨q0, qP, qK, qN⟩ := q
  exact ⟨q0, qP, va_K.moved (u := U) (U := U.calling g mk a) (Vm.Alike.refl U.vm) qK, NL.same (u := U) (U := U.calling g mk a) rfl qN⟩
theorem Hd.of {γ : GT} {ρ : Nat → Nat} {X : XT} {s U : State} {H : Heap} (hP : va_P γ.1 vwCl (cells γ ρ X) H) (hK : va_K γ.1 vwCl (tysG γ) s) (hN : NL s) (hU : U.heap = H) (hW : s.WarmedH U.vm) : Hd γ ρ X U := ⟨by rw [hU]; exact hP, va_K.moved hW.alike hK, hN.warm hW⟩
end MACH
