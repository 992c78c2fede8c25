/-! THE INTERPRETER: a program of numbered methods; cells are known by their places (numbers in the order in which they came), not by their addresses. -/
abbrev zK : Type := List (Nat × Nat)
abbrev zS : Type := zK × (Nat → Nat → Int32) × (Nat → Nat → Option Nat) × (Nat → Nat → Int64) × Nat × Nat
abbrev zLs : Type := List (Option Value)
abbrev zI : Type := Instr × Nat × Nat × Nat × List Nat
/-- name, bytes, locals, return type, handlers (start, end, where, which class), its code, frames, words -/
abbrev zM : Type := MethodName × ByteArray × Nat × Option FieldType × List (Nat × Nat × Nat × Nat) × List (Nat × zI) × Nat × Nat
abbrev zO : Type := Option Value ⊕ Nat
abbrev zmN (q : zM) : MethodName := q.1
abbrev zmB (q : zM) : ByteArray := q.2.1
abbrev zmL (q : zM) : Nat := q.2.2.1
abbrev zmR (q : zM) : Option FieldType := q.2.2.2.1
abbrev zmH (q : zM) : List (Nat × Nat × Nat × Nat) := q.2.2.2.2.1
abbrev zmC (q : zM) : List (Nat × zI) := q.2.2.2.2.2.1
abbrev zmF (q : zM) : Nat := q.2.2.2.2.2.2.1
abbrev zmW (q : zM) : Nat := q.2.2.2.2.2.2.2
def zlk : List (Nat × zI) → Nat → Option zI
  | [], _ => none
  | e :: r, pc => if e.1 = pc then some e.2 else zlk r pc
def zg (ls : zLs) (k : Nat) : Option Value := match ls[k]? with
  | some (some v) => some v
  | _ => none
def zc2 : Option Value → Bool
  | some v => v.category == 2
  | none => false
def zkl (ls : zLs) (i : Nat) : zLs := match i with
  | 0 => ls
  | k + 1 => if zc2 (ls.getD k none) then ls.set k none else ls
def zs1 (ls : zLs) (i : Nat) (v : Value) : zLs := (zkl ls i).set i (some v)
def zs2 (ls : zLs) (i : Nat) (v : Value) : zLs := ((zkl ls i).set i (some v)).set (i + 1) none
def zent : List Value → zLs
  | [] => []
  | v :: vs => if v.category = 2 then some v :: none :: zent vs else some v :: zent vs
/-- a method's first locals -/
def zfst (vs : List Value) (n : Nat) : zLs := zent vs ++ List.replicate (n - (zent vs).length) none
def zup {α : Type} (h : Nat → Nat → α) (p f : Nat) (v : α) : Nat → Nat → α := fun a j => if a = p ∧ j = f then v else h a j
def zupR {α : Type} (h : Nat → Nat → α) (p : Nat) (v : Nat → α) : Nat → Nat → α := fun a => if a = p then v else h a
/-- what a field of that type holds -/
def zfv (ty : FieldType) (σ : zS) (p f : Nat) : Value := match ty with
  | .object _ => va_rf (σ.2.2.1 p f)
  | .array _ => va_rf (σ.2.2.1 p f)
  | .long => .long (σ.2.2.2.1 p f)
  | _ => .int (σ.2.1 p f)
/-- a field gets a value -/
def zfp (σ : zS) (p f : Nat) (v : Value) : Option zS := match v with
  | .int x => some (σ.1, zup σ.2.1 p f x, σ.2.2)
  | .long x => some (σ.1, σ.2.1, σ.2.2.1, zup σ.2.2.2.1 p f x, σ.2.2.2.2)
  | .ref q => some (σ.1, σ.2.1, zup σ.2.2.1 p f (some q), σ.2.2.2)
  | .null => some (σ.1, σ.2.1, zup σ.2.2.1 p f none, σ.2.2.2)
  | _ => none
/-- a new cell of a kind, n slots -/
def znw (σ : zS) (k n : Nat) : zS := (σ.1 ++ [(k, n)], zupR σ.2.1 σ.1.length (fun _ => 0), zupR σ.2.2.1 σ.1.length (fun _ => none), zupR σ.2.2.2.1 σ.1.length (fun _ => 0), σ.2.2.2.2.1 + 1, σ.2.2.2.2.2 + n)
/-- an object is thrown: a cell of six slots that nobody will ask for -/
def zthr (σ : zS) : zS := (σ.1, σ.2.1, σ.2.2.1, σ.2.2.2.1, σ.2.2.2.2.1 + 1, σ.2.2.2.2.2 + 6)
def zcat (hs : List (Nat × Nat × Nat × Nat)) (pc E : Nat) : Option Nat := match hs with
  | [] => none
  | x :: r => if x.1 ≤ pc ∧ pc < x.2.1 ∧ x.2.2.2 = E then some x.2.2.1 else zcat r pc E
def zin (i : Int32) (n : Nat) : Bool := decide (¬ (i < 0 ∨ n ≤ i.toNatClampNeg))
abbrev zR : Type := Nat → Nat → zLs → List Value → zS → Option (zO × zS)
/-- behind a call: it returned, or threw -/
def zback (P : Nat → zM) (rec : zR) (y pc : Nat) (ls : zLs) (rest : List Value) : Option (zO × zS) → Option (zO × zS)
  | none => none
  | some (.inl v, σ) => rec y (pc + 3) ls (v.toList ++ rest) σ
  | some (.inr E, σ) => match zcat (zmH (P y)) pc E with
    | none => some (.inr E, σ)
    | some h => match zlk (zmC (P y)) h with
      | some (.astore k, _) => if k < ls.length then rec y (h + 2) ((zkl ls k).set k none) [] σ else none
      | some (.astore_n k, _) => if (k : Nat) < ls.length then rec y (h + 1) ((zkl ls k).set k none) [] σ else none
      | _ => none
def zlow (rest : List Value) : Bool := decide ((rest.map fun v => v.category).sum ≤ 8)
/-- one instruction -/
def zst (P : Nat → zM) (ft : Nat → List FieldType) (ro : Nat → Int32 → zS → Option (zO × zS)) (rec : zR) (y pc : Nat) (ls : zLs) (st : List Value) (σ : zS) (e : zI) : Option (zO × zS) :=
  match e with
  | (i, r1, r2, r3, tg) => match i with
  | .aload k => match zg ls k with
    | some (.ref a) => rec y (pc + 2) ls (.ref a :: st) σ
    | some .null => rec y (pc + 2) ls (.null :: st) σ
    | _ => none
  | .aload_n k => match zg ls k with
    | some (.ref a) => rec y (pc + 1) ls (.ref a :: st) σ
    | some .null => rec y (pc + 1) ls (.null :: st) σ
    | _ => none
  | .iload k => match zg ls k with
    | some (.int x) => rec y (pc + 2) ls (.int x :: st) σ
    | _ => none
  | .iload_n k => match zg ls k with
    | some (.int x) => rec y (pc + 1) ls (.int x :: st) σ
    | _ => none
  | .lload k => match zg ls k with
    | some (.long x) => rec y (pc + 2) ls (.long x :: st) σ
    | _ => none
  | .lload_n k => match zg ls k with
    | some (.long x) => rec y (pc + 1) ls (.long x :: st) σ
    | _ => none
  | .astore k => if k < ls.length then match st with
    | .ref a :: r => rec y (pc + 2) (zs1 ls k (.ref a)) r σ
    | .null :: r => rec y (pc + 2) (zs1 ls k .null) r σ
    | _ => none else none
  | .astore_n k => if (k : Nat) < ls.length then match st with
    | .ref a :: r => rec y (pc + 1) (zs1 ls k (.ref a)) r σ
    | .null :: r => rec y (pc + 1) (zs1 ls k .null) r σ
    | _ => none else none
  | .istore k => if k < ls.length then match st with
    | .int x :: r => rec y (pc + 2) (zs1 ls k (.int x)) r σ
    | _ => none else none
  | .istore_n k => if (k : Nat) < ls.length then match st with
    | .int x :: r => rec y (pc + 1) (zs1 ls k (.int x)) r σ
    | _ => none else none
  | .lstore k => if k + 1 < ls.length then match st with
    | .long x :: r => rec y (pc + 2) (zs2 ls k (.long x)) r σ
    | _ => none else none
  | .lstore_n k => if (k : Nat) + 1 < ls.length then match st with
    | .long x :: r => rec y (pc + 1) (zs2 ls k (.long x)) r σ
    | _ => none else none
  | .iinc k n => if k < ls.length then match zg ls k with
    | some (.int x) => rec y (pc + 3) (zs1 ls k (.int (x + Int32.ofInt n))) st σ
    | _ => none else none
  | .iconst n => rec y (pc + 1) ls (.int (Int32.ofInt n) :: st) σ
  | .bipush n => rec y (pc + 2) ls (.int (Int8.ofInt n).toInt32 :: st) σ
  | .sipush n => rec y (pc + 3) ls (.int (Int16.ofInt n).toInt32 :: st) σ
  | .lconst n => rec y (pc + 1) ls (.long (Int64.ofNat n) :: st) σ
  | .ldc _ => rec y (pc + 2) ls (.int (Int32.ofNat r1) :: st) σ
  | .ldc2_w _ => rec y (pc + 3) ls (.long (Int64.ofNat r1) :: st) σ
  | .aconst_null => rec y (pc + 1) ls (.null :: st) σ
  | .pop => match st with
    | v :: r => if v.category = 1 then rec y (pc + 1) ls r σ else none
    | _ => none
  | .dup => match st with
    | v :: r => if v.category = 1 then rec y (pc + 1) ls (v :: v :: r) σ else none
    | _ => none
  | .dup2 => match st with
    | v :: w :: r => if v.category = 1 ∧ w.category = 1 then rec y (pc + 1) ls (v :: w :: v :: w :: r) σ else none
    | _ => none
  | .iadd => match st with
    | .int b :: .int a :: r => rec y (pc + 1) ls (.int (a + b) :: r) σ
    | _ => none
  | .isub => match st with
    | .int b :: .int a :: r => rec y (pc + 1) ls (.int (a - b) :: r) σ
    | _ => none
  | .imul => match st with
    | .int b :: .int a :: r => rec y (pc + 1) ls (.int (a * b) :: r) σ
    | _ => none
  | .idiv => match st with
    | .int b :: .int a :: r => if b = 0 then none else rec y (pc + 1) ls (.int (a / b) :: r) σ
    | _ => none
  | .irem => match st with
    | .int b :: .int a :: r => if b = 0 then none else rec y (pc + 1) ls (.int (a - a / b * b) :: r) σ
    | _ => none
  | .iand => match st with
    | .int b :: .int a :: r => rec y (pc + 1) ls (.int (a &&& b) :: r) σ
    | _ => none
  | .ixor => match st with
    | .int b :: .int a :: r => rec y (pc + 1) ls (.int (a ^^^ b) :: r) σ
    | _ => none
  | .ishr => match st with
    | .int b :: .int a :: r => rec y (pc + 1) ls (.int (a >>> (b &&& 31)) :: r) σ
    | _ => none
  | .ishl => match st with
    | .int b :: .int a :: r => rec y (pc + 1) ls (.int (a <<< (b &&& 31)) :: r) σ
    | _ => none
  | .ineg => match st with
    | .int a :: r => rec y (pc + 1) ls (.int (-a) :: r) σ
    | _ => none
  | .i2l => match st with
    | .int a :: r => rec y (pc + 1) ls (.long a.toInt64 :: r) σ
    | _ => none
  | .i2b => match st with
    | .int a :: r => rec y (pc + 1) ls (.int a.toInt8.toInt32 :: r) σ
    | _ => none
  | .ladd => match st with
    | .long b :: .long a :: r => rec y (pc + 1) ls (.long (a + b) :: r) σ
    | _ => none
  | .lmul => match st with
    | .long b :: .long a :: r => rec y (pc + 1) ls (.long (a * b) :: r) σ
    | _ => none
  | .lcmp => match st with
    | .long b :: .long a :: r => rec y (pc + 1) ls (.int (lg_cmp a b) :: r) σ
    | _ => none
  | .goto _ => rec y r1 ls st σ
  | .ifCond cc _ => match st with
    | .int x :: r => match cc with
      | .eq => if x = 0 then rec y r1 ls r σ else rec y (pc + 3) ls r σ
      | .ne => if x = 0 then rec y (pc + 3) ls r σ else rec y r1 ls r σ
      | .lt => if x < 0 then rec y r1 ls r σ else rec y (pc + 3) ls r σ
      | .ge => if 0 ≤ x then rec y r1 ls r σ else rec y (pc + 3) ls r σ
      | .gt => if 0 < x then rec y r1 ls r σ else rec y (pc + 3) ls r σ
      | .le => if x ≤ 0 then rec y r1 ls r σ else rec y (pc + 3) ls r σ
    | _ => none
  | .if_icmp cc _ => match st with
    | .int b :: .int a :: r => match cc with
      | .eq => if a = b then rec y r1 ls r σ else rec y (pc + 3) ls r σ
      | .ne => if a = b then rec y (pc + 3) ls r σ else rec y r1 ls r σ
      | .lt => if a < b then rec y r1 ls r σ else rec y (pc + 3) ls r σ
      | .ge => if b ≤ a then rec y r1 ls r σ else rec y (pc + 3) ls r σ
      | .gt => if b < a then rec y r1 ls r σ else rec y (pc + 3) ls r σ
      | .le => if a ≤ b then rec y r1 ls r σ else rec y (pc + 3) ls r σ
    | _ => none
  | .ifnull _ => match st with
    | .ref _ :: r => rec y (pc + 3) ls r σ
    | .null :: r => rec y r1 ls r σ
    | _ => none
  | .ifnonnull _ => match st with
    | .ref _ :: r => rec y r1 ls r σ
    | .null :: r => rec y (pc + 3) ls r σ
    | _ => none
  | .tableswitch _ lo hi _ => match st with
    | .int x :: r => if x.toInt < lo ∨ hi < x.toInt then rec y r2 ls r σ else match tg[(x.toInt - lo).toNat]? with
      | some t => rec y t ls r σ
      | none => none
    | _ => none
  | .getfield _ => match st with
    | .ref a :: r => match σ.1[a]? with
      | some (c, _) => if c = r1 then rec y (pc + 3) ls (zfv ((ft r1).getD r2 .int) σ a r2 :: r) σ else none
      | none => none
    | _ => none
  | .putfield _ => match st with
    | v :: .ref a :: r => match σ.1[a]? with
      | some (c, _) => if c = r1 ∧ narrow ((ft r1).getD r2 .int) v = v ∧ fits ((ft r1).getD r2 .int) v = true then match zfp σ a r2 v with
        | some σ1 => rec y (pc + 3) ls r σ1
        | none => none else none
      | none => none
    | _ => none
  | .getstatic _ => rec y (pc + 3) ls (.ref r1 :: st) σ
  | .arraylength => match st with
    | .ref a :: r => match σ.1[a]? with
      | some (c, n) => if c = 100 ∨ c = 103 ∨ c = 104 ∨ c = 105 ∨ c = 200 then rec y (pc + 1) ls (.int (Int32.ofNat n) :: r) σ else none
      | none => none
    | _ => none
  | .iaload => match st with
    | .int i :: .ref a :: r => match σ.1[a]? with
      | some (c, n) => if (c = 100 ∨ c = 200) ∧ zin i n = true then rec y (pc + 1) ls (.int (σ.2.1 a i.toNatClampNeg) :: r) σ else none
      | none => none
    | _ => none
  | .iastore => match st with
    | .int x :: .int i :: .ref a :: r => match σ.1[a]? with
      | some (c, n) => if c = 100 ∧ zin i n = true then rec y (pc + 1) ls r (σ.1, zup σ.2.1 a i.toNatClampNeg x, σ.2.2) else none
      | none => none
    | _ => none
  | .aaload => match st with
    | .int i :: .ref a :: r => match σ.1[a]? with
      | some (c, n) => if (c = 103 ∨ c = 104 ∨ c = 105) ∧ zin i n = true then rec y (pc + 1) ls (va_rf (σ.2.2.1 a i.toNatClampNeg) :: r) σ else none
      | none => none
    | _ => none
  | .aastore => match st with
    | .ref v :: .int i :: .ref a :: r => match σ.1[a]?, σ.1[v]? with
      | some (c, n), some (cv, _) => if c = r1 ∧ cv = r2 ∧ zin i n = true then rec y (pc + 1) ls r (σ.1, σ.2.1, zup σ.2.2.1 a i.toNatClampNeg (some v), σ.2.2.2) else none
      | _, _ => none
    | _ => none
  | .newarray _ => match st with
    | .int n :: r => if n < 0 then none else if n.toNatClampNeg ≤ 100000 then rec y (pc + 2) ls (.ref σ.1.length :: r) (znw σ r1 n.toNatClampNeg) else none
    | _ => none
  | .anewarray _ => match st with
    | .int n :: r => if n < 0 then none else if n.toNatClampNeg ≤ 100000 then rec y (pc + 3) ls (.ref σ.1.length :: r) (znw σ r1 n.toNatClampNeg) else none
    | _ => none
  | .new _ => if r3 = 0 then rec y (pc + 3) ls (.ref σ.1.length :: st) (znw σ r1 (ft r1).length) else match st with
    | [] => some (.inr r1, zthr σ)
    | _ => none
  | .ireturn => match st, zmR (P y) with
    | [.int x], some ty => if narrow ty (.int x) = .int x then some (.inl (some (.int x)), σ) else none
    | _, _ => none
  | .lreturn => match st with
    | [.long x] => some (.inl (some (.long x)), σ)
    | _ => none
  | .areturn => match st with
    | [.ref a] => some (.inl (some (.ref a)), σ)
    | [.null] => some (.inl (some .null), σ)
    | _ => none
  | .return_ => match st with
    | [] => some (.inl none, σ)
    | _ => none
  | .invokestatic _ => if zlow (st.drop r2) then zback P rec y pc ls (st.drop r2) (if (st.take r2).length = r2 ∧ (zent (st.take r2).reverse).length ≤ zmL (P r1) then rec r1 0 (zfst (st.take r2).reverse (zmL (P r1))) [] σ else none) else none
  | .invokevirtual _ => if r3 = 2000 then match st with
    | .int x :: .ref b :: rest => if zlow rest then match ro b x σ with
      | some (.inl (some (.int w)), σ1) => rec y (pc + 6) ls (.int w :: rest) σ1
      | some (.inr E, σ1) => zback P rec y pc ls rest (some (.inr E, σ1))
      | _ => none else none
    | _ => none
  else match st.drop r2 with
    | .ref b :: rest => if zlow rest then match σ.1[b]? with
      | some (c, _) => if c = r3 then zback P rec y pc ls rest (if (st.take r2).length = r2 ∧ (zent (.ref b :: (st.take r2).reverse)).length ≤ zmL (P r1) then rec r1 0 (zfst (.ref b :: (st.take r2).reverse) (zmL (P r1))) [] σ else none) else none
      | none => none else none
    | _ => none
  | .invokespecial _ => match st.drop r2 with
    | .ref b :: rest => if r3 = 1000 then (if r2 = 0 ∧ zlow rest = true then rec y (pc + 3) ls rest σ else none) else if zlow rest then match σ.1[b]? with
      | some (c, _) => if c = r3 then zback P rec y pc ls rest (if (st.take r2).length = r2 ∧ (zent (.ref b :: (st.take r2).reverse)).length ≤ zmL (P r1) then rec r1 0 (zfst (.ref b :: (st.take r2).reverse) (zmL (P r1))) [] σ else none) else none
      | none => none else none
    | _ => none
  | _ => none
/-- the interpreter: n is its fuel -/
def zx (P : Nat → zM) (ft : Nat → List FieldType) (ro : Nat → Int32 → zS → Option (zO × zS)) : Nat → zR
  | 0 => fun _ _ _ _ _ => none
  | n + 1 => fun y pc ls st σ => match zlk (zmC (P y)) pc with
    | none => none
    | some e => zst P ft ro (zx P ft ro n) y pc ls st σ e
