/-! ===== the abstract machine: cells, entries, methods, one step, a run ===== -/
/-- a thing of the heap: an array (number of its type, length, contents) or an object (number of its kind, fields) -/
abbrev vmC : Type := (Nat × vp_A) ⊕ (Nat × List Value)
/-- the heap: cells made, slots made, whether no throw was yet, the cells by their addresses -/
abbrev vmH : Type := Nat × Nat × Bool × (Nat → Option vmC)
/-- an entry of a method's table: what is done, the next place, three numbers, a switch's rows -/
abbrev vmE : Type := Nat × Nat × Int × Nat × Nat × List (Int × Nat)
abbrev vmO : Type := Option Value ⊕ Nat
/-- a method: name, code, locals, answer's type, number of its kind, its entries, its handlers -/
abbrev vmM : Type := MethodName × ByteArray × Nat × Option FieldType × Nat × (Nat → Option vmE) × List (Nat × Nat × Nat × Int)
def vmJ : Value := .float 0
def vmUp (f : Nat → Option vmC) (k : Nat) (c : vmC) : Nat → Option vmC := fun j => if j = k then some c else f j
def vmSet (h : vmH) (k : Nat) (c : vmC) : vmH := (h.1, h.2.1, h.2.2.1, vmUp h.2.2.2 k c)
def vmAdd (h : vmH) (n : Nat) (c : vmC) : vmH := (h.1 + 1, h.2.1 + n, h.2.2.1, vmUp h.2.2.2 h.1 c)
def vmPut1 (L : List Value) (i : Nat) : List Value := match i with
  | 0 => L
  | j + 1 => match L[j]? with
    | some (.long _) => L.set j vmJ
    | some (.double _) => L.set j vmJ
    | _ => L
def vmPut (L : List Value) (i : Nat) (v : Value) : List Value := (vmPut1 L i).set i v
def vmPut2 (L : List Value) (i : Nat) (v : Value) : List Value := ((vmPut1 L i).set i v).set (i + 1) vmJ
def vmBin (c : Nat) (x y : Int32) : Option Int32 := match c with
  | 0 => some (x + y)
  | 1 => some (x - y)
  | 2 => some (x * y)
  | 3 => some (x &&& y)
  | 4 => some (x ||| y)
  | 5 => some (x ^^^ y)
  | 6 => if y = 0 then none else some (x / y)
  | 7 => if y = 0 then none else some (x % y)
  | 8 => some (x <<< (y &&& 31))
  | 9 => some (x >>> (y &&& 31))
  | 10 => some (x.toUInt32 >>> (y.toUInt32 &&& Int32.toUInt32 31)).toInt32
  | _ => none
def vmBinL (c : Nat) (x y : Int64) : Option Int64 := match c with
  | 0 => some (x + y)
  | 1 => some (x - y)
  | 2 => some (x * y)
  | 3 => some (x &&& y)
  | 4 => some (x ||| y)
  | 5 => some (x ^^^ y)
  | 6 => if y = 0 then none else some (x / y)
  | 7 => if y = 0 then none else some (x % y)
  | _ => none
def vmShL (c : Nat) (x : Int64) (y : Int32) : Option Int64 := match c with
  | 0 => some (x <<< (y.toInt64 &&& 63))
  | 1 => some (x >>> (y.toInt64 &&& 63))
  | 2 => some (x.toUInt64 >>> (y.toInt64.toUInt64 &&& Int64.toUInt64 63)).toInt64
  | _ => none
def vmConv (c : Nat) (v : Value) : Option Value := match c, v with
  | 0, .int x => some (.long x.toInt64)
  | 1, .long x => some (.int x.toInt32)
  | 2, .int x => some (.int x.toInt8.toInt32)
  | 3, .int x => some (.int x.toInt16.toInt32)
  | 4, .int x => some (.int (x.toUInt32 % 65536).toInt32)
  | _, _ => none
def vmIf (c : Nat) (x y : Int32) : Bool := match c with
  | 0 => decide (x = y)
  | 1 => decide (¬ x = y)
  | 2 => decide (x < y)
  | 3 => decide (y ≤ x)
  | 4 => decide (y < x)
  | _ => decide (x ≤ y)
def vmLcmp (x y : Int64) : Int32 := if x < y then -1 else if y < x then 1 else 0
def vmKind (c : Nat) (v : Value) : Bool := match c, v with
  | 0, .int _ => true
  | 1, .long _ => true
  | 2, .ref r => Nat.blt r 3000000
  | _, _ => false
def vmStack (c : Nat) (st : List Value) : Option (List Value) := match c, st with
  | 0, v :: r => if v.category = 1 then some (v :: v :: r) else none
  | 1, v :: w :: r => if v.category = 1 ∧ w.category = 1 then some (v :: w :: v :: w :: r) else none
  | 2, .long x :: r => some (.long x :: .long x :: r)
  | 3, v :: r => if v.category = 1 then some r else none
  | 4, .long _ :: r => some r
  | _, _ => none
def vmIn (i : Int32) (n : Nat) : Bool := decide (0 ≤ i) && Nat.blt i.toNatClampNeg n
def vmSwitch : List (Int × Nat) → Nat → Int → Nat
  | [], dflt, _ => dflt
  | (k, t) :: r, dflt, x => if x = k then t else vmSwitch r dflt x
/-- a load from an array of a kind: int, long, boolean or byte, reference -/
def vmLd (c : Nat) (ce : vmC) (i : Int32) : Option Value := match c, ce with
  | 0, .inl (0, n, .inl f) => if vmIn i n then some (.int (f i.toNatClampNeg)) else none
  | 1, .inl (1, n, .inr (.inl f)) => if vmIn i n then some (.long (f i.toNatClampNeg)) else none
  | 2, .inl (2, n, .inl f) => if vmIn i n then some (.int (f i.toNatClampNeg)) else none
  | 2, .inl (5, n, .inl f) => if vmIn i n then some (.int (f i.toNatClampNeg)) else none
  | 3, .inl (3, n, .inr (.inr (.inr (.inr f)))) => if vmIn i n then some (va_rf (f i.toNatClampNeg)) else none
  | 3, .inl (4, n, .inr (.inr (.inr (.inr f)))) => if vmIn i n then some (va_rf (f i.toNatClampNeg)) else none
  | _, _ => none
def vmSt (c : Nat) (ce : vmC) (i : Int32) (v : Value) : Option vmC := match c, ce, v with
  | 0, .inl (0, n, .inl f), .int x => if vmIn i n then some (.inl (0, n, .inl (upd f i.toNatClampNeg x))) else none
  | 1, .inl (1, n, .inr (.inl f)), .long x => if vmIn i n then some (.inl (1, n, .inr (.inl (va_up f i.toNatClampNeg x)))) else none
  | 2, .inl (2, n, .inl f), .int x => if vmIn i n then (if x = 0 ∨ x = 1 then some (.inl (2, n, .inl (upd f i.toNatClampNeg x))) else none) else none
  | _, _, _ => none
/-- a reference put into an array of references: the kind of the thing must be the array's -/
def vmAst (ce thing : vmC) (i : Int32) (a : Nat) : Option vmC := match ce, thing with
  | .inl (3, n, .inr (.inr (.inr (.inr f)))), .inr (7, _) => if vmIn i n then some (.inl (3, n, .inr (.inr (.inr (.inr (va_up f i.toNatClampNeg (some a))))))) else none
  | .inl (4, n, .inr (.inr (.inr (.inr f)))), .inr (8, _) => if vmIn i n then some (.inl (4, n, .inr (.inr (.inr (.inr (va_up f i.toNatClampNeg (some a))))))) else none
  | _, _ => none
def vmZero (b N : Nat) : Option vmC := match b with
  | 0 => some (.inl (0, N, .inl fun _ => 0))
  | 1 => some (.inl (1, N, .inr (.inl fun _ => 0)))
  | 2 => some (.inl (2, N, .inl fun _ => 0))
  | 3 => some (.inl (3, N, .inr (.inr (.inr (.inr fun _ => none)))))
  | 4 => some (.inl (4, N, .inr (.inr (.inr (.inr fun _ => none)))))
  | _ => none
def vmTy (ci k : Nat) : FieldType := match ci with
  | 0 => tyX0 k
  | 1 => tyX1 k
  | 2 => tyX2 k
  | 3 => tyX3 k
  | 4 => tyX4 k
  | 5 => tyX5 k
  | 6 => tyX6 k
  | 7 => tyX7 k
  | 8 => tyX8 k
  | 9 => tyX9 k
  | 10 => tyX10 k
  | 11 => tyX11 k
  | _ => tyX12 k
def vmN (ci : Nat) : Nat := match vwCl[ci]? with
  | some r => r.2.2
  | none => 0
def vmNew (ci : Nat) : List Value := (List.range (vmN ci)).map fun k => defaultValue (vmTy ci k)
def vmFit (ty : FieldType) (v : Value) : Bool := fits ty v && decide (narrow ty v = v)
def vmLen (ce : vmC) : Option Int32 := match ce with
  | .inl (_, n, _) => some (Int32.ofNat n)
  | _ => none
/-- System.arraycopy of ints, of longs -/
def vmCopy (c0 c1 : vmC) (sp dp n : Int32) : Option vmC := match c0, c1 with
  | .inl (0, n0, .inl f), .inl (0, n1, .inl g) => if ¬ sp < 0 ∧ ¬ dp < 0 ∧ ¬ n < 0 ∧ sp.toNatClampNeg + n.toNatClampNeg ≤ n0 ∧ dp.toNatClampNeg + n.toNatClampNeg ≤ n1 then some (.inl (0, n1, .inl (va_cpy f g sp.toNatClampNeg dp.toNatClampNeg n.toNatClampNeg))) else none
  | _, _ => none
/-- Math.max, min, floorMod -/
def vmMi (c : Nat) (x y : Int32) : Option Int32 := match c with
  | 0 => some (if x < y then y else x)
  | 1 => some (if y < x then y else x)
  | 4 => if y = 0 then none else some (if (x % y ^^^ y) < 0 ∧ ¬ x % y = 0 then x % y + y else x % y)
  | _ => none
def vmMl (c : Nat) (x y : Int64) : Option Int64 := match c with
  | 2 => some (if x < y then y else x)
  | 3 => some (if y < x then y else x)
  | _ => none
def vmOwn (a : Nat) : Bool := Nat.blt a 1000000
def vmCat (st : List Value) : Nat := (st.map fun v => v.category).sum
abbrev vmR : Type := Option (Nat × List Value × List Value × vmH)
def vmO2 (nx b c : Nat) (L st : List Value) (h : vmH) : vmR := match L[b]? with
  | some v => if vmKind c v then some (nx, L, v :: st, h) else none
  | none => none
def vmO3 (nx b c : Nat) (L st : List Value) (h : vmH) : vmR := match st with
  | v :: st => if vmKind c v then (if c = 1 then (if b + 1 < L.length then some (nx, vmPut2 L b v, st, h) else none) else (if b < L.length then some (nx, vmPut L b v, st, h) else none)) else none
  | _ => none
def vmO4 (nx : Nat) (a : Int) (b : Nat) (L st : List Value) (h : vmH) : vmR := match L[b]? with
  | some (.int x) => some (nx, vmPut L b (.int (x + Int32.ofInt a)), st, h)
  | _ => none
def vmO5 (nx c : Nat) (L st : List Value) (h : vmH) : vmR := match st with
  | .int y :: .int x :: st => (match vmBin c x y with
    | some z => some (nx, L, .int z :: st, h)
    | none => none)
  | _ => none
def vmO6 (nx c : Nat) (L st : List Value) (h : vmH) : vmR := match st with
  | .long y :: .long x :: st => (match vmBinL c x y with
    | some z => some (nx, L, .long z :: st, h)
    | none => none)
  | _ => none
def vmO7 (nx c : Nat) (L st : List Value) (h : vmH) : vmR := match st with
  | .int y :: .long x :: st => (match vmShL c x y with
    | some z => some (nx, L, .long z :: st, h)
    | none => none)
  | _ => none
def vmO8 (nx c : Nat) (L st : List Value) (h : vmH) : vmR := match st with
  | v :: st => (match vmConv c v with
    | some z => some (nx, L, z :: st, h)
    | none => none)
  | _ => none
def vmO9 (nx : Nat) (L st : List Value) (h : vmH) : vmR := match st with
  | .long y :: .long x :: st => some (nx, L, .int (vmLcmp x y) :: st, h)
  | _ => none
def vmO10 (nx c : Nat) (L st : List Value) (h : vmH) : vmR := match vmStack c st with
  | some st => some (nx, L, st, h)
  | none => none
def vmO12 (nx b c : Nat) (L st : List Value) (h : vmH) : vmR := match st with
  | .int x :: st => some (if vmIf c x 0 then b else nx, L, st, h)
  | _ => none
def vmO13 (nx b c : Nat) (L st : List Value) (h : vmH) : vmR := match st with
  | .int y :: .int x :: st => some (if vmIf c x y then b else nx, L, st, h)
  | _ => none
def vmO14 (b : Nat) (sw : List (Int × Nat)) (L st : List Value) (h : vmH) : vmR := match st with
  | .int x :: st => some (vmSwitch sw b x.toInt, L, st, h)
  | _ => none
def vmO15 (nx b c : Nat) (L st : List Value) (h : vmH) : vmR := match st with
  | .ref r :: st => (match h.2.2.2 r with
    | some (.inr (ci, fs)) => if ci = b then (match fs[c]? with
      | some v => some (nx, L, v :: st, h)
      | none => none) else none
    | _ => none)
  | _ => none
def vmO16 (nx b c : Nat) (L st : List Value) (h : vmH) : vmR := match st with
  | v :: .ref r :: st => (match h.2.2.2 r with
    | some (.inr (ci, fs)) => if ci = b ∧ c < fs.length ∧ vmOwn r = true ∧ vmFit (vmTy b c) v = true then some (nx, L, st, vmSet h r (.inr (ci, fs.set c v))) else none
    | _ => none)
  | _ => none
def vmO17 (nx : Nat) (L st : List Value) (h : vmH) : vmR := match st with
  | .ref r :: st => (match h.2.2.2 r with
    | some ce => (match vmLen ce with
      | some n => some (nx, L, .int n :: st, h)
      | none => none)
    | none => none)
  | _ => none
def vmO18 (nx c : Nat) (L st : List Value) (h : vmH) : vmR := match st with
  | .int i :: .ref r :: st => (match h.2.2.2 r with
    | some ce => (match vmLd c ce i with
      | some v => some (nx, L, v :: st, h)
      | none => none)
    | none => none)
  | _ => none
def vmO19 (nx c : Nat) (L st : List Value) (h : vmH) : vmR := match st with
  | v :: .int i :: .ref r :: st => if vmOwn r then (match h.2.2.2 r with
    | some ce => (match vmSt c ce i v with
      | some ce' => some (nx, L, st, vmSet h r ce')
      | none => none)
    | none => none) else none
  | _ => none
def vmO20 (nx : Nat) (L st : List Value) (h : vmH) : vmR := match st with
  | .ref x :: .int i :: .ref r :: st => if vmOwn r ∧ vmOwn x then (match h.2.2.2 r, h.2.2.2 x with
    | some ce, some thing => (match vmAst ce thing i x with
      | some ce' => some (nx, L, st, vmSet h r ce')
      | none => none)
    | _, _ => none) else none
  | _ => none
def vmO24 (nx b : Nat) (L st : List Value) (h : vmH) : vmR := match st with
  | .int n :: st => if h.2.2.1 = true ∧ 0 ≤ n ∧ n.toNatClampNeg ≤ 10000 ∧ h.1 < 1000000 then (match vmZero b n.toNatClampNeg with
    | some ce => some (nx, L, .ref h.1 :: st, vmAdd h n.toNatClampNeg ce)
    | none => none) else none
  | _ => none
def vmO27 (nx : Nat) (L st : List Value) (h : vmH) : vmR := match st with
  | .int n :: .int dp :: .ref r1 :: .int sp :: .ref r0 :: st => if vmOwn r0 ∧ vmOwn r1 ∧ vmCat st ≤ 8 then (match h.2.2.2 r0, h.2.2.2 r1 with
    | some c0, some c1 => (match vmCopy c0 c1 sp dp n with
      | some ce' => some (nx, L, st, vmSet h r1 ce')
      | none => none)
    | _, _ => none) else none
  | _ => none
def vmO28 (nx : Nat) (L st : List Value) (h : vmH) : vmR := match st with
  | .ref r :: st => if vmOwn r ∧ vmCat st ≤ 8 then some (nx, L, st, h) else none
  | _ => none
def vmO29 (nx c : Nat) (L st : List Value) (h : vmH) : vmR := match st with
  | .int y :: .int x :: st => if vmCat st ≤ 8 then (match vmMi c x y with
    | some z => some (nx, L, .int z :: st, h)
    | none => none) else none
  | .long y :: .long x :: st => if vmCat st ≤ 8 then (match vmMl c x y with
    | some z => some (nx, L, .long z :: st, h)
    | none => none) else none
  | _ => none
/-- a step that is no call, no return, no throw -/
def vmStep (e : vmE) (L st : List Value) (h : vmH) : vmR := match e.1 with
  | 0 => some (e.2.1, L, .int (Int32.ofInt e.2.2.1) :: st, h)
  | 1 => some (e.2.1, L, .long (Int64.ofInt e.2.2.1) :: st, h)
  | 2 => vmO2 e.2.1 e.2.2.2.1 e.2.2.2.2.1 L st h
  | 3 => vmO3 e.2.1 e.2.2.2.1 e.2.2.2.2.1 L st h
  | 4 => vmO4 e.2.1 e.2.2.1 e.2.2.2.1 L st h
  | 5 => vmO5 e.2.1 e.2.2.2.2.1 L st h
  | 6 => vmO6 e.2.1 e.2.2.2.2.1 L st h
  | 7 => vmO7 e.2.1 e.2.2.2.2.1 L st h
  | 8 => vmO8 e.2.1 e.2.2.2.2.1 L st h
  | 9 => vmO9 e.2.1 L st h
  | 10 => vmO10 e.2.1 e.2.2.2.2.1 L st h
  | 11 => some (e.2.2.2.1, L, st, h)
  | 12 => vmO12 e.2.1 e.2.2.2.1 e.2.2.2.2.1 L st h
  | 13 => vmO13 e.2.1 e.2.2.2.1 e.2.2.2.2.1 L st h
  | 14 => vmO14 e.2.2.2.1 e.2.2.2.2.2 L st h
  | 15 => vmO15 e.2.1 e.2.2.2.1 e.2.2.2.2.1 L st h
  | 16 => vmO16 e.2.1 e.2.2.2.1 e.2.2.2.2.1 L st h
  | 17 => vmO17 e.2.1 L st h
  | 18 => vmO18 e.2.1 e.2.2.2.2.1 L st h
  | 19 => vmO19 e.2.1 e.2.2.2.2.1 L st h
  | 20 => vmO20 e.2.1 L st h
  | 24 => vmO24 e.2.1 e.2.2.2.1 L st h
  | 25 => if h.2.2.1 = true ∧ h.1 < 1000000 then some (e.2.1, L, .ref h.1 :: st, vmAdd h (vmN e.2.2.2.1) (.inr (e.2.2.2.1, vmNew e.2.2.2.1))) else none
  | 26 => some (e.2.1, L, .ref e.2.2.2.1 :: st, h)
  | 27 => vmO27 e.2.1 L st h
  | 28 => vmO28 e.2.1 L st h
  | 29 => vmO29 e.2.1 e.2.2.2.2.1 L st h
  | _ => none
def vmTab (y : vmM) : Nat → Option vmE := y.2.2.2.2.2.1
/-- where the arguments lie -/
def vmArgs : List Value → List Value
  | [] => []
  | .long x :: r => .long x :: vmJ :: vmArgs r
  | .double x :: r => .double x :: vmJ :: vmArgs r
  | v :: r => v :: vmArgs r
def vmEntry (y : vmM) (args : List Value) : List Value := vmArgs args ++ List.replicate (y.2.2.1 - (vmArgs args).length) vmJ
def vmRecv (y : vmM) (h : vmH) (args : List Value) : Bool := match args with
  | .ref r :: _ => match h.2.2.2 r with
    | some (.inr (ci, _)) => ci == y.2.2.2.2.1
    | _ => false
  | _ => false
def vmCatch : List (Nat × Nat × Nat × Int) → Nat → Nat → Option Int
  | [], _, _ => none
  | (lo, hi, x, v) :: r, pc, E => if lo ≤ pc ∧ pc < hi ∧ x = E then some v else vmCatch r pc E
/-- what comes of a callee's end: on, out, caught -/
def vmAfter (hs : List (Nat × Nat × Nat × Int)) (pc : Nat) (E : Nat) (h : vmH) : Option (vmO × vmH) := match hs with
  | [] => some (.inr E, h)
  | hs => match vmCatch hs pc E with
    | some v => some (.inl (some (.int (Int32.ofInt v))), h)
    | none => none
def vmRet (y : vmM) (c : Nat) (st : List Value) (h : vmH) : Option (vmO × vmH) := match c, st with
  | 0, [] => if y.2.2.2.1 = none then some (.inl none, h) else none
  | 1, [.int v] => match y.2.2.2.1 with
    | some ty => if narrow ty (.int v) = .int v then some (.inl (some (.int v)), h) else none
    | none => none
  | 2, [.long v] => if y.2.2.2.1 = some .long then some (.inl (some (.long v)), h) else none
  | _, _ => none
def vmRun (P : Nat → Option vmM) : Nat → Nat → vmM → Nat → List Value → List Value → vmH → Option (vmO × vmH)
  | 0, _, _, _, _, _, _ => none
  | N + 1, d, y, pc, L, st, h =>
    match vmTab y pc with
    | none => none
    | some e =>
      match e.1 with
      | 21 => match d with
        | 0 => none
        | d' + 1 => match P e.2.2.2.1 with
          | none => none
          | some y' =>
            if (st.take e.2.2.2.2.1).length = e.2.2.2.2.1 ∧ vmCat (st.drop e.2.2.2.2.1) ≤ 8 ∧ (e.2.2.1 < 4 → vmRecv y' h (st.take e.2.2.2.2.1).reverse = true) ∧ (vmArgs (st.take e.2.2.2.2.1)).length ≤ y'.2.2.1 then
              match vmRun P N d' y' 0 (vmEntry y' (st.take e.2.2.2.2.1).reverse) [] h with
              | none => none
              | some (.inl none, h1) => vmRun P N (d' + 1) y e.2.1 L (st.drop e.2.2.2.2.1) h1
              | some (.inl (some v), h1) => vmRun P N (d' + 1) y e.2.1 L (v :: st.drop e.2.2.2.2.1) h1
              | some (.inr E, h1) => vmAfter y.2.2.2.2.2.2 pc E h1
            else none
      | 22 => vmRet y e.2.2.2.2.1 st h
      | 23 => if 8 ≤ d ∧ vmCat st ≤ 8 ∧ y.2.2.2.2.2.2 = [] then some (.inr e.2.2.2.1, (h.1 + 1, h.2.1 + 6, false, h.2.2.2)) else none
      | _ => match vmStep e L st h with
        | none => none
        | some (pc', L', st', h') => vmRun P N d y pc' L' st' h'
