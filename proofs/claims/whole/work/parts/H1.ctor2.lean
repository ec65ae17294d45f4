/-! ===== the constructors' run, by the kernel ===== -/
def k1 : Option (List (Nat × dC) × Nat × Nat) := exD 400 59 M_X11_init 0 (vmEntry M_X11_init [.ref 0]) [] [(0, .inr (11, vmNew 11))] 1 (0 + vmN 11)
def k2 : Option (List (Nat × dC) × Nat × Nat) := match k1 with
  | some (l, n, s) => exD 400 59 M_X12_init 0 (vmEntry M_X12_init [.ref n]) [] ((n, .inr (12, vmNew 12)) :: l) (n + 1) (s + vmN 12)
  | none => none
def lF : List (Nat × dC) := match k2 with
  | some (l, n, _) => (n, .inl (1, 1, [])) :: l
  | none => []
def dVal (v : Option Value) : Int := match v with
  | some (.int x) => x.toInt
  | some (.long x) => x.toInt
  | some (.ref r) => r
  | _ => 0
/-- what the cells hold behind the constructors -/
def sD (t o : Nat) (i : Int) : Int := match dLk lF (A t o), sh (A t o) with
  | some (.inl (_, _, u)), (0, _, _, t', o') => if t' = t ∧ o' = o then dlk u i.toNat else (match dLk lF o with
    | some (.inr (_, fs)) => dVal fs[t % 100]?
    | _ => 0)
  | _, _ => (match dLk lF o with
    | some (.inr (_, fs)) => dVal fs[t % 100]?
    | _ => 0)
def okC (a : Nat) : Bool := match dLk lF a, sh a with
  | some (.inl (ty, m, u)), (0, ty', m', t, o) => ty == ty' && m == m' && A t o == a && Nat.ble ty 2
  | some (.inl (ty, m, u)), (1, ty', m', b, st) => ty == ty' && m == m' && (ty == 3 || ty == 4) && (List.range m).all (fun i => dlk u i == ((b + st * i : Nat) : Int) + 1) && u.all (fun p => Nat.blt p.1 m)
  | some (.inr (ci, fs)), (2, ci', _, _, _) => ci == ci' && fs == (FD ci).map (fv sD a)
  | _, _ => false
theorem kA : (match k2 with
  | some (_, n, _) => n == 405
  | none => false) = true := by decide +kernel
theorem kK : lF.all (fun p => Nat.blt p.1 406) = true := by decide +kernel
theorem kC : (List.range 406).all okC = true := by decide +kernel
