/-! ===== the constructors: a machine over lists ===== -/
abbrev dC : Type := (Nat × Nat × List (Nat × Int)) ⊕ (Nat × List Value)
def dlk (u : List (Nat × Int)) (i : Nat) : Int := match u with
  | [] => 0
  | (k, v) :: u => if i = k then v else dlk u i
def dec (c : dC) : vmC := match c with
  | .inr x => .inr x
  | .inl (1, n, u) => .inl (1, n, .inr (.inl fun i => i64 (dlk u i)))
  | .inl (3, n, u) => .inl (3, n, .inr (.inr (.inr (.inr fun i => if dlk u i = 0 then none else some (dlk u i - 1).toNat))))
  | .inl (4, n, u) => .inl (4, n, .inr (.inr (.inr (.inr fun i => if dlk u i = 0 then none else some (dlk u i - 1).toNat))))
  | .inl (ty, n, u) => .inl (ty, n, .inl fun i => i32 (dlk u i))
def dLk (l : List (Nat × dC)) (a : Nat) : Option dC := match l with
  | [] => none
  | (k, c) :: l => if a = k then some c else dLk l a
def hD (b : Nat → Option vmC) (l : List (Nat × dC)) (n s : Nat) : vmH := (n, s, true, fun a => match dLk l a with
  | some c => some (dec c)
  | none => b a)
theorem hD_at {b : Nat → Option vmC} {l : List (Nat × dC)} {n s a : Nat} {c : dC} (h : dLk l a = some c) : (hD b l n s).2.2.2 a = some (dec c) := by
  show (match dLk l a with
    | some c => some (dec c)
    | none => b a) = _
  rw [h]
theorem hD_fn {b : Nat → Option vmC} {l : List (Nat × dC)} {n s k : Nat} {c : dC} : vmUp (hD b l n s).2.2.2 k (dec c) = (hD b ((k, c) :: l) n s).2.2.2 := by
  funext a
  show (if a = k then some (dec c) else match dLk l a with
    | some c => some (dec c)
    | none => b a) = match (if a = k then some c else dLk l a) with
    | some c => some (dec c)
    | none => b a
  by_cases e : a = k
  · rw [if_pos e, if_pos e]
  · rw [if_neg e, if_neg e]
theorem hD_set {b : Nat → Option vmC} {l : List (Nat × dC)} {n s k : Nat} {c : dC} : vmSet (hD b l n s) k (dec c) = hD b ((k, c) :: l) n s := by
  show (n, s, true, vmUp (hD b l n s).2.2.2 k (dec c)) = _
  rw [hD_fn]
  rfl
theorem hD_add {b : Nat → Option vmC} {l : List (Nat × dC)} {n s m : Nat} {c : dC} : vmAdd (hD b l n s) m (dec c) = hD b ((n, c) :: l) (n + 1) (s + m) := by
  show (n + 1, s + m, true, vmUp (hD b l n s).2.2.2 n (dec c)) = _
  rw [hD_fn]
  rfl
abbrev dR : Type := Option (Nat × List Value × List Value × List (Nat × dC) × Nat × Nat)
def dPure (o : Nat) : Bool := o == 0 || o == 2 || o == 3 || o == 4 || o == 10 || o == 11 || o == 13 || o == 28
def d15 (nx b c : Nat) (L st : List Value) (l : List (Nat × dC)) (n s : Nat) : dR := match st with
  | .ref r :: st => (match dLk l r with
    | some (.inr (ci, fs)) => if ci = b then (match fs[c]? with
      | some v => some (nx, L, v :: st, l, n, s)
      | none => none) else none
    | _ => none)
  | _ => none
def d16 (nx b c : Nat) (L st : List Value) (l : List (Nat × dC)) (n s : Nat) : dR := match st with
  | v :: .ref r :: st => (match dLk l r with
    | some (.inr (ci, fs)) => if ci = b ∧ c < fs.length ∧ vmOwn r = true ∧ vmFit (vmTy b c) v = true then some (nx, L, st, (r, .inr (ci, fs.set c v)) :: l, n, s) else none
    | _ => none)
  | _ => none
def d17 (nx : Nat) (L st : List Value) (l : List (Nat × dC)) (n s : Nat) : dR := match st with
  | .ref r :: st => (match dLk l r with
    | some (.inl (0, m, u)) => some (nx, L, .int (Int32.ofNat m) :: st, l, n, s)
    | _ => none)
  | _ => none
def d19 (nx c : Nat) (L st : List Value) (l : List (Nat × dC)) (n s : Nat) : dR := match st with
  | .int v :: .int i :: .ref r :: st => (match dLk l r with
    | some (.inl (0, m, u)) => if c = 0 ∧ vmOwn r = true ∧ vmIn i m = true then some (nx, L, st, (r, .inl (0, m, (i.toNatClampNeg, v.toInt) :: u)) :: l, n, s) else none
    | _ => none)
  | _ => none
def d20 (nx : Nat) (L st : List Value) (l : List (Nat × dC)) (n s : Nat) : dR := match st with
  | .ref x :: .int i :: .ref r :: st => (match dLk l r, dLk l x with
    | some (.inl (3, m, u)), some (.inr (7, fs)) => if vmOwn r = true ∧ vmOwn x = true ∧ vmIn i m = true then some (nx, L, st, (r, .inl (3, m, (i.toNatClampNeg, (x : Int) + 1) :: u)) :: l, n, s) else none
    | some (.inl (4, m, u)), some (.inr (8, fs)) => if vmOwn r = true ∧ vmOwn x = true ∧ vmIn i m = true then some (nx, L, st, (r, .inl (4, m, (i.toNatClampNeg, (x : Int) + 1) :: u)) :: l, n, s) else none
    | _, _ => none)
  | _ => none
def d24 (nx b : Nat) (L st : List Value) (l : List (Nat × dC)) (n s : Nat) : dR := match st with
  | .int m :: st => if b ≤ 4 ∧ 0 ≤ m ∧ m.toNatClampNeg ≤ 10000 ∧ n < 1000000 then some (nx, L, .ref n :: st, (n, .inl (b, m.toNatClampNeg, [])) :: l, n + 1, s + m.toNatClampNeg) else none
  | _ => none
def dStep (e : vmE) (L st : List Value) (l : List (Nat × dC)) (n s : Nat) : dR :=
  if dPure e.1 = true then (match vmStep e L st (0, 0, true, fun _ => none) with
    | some (pc, L', st', _) => some (pc, L', st', l, n, s)
    | none => none)
  else if e.1 = 15 then d15 e.2.1 e.2.2.2.1 e.2.2.2.2.1 L st l n s
  else if e.1 = 16 then d16 e.2.1 e.2.2.2.1 e.2.2.2.2.1 L st l n s
  else if e.1 = 17 then d17 e.2.1 L st l n s
  else if e.1 = 19 then d19 e.2.1 e.2.2.2.2.1 L st l n s
  else if e.1 = 20 then d20 e.2.1 L st l n s
  else if e.1 = 24 then d24 e.2.1 e.2.2.2.1 L st l n s
  else if e.1 = 25 then (if n < 1000000 then some (e.2.1, L, .ref n :: st, (n, .inr (e.2.2.2.1, vmNew e.2.2.2.1)) :: l, n + 1, s + vmN e.2.2.2.1) else none)
  else none
def dRecv (y : vmM) (l : List (Nat × dC)) (args : List Value) : Bool := match args with
  | .ref r :: _ => match dLk l r with
    | some (.inr (ci, _)) => ci == y.2.2.2.2.1
    | _ => false
  | _ => false
def exD : Nat → Nat → vmM → Nat → List Value → List Value → List (Nat × dC) → Nat → Nat → Option (List (Nat × dC) × Nat × Nat)
  | 0, _, _, _, _, _, _, _, _ => none
  | N + 1, d, y, pc, L, st, l, n, s =>
    match vmTab y pc with
    | none => none
    | some e =>
      if e.1 = 21 then (match d with
        | 0 => none
        | d' + 1 => match vmP e.2.2.2.1 with
          | none => none
          | some y' =>
            if (st.take e.2.2.2.2.1).length = e.2.2.2.2.1 ∧ vmCat (st.drop e.2.2.2.2.1) ≤ 8 ∧ (e.2.2.1 < 4 → dRecv y' l (st.take e.2.2.2.2.1).reverse = true) ∧ (vmArgs (st.take e.2.2.2.2.1)).length ≤ y'.2.2.1 then
              match exD N d' y' 0 (vmEntry y' (st.take e.2.2.2.2.1).reverse) [] l n s with
              | none => none
              | some (l1, n1, s1) => exD N (d' + 1) y e.2.1 L (st.drop e.2.2.2.2.1) l1 n1 s1
            else none)
      else if e.1 = 22 then (if st = [] ∧ e.2.2.2.2.1 = 0 ∧ y.2.2.2.1 = none then some (l, n, s) else none)
      else if e.1 = 23 then none
      else match dStep e L st l n s with
        | none => none
        | some (pc', L', st', l', n', s') => exD N d y pc' L' st' l' n' s'
def dSw (h : vmH) (r : vmR) : vmR := match r with
  | some (pc, L, st, _) => some (pc, L, st, h)
  | none => none
theorem p_O2 {nx b c : Nat} {L st : List Value} {h h0 : vmH} : vmO2 nx b c L st h = dSw h (vmO2 nx b c L st h0) := by
  unfold vmO2
  generalize L[b]? = o
  cases o with
  | none => rfl
  | some v =>
    dsimp only
    generalize vmKind c v = k
    cases k <;> rfl
theorem p_O3 {nx b c : Nat} {L st : List Value} {h h0 : vmH} : vmO3 nx b c L st h = dSw h (vmO3 nx b c L st h0) := by
  unfold vmO3
  cases st with
  | nil => rfl
  | cons v st =>
    dsimp only
    generalize vmKind c v = k
    cases k
    · rfl
    · by_cases e1 : c = 1 <;> by_cases e2 : b + 1 < L.length <;> by_cases e3 : b < L.length <;> simp [e1, e2, e3, dSw]
theorem p_O4 {nx b : Nat} {a : Int} {L st : List Value} {h h0 : vmH} : vmO4 nx a b L st h = dSw h (vmO4 nx a b L st h0) := by
  unfold vmO4
  generalize L[b]? = o
  cases o with
  | none => rfl
  | some v => cases v <;> rfl
theorem p_O10 {nx c : Nat} {L st : List Value} {h h0 : vmH} : vmO10 nx c L st h = dSw h (vmO10 nx c L st h0) := by
  unfold vmO10
  generalize vmStack c st = o
  cases o <;> rfl
theorem p_O13 {nx b c : Nat} {L st : List Value} {h h0 : vmH} : vmO13 nx b c L st h = dSw h (vmO13 nx b c L st h0) := by
  unfold vmO13
  rcases st with _ | ⟨v, _ | ⟨w, st⟩⟩
  · rfl
  · cases v <;> rfl
  · cases v <;> cases w <;> rfl
theorem p_O28 {nx : Nat} {L st : List Value} {h h0 : vmH} : vmO28 nx L st h = dSw h (vmO28 nx L st h0) := by
  unfold vmO28
  rcases st with _ | ⟨v, st⟩
  · rfl
  · cases v <;> first | rfl | skip
    rename_i r
    by_cases e : vmOwn r = true ∧ vmCat st ≤ 8
    · simp [e, dSw]
    · simp [e, dSw]
theorem p_all {e : vmE} {L st : List Value} {h h0 : vmH} (hp : dPure e.1 = true) : vmStep e L st h = dSw h (vmStep e L st h0) := by
  unfold dPure at hp
  simp only [Bool.or_eq_true, beq_iff_eq] at hp
  unfold vmStep
  rcases hp with ((((((hp | hp) | hp) | hp) | hp) | hp) | hp) | hp <;> rw [hp] <;> (try dsimp only)
  · rfl
  · exact p_O2
  · exact p_O3
  · exact p_O4
  · exact p_O10
  · rfl
  · exact p_O13
  · exact p_O28
theorem dStep_ok {b : Nat → Option vmC} {e : vmE} {L st L' st' : List Value} {l l' : List (Nat × dC)} {n s pc' n' s' : Nat} (h : dStep e L st l n s = some (pc', L', st', l', n', s')) : vmStep e L st (hD b l n s) = some (pc', L', st', hD b l' n' s') := by
  unfold dStep at h
  by_cases hp : dPure e.1 = true
  · rw [if_pos hp] at h
    rw [p_all (h0 := (0, 0, true, fun _ => none)) hp]
    cases e1 : vmStep e L st (0, 0, true, fun _ => none) with
    | none => rw [e1] at h; cases h
    | some r =>
      obtain ⟨r1, r2, r3, r4⟩ := r
      rw [e1] at h
      simp only [Option.some.injEq, Prod.mk.injEq] at h
      obtain ⟨rfl, rfl, rfl, rfl, rfl, rfl⟩ := h
      rfl
  · rw [if_neg hp] at h
    by_cases h15 : e.1 = 15
    · rw [if_pos h15] at h
      unfold vmStep
      rw [h15]
      show vmO15 e.2.1 e.2.2.2.1 e.2.2.2.2.1 L st (hD b l n s) = _
      unfold d15 at h
      unfold vmO15
      rcases st with _ | ⟨v, st⟩
      · cases h
      · cases v <;> first | cases h | skip
        rename_i r
        dsimp only at h ⊢
        cases e1 : dLk l r with
        | none => rw [e1] at h; cases h
        | some c =>
          rw [e1] at h
          rw [hD_at e1]
          rcases c with c | ⟨ci, fs⟩
          · cases h
          · dsimp only [dec] at h ⊢
            by_cases e2 : ci = e.2.2.2.1
            · rw [if_pos e2] at h ⊢
              cases e3 : fs[e.2.2.2.2.1]? with
              | none => rw [e3] at h; cases h
              | some v =>
                rw [e3] at h
                simp only [Option.some.injEq, Prod.mk.injEq] at h
                obtain ⟨rfl, rfl, rfl, rfl, rfl, rfl⟩ := h
                rfl
            · rw [if_neg e2] at h; cases h
    rw [if_neg h15] at h
    by_cases h16 : e.1 = 16
    · rw [if_pos h16] at h
      unfold vmStep
      rw [h16]
      show vmO16 e.2.1 e.2.2.2.1 e.2.2.2.2.1 L st (hD b l n s) = _
      unfold d16 at h
      unfold vmO16
      rcases st with _ | ⟨v, _ | ⟨w, st⟩⟩
      · cases h
      · cases h
      · cases w <;> first | cases h | skip
        rename_i r
        dsimp only at h ⊢
        cases e1 : dLk l r with
        | none => rw [e1] at h; cases h
        | some c =>
          rw [e1] at h
          rw [hD_at e1]
          rcases c with c | ⟨ci, fs⟩
          · cases h
          · dsimp only [dec] at h ⊢
            by_cases e2 : ci = e.2.2.2.1 ∧ e.2.2.2.2.1 < fs.length ∧ vmOwn r = true ∧ vmFit (vmTy e.2.2.2.1 e.2.2.2.2.1) v = true
            · rw [if_pos e2] at h ⊢
              simp only [Option.some.injEq, Prod.mk.injEq] at h
              obtain ⟨rfl, rfl, rfl, rfl, rfl, rfl⟩ := h
              rw [← hD_set]
              rfl
            · rw [if_neg e2] at h; cases h
    rw [if_neg h16] at h
    by_cases h17 : e.1 = 17
    · rw [if_pos h17] at h
      unfold vmStep
      rw [h17]
      show vmO17 e.2.1 L st (hD b l n s) = _
      unfold d17 at h
      unfold vmO17
      rcases st with _ | ⟨v, st⟩
      · cases h
      · cases v <;> first | cases h | skip
        rename_i r
        dsimp only at h ⊢
        cases e1 : dLk l r with
        | none => rw [e1] at h; cases h
        | some c =>
          rw [e1] at h
          rw [hD_at e1]
          rcases c with ⟨ty, m, u⟩ | c
          · cases ty with
            | zero =>
              try dsimp only at h
              simp only [Option.some.injEq, Prod.mk.injEq] at h
              obtain ⟨rfl, rfl, rfl, rfl, rfl, rfl⟩ := h
              rfl
            | succ ty => cases h
          · cases h
    rw [if_neg h17] at h
    by_cases h19 : e.1 = 19
    · rw [if_pos h19] at h
      unfold vmStep
      rw [h19]
      show vmO19 e.2.1 e.2.2.2.2.1 L st (hD b l n s) = _
      unfold d19 at h
      unfold vmO19
      rcases st with _ | ⟨v, _ | ⟨w, _ | ⟨x, st⟩⟩⟩
      · cases h
      · cases v <;> cases h
      · cases v <;> cases w <;> cases h
      · cases v <;> cases w <;> cases x <;> first | cases h | skip
        rename_i v i r
        dsimp only at h ⊢
        cases e1 : dLk l r with
        | none => rw [e1] at h; cases h
        | some c =>
          rw [e1] at h
          rw [hD_at e1]
          rcases c with ⟨ty, m, u⟩ | c
          · cases ty with
            | zero =>
              change (if e.2.2.2.2.1 = 0 ∧ vmOwn r = true ∧ vmIn i m = true then some (e.2.1, L, st, (r, (Sum.inl (0, m, (i.toNatClampNeg, v.toInt) :: u) : dC)) :: l, n, s) else none) = _ at h
              by_cases e2 : e.2.2.2.2.1 = 0 ∧ vmOwn r = true ∧ vmIn i m = true
              · rw [if_pos e2] at h
                simp only [Option.some.injEq, Prod.mk.injEq] at h
                obtain ⟨rfl, rfl, rfl, rfl, rfl, rfl⟩ := h
                rw [if_pos e2.2.1, e2.1]
                show (match (if vmIn i m = true then some _ else none) with
                  | some ce' => some (_, _, _, vmSet _ r ce')
                  | none => none) = _
                rw [if_pos e2.2.2, ← hD_set]
                dsimp only
                congr 5
                show _ = (Sum.inl (0, m, Sum.inl fun k => i32 (dlk ((i.toNatClampNeg, v.toInt) :: u) k)) : vmC)
                congr 4
                funext k
                show upd (fun i => i32 (dlk u i)) i.toNatClampNeg v k = i32 (if k = i.toNatClampNeg then v.toInt else dlk u k)
                unfold upd
                by_cases e3 : k = i.toNatClampNeg
                · rw [if_pos e3, if_pos e3, i32_toInt]
                · rw [if_neg e3, if_neg e3]
              · rw [if_neg e2] at h; cases h
            | succ ty => cases h
          · cases h
    rw [if_neg h19] at h
    by_cases h20 : e.1 = 20
    · rw [if_pos h20] at h
      unfold vmStep
      rw [h20]
      show vmO20 e.2.1 L st (hD b l n s) = _
      unfold d20 at h
      unfold vmO20
      rcases st with _ | ⟨v, _ | ⟨w, _ | ⟨x, st⟩⟩⟩
      · cases h
      · cases v <;> cases h
      · cases v <;> cases w <;> cases h
      · cases v <;> cases w <;> cases x <;> first | cases h | skip
        rename_i x i r
        dsimp only at h ⊢
        cases e1 : dLk l r with
        | none => rw [e1] at h; cases h
        | some c =>
          cases e2 : dLk l x with
          | none =>
            rw [e1, e2] at h
            rcases c with ⟨ty, m, u⟩ | c
            · cases ty with
              | zero => cases h
              | succ ty => rcases ty with _ | _ | _ | _ | ty <;> cases h
            · cases h
          | some c2 =>
            rw [e1, e2] at h
            rw [hD_at e1, hD_at e2]
            have up : ∀ (m : Nat) (u : List (Nat × Int)), (fun k => if dlk ((i.toNatClampNeg, (x : Int) + 1) :: u) k = 0 then none else some (dlk ((i.toNatClampNeg, (x : Int) + 1) :: u) k - 1).toNat) = va_up (fun k => if dlk u k = 0 then none else some (dlk u k - 1).toNat) i.toNatClampNeg (some x) := by
              intro m u
              funext k
              show (if (if k = i.toNatClampNeg then (x : Int) + 1 else dlk u k) = 0 then none else some ((if k = i.toNatClampNeg then (x : Int) + 1 else dlk u k) - 1).toNat) = if k = i.toNatClampNeg then some x else if dlk u k = 0 then none else some (dlk u k - 1).toNat
              by_cases e3 : k = i.toNatClampNeg
              · simp only [if_pos e3]
                rw [if_neg (by omega)]
                congr 1
                omega
              · simp only [if_neg e3]
            rcases c with ⟨ty, m, u⟩ | c
            · rcases c2 with c2 | ⟨ci, fs⟩
              · cases ty with
                | zero => cases h
                | succ ty => rcases ty with _ | _ | _ | _ | ty <;> cases h
              · by_cases t3 : ty = 3 ∧ ci = 7
                · obtain ⟨rfl, rfl⟩ := t3
                  change (if vmOwn r = true ∧ vmOwn x = true ∧ vmIn i m = true then some (e.2.1, L, st, (r, (Sum.inl (3, m, (i.toNatClampNeg, (x : Int) + 1) :: u) : dC)) :: l, n, s) else none) = _ at h
                  by_cases e4 : vmOwn r = true ∧ vmOwn x = true ∧ vmIn i m = true
                  · rw [if_pos e4] at h
                    simp only [Option.some.injEq, Prod.mk.injEq] at h
                    obtain ⟨rfl, rfl, rfl, rfl, rfl, rfl⟩ := h
                    rw [if_pos ⟨e4.1, e4.2.1⟩]
                    show (match (if vmIn i m = true then some _ else none) with
                      | some ce' => some (_, _, _, vmSet _ r ce')
                      | none => none) = _
                    rw [if_pos e4.2.2, ← hD_set]
                    dsimp only
                    congr 5
                    show _ = (Sum.inl (3, m, Sum.inr (Sum.inr (Sum.inr (Sum.inr fun k => if dlk ((i.toNatClampNeg, (x : Int) + 1) :: u) k = 0 then none else some (dlk ((i.toNatClampNeg, (x : Int) + 1) :: u) k - 1).toNat)))) : vmC)
                    rw [up m u]
                  · rw [if_neg e4] at h; cases h
                · by_cases t4 : ty = 4 ∧ ci = 8
                  · obtain ⟨rfl, rfl⟩ := t4
                    change (if vmOwn r = true ∧ vmOwn x = true ∧ vmIn i m = true then some (e.2.1, L, st, (r, (Sum.inl (4, m, (i.toNatClampNeg, (x : Int) + 1) :: u) : dC)) :: l, n, s) else none) = _ at h
                    by_cases e4 : vmOwn r = true ∧ vmOwn x = true ∧ vmIn i m = true
                    · rw [if_pos e4] at h
                      simp only [Option.some.injEq, Prod.mk.injEq] at h
                      obtain ⟨rfl, rfl, rfl, rfl, rfl, rfl⟩ := h
                      rw [if_pos ⟨e4.1, e4.2.1⟩]
                      show (match (if vmIn i m = true then some _ else none) with
                        | some ce' => some (_, _, _, vmSet _ r ce')
                        | none => none) = _
                      rw [if_pos e4.2.2, ← hD_set]
                      dsimp only
                      congr 5
                      show _ = (Sum.inl (4, m, Sum.inr (Sum.inr (Sum.inr (Sum.inr fun k => if dlk ((i.toNatClampNeg, (x : Int) + 1) :: u) k = 0 then none else some (dlk ((i.toNatClampNeg, (x : Int) + 1) :: u) k - 1).toNat)))) : vmC)
                      rw [up m u]
                    · rw [if_neg e4] at h; cases h
                  · exfalso
                    revert h
                    split
                    · rename_i a1 a2; simp_all
                    · rename_i a1 a2; simp_all
                    · intro h; cases h
            · cases h
    rw [if_neg h20] at h
    by_cases h24 : e.1 = 24
    · rw [if_pos h24] at h
      unfold vmStep
      rw [h24]
      show vmO24 e.2.1 e.2.2.2.1 L st (hD b l n s) = _
      unfold d24 at h
      unfold vmO24
      rcases st with _ | ⟨v, st⟩
      · cases h
      · cases v <;> first | cases h | skip
        rename_i m
        dsimp only at h ⊢
        by_cases e1 : e.2.2.2.1 ≤ 4 ∧ 0 ≤ m ∧ m.toNatClampNeg ≤ 10000 ∧ n < 1000000
        · rw [if_pos e1] at h
          simp only [Option.some.injEq, Prod.mk.injEq] at h
          obtain ⟨rfl, rfl, rfl, rfl, rfl, rfl⟩ := h
          rw [if_pos ⟨rfl, e1.2⟩]
          have z : vmZero e.2.2.2.1 m.toNatClampNeg = some (dec (.inl (e.2.2.2.1, m.toNatClampNeg, []))) := by
            have c4 : e.2.2.2.1 = 0 ∨ e.2.2.2.1 = 1 ∨ e.2.2.2.1 = 2 ∨ e.2.2.2.1 = 3 ∨ e.2.2.2.1 = 4 := by omega
            rcases c4 with c | c | c | c | c <;> rw [c] <;> rfl
          rw [z]
          dsimp only
          rw [hD_add]
          rfl
        · rw [if_neg e1] at h; cases h
    rw [if_neg h24] at h
    by_cases h25 : e.1 = 25
    · rw [if_pos h25] at h
      unfold vmStep
      rw [h25]
      try dsimp only
      by_cases e1 : n < 1000000
      · rw [if_pos e1] at h
        simp only [Option.some.injEq, Prod.mk.injEq] at h
        obtain ⟨rfl, rfl, rfl, rfl, rfl, rfl⟩ := h
        rw [if_pos ⟨rfl, e1⟩, ← hD_add]
        rfl
      · rw [if_neg e1] at h; cases h
    rw [if_neg h25] at h
    cases h
theorem dRecv_ok {b : Nat → Option vmC} {y : vmM} {l : List (Nat × dC)} {n s : Nat} {args : List Value} (h : dRecv y l args = true) : vmRecv y (hD b l n s) args = true := by
  unfold dRecv at h
  unfold vmRecv
  rcases args with _ | ⟨v, as⟩
  · cases h
  · cases v <;> first | cases h | skip
    rename_i r
    dsimp only at h ⊢
    cases e1 : dLk l r with
    | none => rw [e1] at h; cases h
    | some c =>
      rw [e1] at h
      rw [hD_at e1]
      rcases c with c | ⟨ci, fs⟩
      · cases h
      · exact h
theorem exD_ok {b : Nat → Option vmC} : ∀ (N d : Nat) (y : vmM) (pc : Nat) (L st : List Value) (l : List (Nat × dC)) (n s : Nat) (l' : List (Nat × dC)) (n' s' : Nat), exD N d y pc L st l n s = some (l', n', s') → vmRun vmP N d y pc L st (hD b l n s) = some (.inl none, hD b l' n' s') := by
  intro N
  induction N with
  | zero => intro d y pc L st l n s l' n' s' h; cases h
  | succ N ih =>
    intro d y pc L st l n s l' n' s' h
    unfold exD at h
    cases e0 : vmTab y pc with
    | none => rw [e0] at h; cases h
    | some e =>
      rw [e0] at h
      try dsimp only at h
      by_cases h21 : e.1 = 21
      · rw [if_pos h21] at h
        cases d with
        | zero => cases h
        | succ d =>
          try dsimp only at h
          cases e1 : vmP e.2.2.2.1 with
          | none => rw [e1] at h; cases h
          | some y' =>
            rw [e1] at h
            try dsimp only at h
            by_cases e2 : (st.take e.2.2.2.2.1).length = e.2.2.2.2.1 ∧ vmCat (st.drop e.2.2.2.2.1) ≤ 8 ∧ (e.2.2.1 < 4 → dRecv y' l (st.take e.2.2.2.2.1).reverse = true) ∧ (vmArgs (st.take e.2.2.2.2.1)).length ≤ y'.2.2.1
            · rw [if_pos e2] at h
              cases e3 : exD N d y' 0 (vmEntry y' (st.take e.2.2.2.2.1).reverse) [] l n s with
              | none => rw [e3] at h; cases h
              | some r =>
                obtain ⟨l1, n1, s1⟩ := r
                rw [e3] at h
                try dsimp only at h
                rw [vr_call (o1 := .inl none) e0 h21 e1 ⟨e2.1, e2.2.1, fun k => dRecv_ok (e2.2.2.1 k), e2.2.2.2⟩ (ih _ _ _ _ _ _ _ _ _ _ _ e3)]
                exact ih _ _ _ _ _ _ _ _ _ _ _ h
            · rw [if_neg e2] at h; cases h
      · rw [if_neg h21] at h
        by_cases h22 : e.1 = 22
        · rw [if_pos h22] at h
          by_cases e2 : st = [] ∧ e.2.2.2.2.1 = 0 ∧ y.2.2.2.1 = none
          · rw [if_pos e2] at h
            simp only [Option.some.injEq, Prod.mk.injEq] at h
            obtain ⟨rfl, rfl, rfl⟩ := h
            rw [vr_ret e0 h22, e2.1, e2.2.1]
            show (if y.2.2.2.1 = none then _ else none) = _
            rw [if_pos e2.2.2]
          · rw [if_neg e2] at h; cases h
        · rw [if_neg h22] at h
          by_cases h23 : e.1 = 23
          · rw [if_pos h23] at h; cases h
          · rw [if_neg h23] at h
            cases e3 : dStep e L st l n s with
            | none => rw [e3] at h; cases h
            | some r =>
              obtain ⟨r1, r2, r3, r4, r5, r6⟩ := r
              rw [e3] at h
              try dsimp only at h
              rw [vr_step e0 h21 h22 h23 (dStep_ok e3)]
              exact ih _ _ _ _ _ _ _ _ _ _ _ h
