/-! ===== what a step says: inversion, one row for each sort of entry ===== -/
section VMI
variable {nx b c : Nat} {a : Int} {sw : List (Int × Nat)} {L st : List Value} {h : vmH} {r : Nat × List Value × List Value × vmH}
theorem vi0 (e : vmStep (0, nx, a, b, c, sw) L st h = some r) : r = (nx, L, .int (Int32.ofInt a) :: st, h) := by
  simp only [vmStep] at e; exact (Option.some.inj e).symm
theorem vi1 (e : vmStep (1, nx, a, b, c, sw) L st h = some r) : r = (nx, L, .long (Int64.ofInt a) :: st, h) := by
  simp only [vmStep] at e; exact (Option.some.inj e).symm
theorem vi2 (e : vmStep (2, nx, a, b, c, sw) L st h = some r) : ∃ v, L[b]? = some v ∧ vmKind c v = true ∧ r = (nx, L, v :: st, h) := by
  simp only [vmStep, vmO2] at e
  split at e
  · rename_i v hv
    split at e
    · rename_i hk; exact ⟨v, hv, hk, (Option.some.inj e).symm⟩
    · cases e
  · cases e
theorem vi3 (e : vmStep (3, nx, a, b, c, sw) L st h = some r) : ∃ v st', st = v :: st' ∧ vmKind c v = true ∧ ((c = 1 ∧ b + 1 < L.length ∧ r = (nx, vmPut2 L b v, st', h)) ∨ (c ≠ 1 ∧ b < L.length ∧ r = (nx, vmPut L b v, st', h))) := by
  cases st with
  | nil => simp only [vmStep, vmO3, reduceCtorEq] at e
  | cons v st' =>
    simp only [vmStep, vmO3] at e
    split at e
    · rename_i hk
      split at e
      · rename_i h1
        split at e
        · rename_i h2; exact ⟨v, st', rfl, hk, Or.inl ⟨h1, h2, (Option.some.inj e).symm⟩⟩
        · cases e
      · rename_i h1
        split at e
        · rename_i h2; exact ⟨v, st', rfl, hk, Or.inr ⟨h1, h2, (Option.some.inj e).symm⟩⟩
        · cases e
    · cases e
theorem vi4 (e : vmStep (4, nx, a, b, c, sw) L st h = some r) : ∃ x, L[b]? = some (.int x) ∧ r = (nx, vmPut L b (.int (x + Int32.ofInt a)), st, h) := by
  simp only [vmStep, vmO4] at e
  split at e
  · rename_i x hx; exact ⟨x, hx, (Option.some.inj e).symm⟩
  · cases e
theorem vi5 (e : vmStep (5, nx, a, b, c, sw) L st h = some r) : ∃ x y z st', st = .int y :: .int x :: st' ∧ vmBin c x y = some z ∧ r = (nx, L, .int z :: st', h) := by
  rcases st with _ | ⟨v, _ | ⟨w, st'⟩⟩
  · simp only [vmStep, vmO5, reduceCtorEq] at e
  · cases v <;> simp only [vmStep, vmO5, reduceCtorEq] at e
  · cases v <;> cases w <;> simp only [vmStep, vmO5, reduceCtorEq] at e
    split at e
    · rename_i z hz
      exact ⟨_, _, z, st', rfl, hz, (Option.some.inj e).symm⟩
    · cases e
theorem vi6 (e : vmStep (6, nx, a, b, c, sw) L st h = some r) : ∃ x y z st', st = .long y :: .long x :: st' ∧ vmBinL c x y = some z ∧ r = (nx, L, .long z :: st', h) := by
  rcases st with _ | ⟨v, _ | ⟨w, st'⟩⟩
  · simp only [vmStep, vmO6, reduceCtorEq] at e
  · cases v <;> simp only [vmStep, vmO6, reduceCtorEq] at e
  · cases v <;> cases w <;> simp only [vmStep, vmO6, reduceCtorEq] at e
    split at e
    · rename_i z hz
      exact ⟨_, _, z, st', rfl, hz, (Option.some.inj e).symm⟩
    · cases e
theorem vi7 (e : vmStep (7, nx, a, b, c, sw) L st h = some r) : ∃ x y z st', st = .int y :: .long x :: st' ∧ vmShL c x y = some z ∧ r = (nx, L, .long z :: st', h) := by
  rcases st with _ | ⟨v, _ | ⟨w, st'⟩⟩
  · simp only [vmStep, vmO7, reduceCtorEq] at e
  · cases v <;> simp only [vmStep, vmO7, reduceCtorEq] at e
  · cases v <;> cases w <;> simp only [vmStep, vmO7, reduceCtorEq] at e
    split at e
    · rename_i z hz
      exact ⟨_, _, z, st', rfl, hz, (Option.some.inj e).symm⟩
    · cases e
theorem vi8 (e : vmStep (8, nx, a, b, c, sw) L st h = some r) : ∃ v z st', st = v :: st' ∧ vmConv c v = some z ∧ r = (nx, L, z :: st', h) := by
  cases st with
  | nil => simp only [vmStep, vmO8, reduceCtorEq] at e
  | cons v st' =>
    simp only [vmStep, vmO8] at e
    split at e
    · rename_i z hz; exact ⟨v, z, st', rfl, hz, (Option.some.inj e).symm⟩
    · cases e
theorem vi9 (e : vmStep (9, nx, a, b, c, sw) L st h = some r) : ∃ x y st', st = .long y :: .long x :: st' ∧ r = (nx, L, .int (vmLcmp x y) :: st', h) := by
  rcases st with _ | ⟨v, _ | ⟨w, st'⟩⟩
  · simp only [vmStep, vmO9, reduceCtorEq] at e
  · cases v <;> simp only [vmStep, vmO9, reduceCtorEq] at e
  · cases v <;> cases w <;> simp only [vmStep, vmO9, reduceCtorEq] at e
    exact ⟨_, _, st', rfl, (Option.some.inj e).symm⟩
theorem vi10 (e : vmStep (10, nx, a, b, c, sw) L st h = some r) : ∃ st', vmStack c st = some st' ∧ r = (nx, L, st', h) := by
  simp only [vmStep, vmO10] at e
  split at e
  · rename_i z hz; exact ⟨z, hz, (Option.some.inj e).symm⟩
  · cases e
theorem vi11 (e : vmStep (11, nx, a, b, c, sw) L st h = some r) : r = (b, L, st, h) := by
  simp only [vmStep] at e; exact (Option.some.inj e).symm
theorem vi12 (e : vmStep (12, nx, a, b, c, sw) L st h = some r) : ∃ x st', st = .int x :: st' ∧ r = (if vmIf c x 0 then b else nx, L, st', h) := by
  rcases st with _ | ⟨v, st'⟩
  · simp only [vmStep, vmO12, reduceCtorEq] at e
  · cases v <;> simp only [vmStep, vmO12, reduceCtorEq] at e
    exact ⟨_, st', rfl, (Option.some.inj e).symm⟩
theorem vi13 (e : vmStep (13, nx, a, b, c, sw) L st h = some r) : ∃ x y st', st = .int y :: .int x :: st' ∧ r = (if vmIf c x y then b else nx, L, st', h) := by
  rcases st with _ | ⟨v, _ | ⟨w, st'⟩⟩
  · simp only [vmStep, vmO13, reduceCtorEq] at e
  · cases v <;> simp only [vmStep, vmO13, reduceCtorEq] at e
  · cases v <;> cases w <;> simp only [vmStep, vmO13, reduceCtorEq] at e
    exact ⟨_, _, st', rfl, (Option.some.inj e).symm⟩
theorem vi14 (e : vmStep (14, nx, a, b, c, sw) L st h = some r) : ∃ x st', st = .int x :: st' ∧ r = (vmSwitch sw b x.toInt, L, st', h) := by
  rcases st with _ | ⟨v, st'⟩
  · simp only [vmStep, vmO14, reduceCtorEq] at e
  · cases v <;> simp only [vmStep, vmO14, reduceCtorEq] at e
    exact ⟨_, st', rfl, (Option.some.inj e).symm⟩
theorem vi15 (e : vmStep (15, nx, a, b, c, sw) L st h = some r) : ∃ (q : Nat) (fs : List Value) (v : Value) (st' : List Value), st = .ref q :: st' ∧ h.2.2.2 q = some (.inr (b, fs)) ∧ fs[c]? = some v ∧ r = (nx, L, v :: st', h) := by
  rcases st with _ | ⟨v, st'⟩
  · simp only [vmStep, vmO15, reduceCtorEq] at e
  · cases v <;> simp only [vmStep, vmO15, reduceCtorEq] at e
    split at e
    · rename_i ci fs hf
      split at e
      · rename_i hb
        subst hb
        split at e
        · rename_i v hv; exact ⟨_, fs, v, st', rfl, hf, hv, (Option.some.inj e).symm⟩
        · cases e
      · cases e
    · cases e
theorem vi16 (e : vmStep (16, nx, a, b, c, sw) L st h = some r) : ∃ (v : Value) (q : Nat) (fs : List Value) (st' : List Value), st = v :: .ref q :: st' ∧ h.2.2.2 q = some (.inr (b, fs)) ∧ c < fs.length ∧ vmOwn q = true ∧ vmFit (vmTy b c) v = true ∧ r = (nx, L, st', vmSet h q (.inr (b, fs.set c v))) := by
  rcases st with _ | ⟨v, _ | ⟨w, st'⟩⟩
  · simp only [vmStep, vmO16, reduceCtorEq] at e
  · simp only [vmStep, vmO16, reduceCtorEq] at e
  · cases w <;> simp only [vmStep, vmO16, reduceCtorEq] at e
    split at e
    · rename_i ci fs hf
      split at e
      · rename_i hb
        obtain ⟨h1, h2, h3, h4⟩ := hb
        subst h1
        exact ⟨v, _, fs, st', rfl, hf, h2, h3, h4, (Option.some.inj e).symm⟩
      · cases e
    · cases e
theorem vi17 (e : vmStep (17, nx, a, b, c, sw) L st h = some r) : ∃ (q : Nat) (ce : vmC) (n : Int32) (st' : List Value), st = .ref q :: st' ∧ h.2.2.2 q = some ce ∧ vmLen ce = some n ∧ r = (nx, L, .int n :: st', h) := by
  rcases st with _ | ⟨v, st'⟩
  · simp only [vmStep, vmO17, reduceCtorEq] at e
  · cases v <;> simp only [vmStep, vmO17, reduceCtorEq] at e
    split at e
    · rename_i ce hf
      split at e
      · rename_i n hn; exact ⟨_, ce, n, st', rfl, hf, hn, (Option.some.inj e).symm⟩
      · cases e
    · cases e
theorem vi18 (e : vmStep (18, nx, a, b, c, sw) L st h = some r) : ∃ (i : Int32) (q : Nat) (ce : vmC) (v : Value) (st' : List Value), st = .int i :: .ref q :: st' ∧ h.2.2.2 q = some ce ∧ vmLd c ce i = some v ∧ r = (nx, L, v :: st', h) := by
  rcases st with _ | ⟨v, _ | ⟨w, st'⟩⟩
  · simp only [vmStep, vmO18, reduceCtorEq] at e
  · cases v <;> simp only [vmStep, vmO18, reduceCtorEq] at e
  · cases v <;> cases w <;> simp only [vmStep, vmO18, reduceCtorEq] at e
    split at e
    · rename_i ce hf
      split at e
      · rename_i v hv; exact ⟨_, _, ce, v, st', rfl, hf, hv, (Option.some.inj e).symm⟩
      · cases e
    · cases e
theorem vi19 (e : vmStep (19, nx, a, b, c, sw) L st h = some r) : ∃ (v : Value) (i : Int32) (q : Nat) (ce ce' : vmC) (st' : List Value), st = v :: .int i :: .ref q :: st' ∧ vmOwn q = true ∧ h.2.2.2 q = some ce ∧ vmSt c ce i v = some ce' ∧ r = (nx, L, st', vmSet h q ce') := by
  rcases st with _ | ⟨u, _ | ⟨v, _ | ⟨w, st'⟩⟩⟩
  · simp only [vmStep, vmO19, reduceCtorEq] at e
  · simp only [vmStep, vmO19, reduceCtorEq] at e
  · cases v <;> simp only [vmStep, vmO19, reduceCtorEq] at e
  · cases v <;> cases w <;> simp only [vmStep, vmO19, reduceCtorEq] at e
    split at e
    · rename_i ho
      split at e
      · rename_i ce hf
        split at e
        · rename_i ce' hv; exact ⟨_, _, _, ce, ce', st', rfl, ho, hf, hv, (Option.some.inj e).symm⟩
        · cases e
      · cases e
    · cases e
theorem vi20 (e : vmStep (20, nx, a, b, c, sw) L st h = some r) : ∃ (x : Nat) (i : Int32) (q : Nat) (ce th ce' : vmC) (st' : List Value), st = .ref x :: .int i :: .ref q :: st' ∧ vmOwn q = true ∧ vmOwn x = true ∧ h.2.2.2 q = some ce ∧ h.2.2.2 x = some th ∧ vmAst ce th i x = some ce' ∧ r = (nx, L, st', vmSet h q ce') := by
  rcases st with _ | ⟨u, _ | ⟨v, _ | ⟨w, st'⟩⟩⟩
  · simp only [vmStep, vmO20, reduceCtorEq] at e
  · cases u <;> simp only [vmStep, vmO20, reduceCtorEq] at e
  · cases u <;> cases v <;> simp only [vmStep, vmO20, reduceCtorEq] at e
  · cases u <;> (try (simp only [vmStep, vmO20, reduceCtorEq] at e; done)) <;> cases v <;> (try (simp only [vmStep, vmO20, reduceCtorEq] at e; done)) <;> cases w <;> simp only [vmStep, vmO20, reduceCtorEq] at e
    split at e
    · rename_i ho
      split at e
      · rename_i ce th hf ht
        split at e
        · rename_i ce' hv; exact ⟨_, _, _, ce, th, ce', st', rfl, ho.1, ho.2, hf, ht, hv, (Option.some.inj e).symm⟩
        · cases e
      · cases e
    · cases e
theorem vi24 (e : vmStep (24, nx, a, b, c, sw) L st h = some r) : ∃ n ce st', st = .int n :: st' ∧ h.2.2.1 = true ∧ 0 ≤ n ∧ n.toNatClampNeg ≤ 10000 ∧ h.1 < 1000000 ∧ vmZero b n.toNatClampNeg = some ce ∧ r = (nx, L, .ref h.1 :: st', vmAdd h n.toNatClampNeg ce) := by
  rcases st with _ | ⟨v, st'⟩
  · simp only [vmStep, vmO24, reduceCtorEq] at e
  · cases v <;> simp only [vmStep, vmO24, reduceCtorEq] at e
    split at e
    · rename_i ho
      split at e
      · rename_i ce hf; exact ⟨_, ce, st', rfl, ho.1, ho.2.1, ho.2.2.1, ho.2.2.2, hf, (Option.some.inj e).symm⟩
      · cases e
    · cases e
theorem vi25 (e : vmStep (25, nx, a, b, c, sw) L st h = some r) : h.2.2.1 = true ∧ h.1 < 1000000 ∧ r = (nx, L, .ref h.1 :: st, vmAdd h (vmN b) (.inr (b, vmNew b))) := by
  simp only [vmStep] at e
  split at e
  · rename_i ho; exact ⟨ho.1, ho.2, (Option.some.inj e).symm⟩
  · cases e
theorem vi26 (e : vmStep (26, nx, a, b, c, sw) L st h = some r) : r = (nx, L, .ref b :: st, h) := by
  simp only [vmStep] at e; exact (Option.some.inj e).symm
theorem vi28 (e : vmStep (28, nx, a, b, c, sw) L st h = some r) : ∃ (q : Nat) (st' : List Value), st = .ref q :: st' ∧ vmOwn q = true ∧ vmCat st' ≤ 8 ∧ r = (nx, L, st', h) := by
  rcases st with _ | ⟨v, st'⟩
  · simp only [vmStep, vmO28, reduceCtorEq] at e
  · cases v <;> simp only [vmStep, vmO28, reduceCtorEq] at e
    split at e
    · rename_i ho; exact ⟨_, st', rfl, ho.1, ho.2, (Option.some.inj e).symm⟩
    · cases e
theorem vi29 (e : vmStep (29, nx, a, b, c, sw) L st h = some r) : (∃ x y z st', st = .int y :: .int x :: st' ∧ vmCat st' ≤ 8 ∧ vmMi c x y = some z ∧ r = (nx, L, .int z :: st', h)) ∨ (∃ x y z st', st = .long y :: .long x :: st' ∧ vmCat st' ≤ 8 ∧ vmMl c x y = some z ∧ r = (nx, L, .long z :: st', h)) := by
  rcases st with _ | ⟨v, _ | ⟨w, st'⟩⟩
  · simp only [vmStep, vmO29, reduceCtorEq] at e
  · cases v <;> simp only [vmStep, vmO29, reduceCtorEq] at e
  · cases v <;> cases w <;> simp only [vmStep, vmO29, reduceCtorEq] at e
    · split at e
      · rename_i ho
        split at e
        · rename_i z hz; exact Or.inl ⟨_, _, z, st', rfl, ho, hz, (Option.some.inj e).symm⟩
        · cases e
      · cases e
    · split at e
      · rename_i ho
        split at e
        · rename_i z hz; exact Or.inr ⟨_, _, z, st', rfl, ho, hz, (Option.some.inj e).symm⟩
        · cases e
      · cases e
theorem vi27 (e : vmStep (27, nx, a, b, c, sw) L st h = some r) : ∃ (n dp : Int32) (q1 : Nat) (sp : Int32) (q0 : Nat) (c0 c1 ce' : vmC) (st' : List Value), st = .int n :: .int dp :: .ref q1 :: .int sp :: .ref q0 :: st' ∧ vmOwn q0 = true ∧ vmOwn q1 = true ∧ vmCat st' ≤ 8 ∧ h.2.2.2 q0 = some c0 ∧ h.2.2.2 q1 = some c1 ∧ vmCopy c0 c1 sp dp n = some ce' ∧ r = (nx, L, st', vmSet h q1 ce') := by
  rcases st with _ | ⟨u1, _ | ⟨u2, _ | ⟨u3, _ | ⟨u4, _ | ⟨u5, st'⟩⟩⟩⟩⟩
  · simp only [vmStep, vmO27, reduceCtorEq] at e
  · cases u1 <;> simp only [vmStep, vmO27, reduceCtorEq] at e
  · cases u1 <;> (try (simp only [vmStep, vmO27, reduceCtorEq] at e; done)) <;> cases u2 <;> simp only [vmStep, vmO27, reduceCtorEq] at e
  · cases u1 <;> (try (simp only [vmStep, vmO27, reduceCtorEq] at e; done)) <;> cases u2 <;> (try (simp only [vmStep, vmO27, reduceCtorEq] at e; done)) <;> cases u3 <;> simp only [vmStep, vmO27, reduceCtorEq] at e
  · cases u1 <;> (try (simp only [vmStep, vmO27, reduceCtorEq] at e; done)) <;> cases u2 <;> (try (simp only [vmStep, vmO27, reduceCtorEq] at e; done)) <;> cases u3 <;> (try (simp only [vmStep, vmO27, reduceCtorEq] at e; done)) <;> cases u4 <;> simp only [vmStep, vmO27, reduceCtorEq] at e
  · cases u1 <;> (try (simp only [vmStep, vmO27, reduceCtorEq] at e; done)) <;> cases u2 <;> (try (simp only [vmStep, vmO27, reduceCtorEq] at e; done)) <;> cases u3 <;> (try (simp only [vmStep, vmO27, reduceCtorEq] at e; done)) <;> cases u4 <;> (try (simp only [vmStep, vmO27, reduceCtorEq] at e; done)) <;> cases u5 <;> simp only [vmStep, vmO27, reduceCtorEq] at e
    split at e
    · rename_i ho
      split at e
      · rename_i c0 c1 h0 h1
        split at e
        · rename_i ce' hv; exact ⟨_, _, _, _, _, c0, c1, ce', st', rfl, ho.1, ho.2.1, ho.2.2, h0, h1, hv, (Option.some.inj e).symm⟩
        · cases e
      · cases e
    · cases e
end VMI
