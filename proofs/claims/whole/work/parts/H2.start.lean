/-! ===== behind the constructors: the heap is a store's, and what holds between calls holds ===== -/
def zC (t o : Nat) : Bool := match dLk lF (A t o), sh (A t o) with
  | some (.inl (_, _, [])), (0, _, _, t', o') => t' == t && o' == o
  | _, _ => false
def upO (t o : Nat) : Option (List (Nat × Int)) := match dLk lF (A t o), sh (A t o) with
  | some (.inl (_, _, u)), (0, _, _, t', o') => if t' = t ∧ o' = o then some u else none
  | _, _ => none
theorem sD_up {t o : Nat} {u : List (Nat × Int)} (h : upO t o = some u) : sD t o = fun i => dlk u i.toNat := by
  funext i
  unfold upO at h
  unfold sD
  cases e1 : dLk lF (A t o) with
  | none => rw [e1] at h; cases h
  | some c =>
    rw [e1] at h
    rcases c with ⟨ty, m, u'⟩ | c
    · generalize sh (A t o) = s at h ⊢
      obtain ⟨s1, s2, s3, s4, s5⟩ := s
      cases s1 with
      | zero =>
        change (if s4 = t ∧ s5 = o then some u' else none) = some u at h
        change (if s4 = t ∧ s5 = o then dlk u' i.toNat else _) = _
        by_cases e : s4 = t ∧ s5 = o
        · rw [if_pos e] at h ⊢
          cases h
          rfl
        · rw [if_neg e] at h; cases h
      | succ s1 => cases h
    · cases h
theorem sD_z {t o : Nat} (h : upO t o = some []) : sD t o = fun _ => 0 := by
  rw [sD_up h]
  rfl
def dO (o : Option dC) (b : Option vmC) : Option vmC := match o with
  | some c => some (dec c)
  | none => b
theorem hD_v {b : Nat → Option vmC} {l : List (Nat × dC)} {n s : Nat} : hD b l n s = (n, s, true, fun a => dO (dLk l a) (b a)) := rfl
theorem okC_ce {a : Nat} (ha : a < 406) {b : Option vmC} : dO (dLk lF a) b = ce sD a (sh a) := by
  have h := List.all_eq_true.mp kC a (List.mem_range.mpr ha)
  unfold okC at h
  cases e1 : dLk lF a with
  | none => rw [e1] at h; cases h
  | some c =>
    rw [e1] at h
    show some (dec c) = _
    cases e2 : sh a with
    | mk s1 r =>
    obtain ⟨s2, s3, s4, s5⟩ := r
    rw [e2] at h
    rcases c with ⟨ty, m, u⟩ | ⟨ci, fs⟩
    · rcases s1 with _ | _ | s1
      · change (ty == s2 && m == s3 && A s4 s5 == a && Nat.ble ty 2) = true at h
        rw [Bool.and_eq_true, Bool.and_eq_true, Bool.and_eq_true, beq_iff_eq, beq_iff_eq, beq_iff_eq] at h
        obtain ⟨⟨⟨h1, h2⟩, h3⟩, h4⟩ := h
        subst h1
        subst h2
        have sd : ∀ i : Nat, sD s4 s5 (i : Int) = dlk u i := fun i => by
          unfold sD
          rw [h3, e1, e2]
          change (if s4 = s4 ∧ s5 = s5 then dlk u ((i : Int)).toNat else _) = _
          rw [if_pos ⟨rfl, rfl⟩]
          rfl
        have h5 : ty ≤ 2 := Nat.le_of_ble_eq_true h4
        have c3 : ty = 0 ∨ ty = 1 ∨ ty = 2 := by omega
        rcases c3 with rfl | rfl | rfl
        · show some (Sum.inl (0, m, Sum.inl fun i => i32 (dlk u i))) = some (Sum.inl (0, m, Sum.inl fun i : Nat => i32 (sD s4 s5 i)))
          simp only [sd]
        · show some (Sum.inl (1, m, Sum.inr (Sum.inl fun i => i64 (dlk u i)))) = some (Sum.inl (1, m, Sum.inr (Sum.inl fun i : Nat => i64 (sD s4 s5 i))))
          simp only [sd]
        · show some (Sum.inl (2, m, Sum.inl fun i => i32 (dlk u i))) = some (Sum.inl (2, m, Sum.inl fun i : Nat => i32 (sD s4 s5 i)))
          simp only [sd]
      · change (ty == s2 && m == s3 && (ty == 3 || ty == 4) && (List.range m).all (fun i => dlk u i == ((s4 + s5 * i : Nat) : Int) + 1) && u.all (fun p => Nat.blt p.1 m)) = true at h
        rw [Bool.and_eq_true, Bool.and_eq_true, Bool.and_eq_true, Bool.and_eq_true, beq_iff_eq, beq_iff_eq, Bool.or_eq_true, beq_iff_eq, beq_iff_eq] at h
        obtain ⟨⟨⟨⟨h1, h2⟩, h3⟩, h4⟩, h5⟩ := h
        subst h1
        subst h2
        have z : ∀ (u : List (Nat × Int)), u.all (fun p => Nat.blt p.1 m) = true → ∀ i, ¬ i < m → dlk u i = 0 := by
          intro u
          induction u with
          | nil => intro _ i _; rfl
          | cons p u ih =>
            intro hu i hi
            rw [List.all_cons, Bool.and_eq_true] at hu
            have hp : p.1 < m := (Nat.blt_eq).mp hu.1
            show (if i = p.1 then p.2 else dlk u i) = 0
            rw [if_neg (by omega)]
            exact ih hu.2 i hi
        have fe : (fun i => if dlk u i = 0 then none else some (dlk u i - 1).toNat) = fun i => if i < m then some (s4 + s5 * i) else none := by
          funext i
          by_cases hi : i < m
          · have v := List.all_eq_true.mp h4 i (List.mem_range.mpr hi)
            rw [beq_iff_eq] at v
            rw [if_pos hi, v, if_neg (by omega)]
            exact congrArg some (by omega)
          · rw [if_neg hi, z u h5 i hi, if_pos rfl]
        rcases h3 with rfl | rfl
        · show some (Sum.inl (3, m, Sum.inr (Sum.inr (Sum.inr (Sum.inr fun i => if dlk u i = 0 then none else some (dlk u i - 1).toNat))))) = _
          rw [fe]
          rfl
        · show some (Sum.inl (4, m, Sum.inr (Sum.inr (Sum.inr (Sum.inr fun i => if dlk u i = 0 then none else some (dlk u i - 1).toNat))))) = _
          rw [fe]
          rfl
      · cases h
    · rcases s1 with _ | _ | _ | s1
      · cases h
      · cases h
      · change (ci == s2 && fs == (FD ci).map (fv sD a)) = true at h
        rw [Bool.and_eq_true, beq_iff_eq, beq_iff_eq] at h
        obtain ⟨h1, h2⟩ := h
        subst h1
        show some (Sum.inr (ci, fs)) = some (Sum.inr (ci, (FD ci).map (fv sD a)))
        rw [← h2]
      · cases h
theorem lF_k {a : Nat} (ha : ¬ a < 406) : dLk lF a = none := by
  have h := kK
  revert h
  generalize lF = l
  induction l with
  | nil => intro _; rfl
  | cons p l ih =>
    intro h
    rw [List.all_cons, Bool.and_eq_true] at h
    have hp : p.1 < 406 := (Nat.blt_eq).mp h.1
    show (if a = p.1 then some p.2 else dLk l a) = none
    rw [if_neg (by omega)]
    exact ih h.2
/-- the heap with the script alone -/
def bs0 (T : Tt) : Nat → Option vmC := fun a => if a < 1000000 then none else xt T a
theorem hD_f {b : Nat → Option vmC} (a : Nat) : dO (dLk lF a) (b a) = if a < 406 then ce sD a (sh a) else b a := by
  by_cases ha : a < 406
  · rw [if_pos ha]; exact okC_ce ha
  · rw [if_neg ha, lF_k ha]; rfl
theorem hD_E {n m : Nat} {S : Nat → Int} {s : Nat} : hD (bs0 (m, s, true, n, S)) lF m s = E (m, s, true, n, S) sD := by
  rw [hD_v, show (fun a => dO (dLk lF a) (bs0 (m, s, true, n, S) a)) = fun a => if a < 406 then ce sD a (sh a) else bs0 (m, s, true, n, S) a from funext hD_f]
  unfold bs0 E
  rfl
