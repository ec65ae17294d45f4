/-! ===== the induction ===== -/
section VMM
variable {κ : vmK} {p : Program} {l : Launch} {e : Env} {R : Room} {s : State} {m : MethodId} {args : Array Value} {below : List Frame} {meth : Method} {c : Code} {Q : State → Prop} {n0 s0 : Nat} {cc : ByteArray} {own : String} {isI : Bool} {S : List vmS} {pc pc' len : Nat} {en : vmE} {L L' st st' : List Value} {h h' : vmH}
theorem vm_ok22 (hok : vmOkE S own isI cc pc en = true) (hop : en.1 = 22) : (en.2.2.2.2.1 = 0 ∧ decode cc pc = .ok (.return_, 1)) ∨ (en.2.2.2.2.1 = 1 ∧ decode cc pc = .ok (.ireturn, 1)) ∨ (en.2.2.2.2.1 = 2 ∧ decode cc pc = .ok (.lreturn, 1)) := by
  unfold vmOkE at hok
  split at hok
  · rename_i i len hd
    rw [Bool.or_eq_true] at hok
    rcases hok with hok | hok
    · split at hok
      · rename_i e1 ht
        have he := vmEq_eq hok
        subst he
        cases i
        case return_ => simp only [vmTrans] at ht; split at ht <;> cases ht; rename_i hl; subst hl; exact Or.inl ⟨rfl, hd⟩
        case ireturn => simp only [vmTrans] at ht; split at ht <;> cases ht; rename_i hl; subst hl; exact Or.inr (Or.inl ⟨rfl, hd⟩)
        case lreturn => simp only [vmTrans] at ht; split at ht <;> cases ht; rename_i hl; subst hl; exact Or.inr (Or.inr ⟨rfl, hd⟩)
        all_goals (simp only [vmTrans] at ht)
        all_goals first | (cases ht; done) | skip
        all_goals (repeat' (split at ht))
        all_goals first | (cases ht; done) | (cases ht; cases hop; done) | skip
      · cases hok
    · cases i
      all_goals (simp only [vmTransX, Bool.false_eq_true, Bool.and_eq_true, Bool.or_eq_true] at hok)
      case dup2 => rcases hok.2 with z | z <;> (have := vmEq_eq z; subst this; cases hop)
      case pop2 => have := vmEq_eq hok.2; subst this; cases hop
      case tableswitch => have := vmEq_eq hok.2; subst this; cases hop
      case lookupswitch => have := vmEq_eq hok.2; subst this; cases hop
      case new =>
        obtain ⟨-, h2⟩ := hok
        split at h2
        · split at h2
          · simp only [Bool.and_eq_true] at h2
            have := vmEq_eq h2.2
            subst this
            cases hop
          · cases h2
        · cases h2
  · cases hok
theorem vm_ok23 (hok : vmOkE S own isI cc pc en = true) (hop : en.1 = 23) : ∃ ik len, decode cc pc = .ok (.new ik, len) ∧ vmTransX S cc pc (.new ik) len en = true ∧ en = (23, 0, 0, en.2.2.2.1, 0, []) := by
  unfold vmOkE at hok
  split at hok
  · rename_i i len hd
    rw [Bool.or_eq_true] at hok
    rcases hok with hok | hok
    · split at hok
      · rename_i e1 ht
        have he := vmEq_eq hok
        subst he
        cases i
        all_goals (simp only [vmTrans] at ht)
        all_goals first | (cases ht; done) | skip
        all_goals (repeat' (split at ht))
        all_goals first | (cases ht; done) | (cases ht; cases hop; done) | skip
      · cases hok
    · cases i
      case new ik =>
        refine ⟨ik, len, hd, hok, ?_⟩
        simp only [vmTransX, Bool.and_eq_true] at hok
        obtain ⟨-, h2⟩ := hok
        split at h2
        · split at h2
          · simp only [Bool.and_eq_true] at h2
            have := vmEq_eq h2.2
            subst this
            rfl
          · cases h2
        · cases h2
      all_goals (simp only [vmTransX, Bool.false_eq_true, Bool.and_eq_true, Bool.or_eq_true] at hok)
      case dup2 => rcases hok.2 with z | z <;> (have := vmEq_eq z; subst this; cases hop)
      case pop2 => have := vmEq_eq hok.2; subst this; cases hop
      case tableswitch => have := vmEq_eq hok.2; subst this; cases hop
      case lookupswitch => have := vmEq_eq hok.2; subst this; cases hop
  · cases hok
/-- the five calls -/
theorem vm_ok21 (hok : vmOkE S own isI cc pc en = true) (hop : en.1 = 21) : ∃ idx i a n b pl, en.2.1 = pc + 3 ∧ en.2.2.2.1 = b ∧ en.2.2.2.2.1 = n ∧
    ((en.2.2.1 = 1 ∧ decode cc pc = .ok (.invokevirtual idx, 3) ∧ vmFind S idx = some (i, 1, a, b, n, pl)) ∨ (en.2.2.1 = 2 ∧ decode cc pc = .ok (.invokespecial idx, 3) ∧ vmFind S idx = some (i, 2, a, b, n, pl)) ∨ (en.2.2.1 = 3 ∧ decode cc pc = .ok (.invokespecial idx, 3) ∧ vmFind S idx = some (i, 3, a, b, n, pl)) ∨
     (en.2.2.1 = 4 ∧ decode cc pc = .ok (.invokestatic idx, 3) ∧ vmFind S idx = some (i, 4, a, b, n, pl)) ∨ (en.2.2.1 = 5 ∧ decode cc pc = .ok (.invokestatic idx, 3) ∧ vmFind S idx = some (i, 5, a, b, n, pl))) := by
  unfold vmOkE at hok
  split at hok
  · rename_i i len hd
    rw [Bool.or_eq_true] at hok
    rcases hok with hok | hok
    · split at hok
      · rename_i e1 ht
        have he := vmEq_eq hok
        subst he
        cases i
        case invokevirtual idx =>
          simp only [vmTrans] at ht
          split at ht
          · rename_i hl
            subst hl
            split at ht
            · rename_i hf; cases ht; exact ⟨idx, _, _, _, _, _, rfl, rfl, rfl, Or.inl ⟨rfl, hd, hf⟩⟩
            · cases ht
          · cases ht
        case invokespecial idx =>
          simp only [vmTrans] at ht
          split at ht
          · rename_i hl
            subst hl
            split at ht
            · rename_i hf; cases ht; exact ⟨idx, _, _, _, _, _, rfl, rfl, rfl, Or.inr (Or.inl ⟨rfl, hd, hf⟩)⟩
            · rename_i hf; cases ht; exact ⟨idx, _, _, _, _, _, rfl, rfl, rfl, Or.inr (Or.inr (Or.inl ⟨rfl, hd, hf⟩))⟩
            · cases ht; cases hop
            · cases ht
          · cases ht
        case invokestatic idx =>
          simp only [vmTrans] at ht
          split at ht
          · rename_i hl
            subst hl
            split at ht
            · rename_i hf; cases ht; exact ⟨idx, _, _, _, _, _, rfl, rfl, rfl, Or.inr (Or.inr (Or.inr (Or.inl ⟨rfl, hd, hf⟩)))⟩
            · rename_i hf; cases ht; exact ⟨idx, _, _, _, _, _, rfl, rfl, rfl, Or.inr (Or.inr (Or.inr (Or.inr ⟨rfl, hd, hf⟩)))⟩
            · cases ht; cases hop
            · cases ht; cases hop
            · cases ht
          · cases ht
        all_goals (simp only [vmTrans] at ht)
        all_goals first | (cases ht; done) | skip
        all_goals (repeat' (split at ht))
        all_goals first | (cases ht; done) | (cases ht; cases hop; done) | skip
      · cases hok
    · cases i
      all_goals (simp only [vmTransX, Bool.false_eq_true, Bool.and_eq_true, Bool.or_eq_true] at hok)
      case dup2 => rcases hok.2 with z | z <;> (have := vmEq_eq z; subst this; cases hop)
      case pop2 => have := vmEq_eq hok.2; subst this; cases hop
      case tableswitch => have := vmEq_eq hok.2; subst this; cases hop
      case lookupswitch => have := vmEq_eq hok.2; subst this; cases hop
      case new =>
        obtain ⟨-, h2⟩ := hok
        split at h2
        · split at h2
          · simp only [Bool.and_eq_true] at h2
            have := vmEq_eq h2.2
            subst this
            cases hop
          · cases h2
        · cases h2
  · cases hok
end VMM
