/-! ===== the entry of a method; its words ===== -/
section VME
variable {κ : vmK}
theorem vmArgs_len : ∀ (av : List Value), (vmArgs av).length = vmCat av
  | [] => rfl
  | v :: r => by
    have ih := vmArgs_len r
    unfold vmCat at ih ⊢
    rw [List.map_cons, List.sum_cons, ← ih]
    cases v <;> simp [vmArgs, Value.category] <;> omega
theorem vmCat_rev (av : List Value) : vmCat av.reverse = vmCat av := by
  unfold vmCat
  rw [List.map_reverse, List.sum_reverse]
theorem lg_sl_len (hz : vmZv κ) : ∀ (av : List Value), (lg_sl (av.map (vmLift κ))).length = vmCat av
  | [] => rfl
  | v :: r => by
    have ih := lg_sl_len hz r
    unfold vmCat at ih ⊢
    rw [List.map_cons, List.map_cons, List.sum_cons, ← ih]
    show (List.flatMap _ (vmLift κ v :: r.map (vmLift κ))).length = _
    rw [List.flatMap_cons, List.length_append]
    congr 1
    rw [vmLift_cat hz v]
    rcases lv_cat v with h | h
    · rw [if_neg (by omega), h]; rfl
    · rw [if_pos h, h]; rfl
theorem vmArgs_mem (hz : vmZv κ) : ∀ (av : List Value) (j i : Nat) (v : Value), (vmArgs av)[i]? = some v → (∀ x, v ≠ .float x) → (j + i, vmLift κ v) ∈ lv_args j (av.map (vmLift κ))
  | [], j, i, v, h, _ => by simp [vmArgs] at h
  | w :: r, j, i, v, h, hn => by
    rw [List.map_cons]
    show _ ∈ (j, vmLift κ w) :: lv_args (if (vmLift κ w).category = 2 then j + 2 else j + 1) (r.map (vmLift κ))
    rw [vmLift_cat hz w]
    by_cases hc : w.category = 2
    · have e : vmArgs (w :: r) = w :: vmJ :: vmArgs r := by cases w <;> first | rfl | (simp [Value.category] at hc)
      rw [e] at h
      rw [if_pos hc]
      match i, h with
      | 0, h => cases h; exact List.mem_cons_self
      | 1, h => cases h; exact absurd rfl (hn 0)
      | i + 2, h =>
        have := vmArgs_mem hz r (j + 2) i v (by simpa using h) hn
        rw [show j + 2 + i = j + (i + 2) by omega] at this
        exact List.mem_cons_of_mem _ this
    · have e : vmArgs (w :: r) = w :: vmArgs r := by cases w <;> first | rfl | (simp [Value.category] at hc)
      rw [e] at h
      rw [if_neg hc]
      match i, h with
      | 0, h => cases h; exact List.mem_cons_self
      | i + 1, h =>
        have := vmArgs_mem hz r (j + 1) i v (by simpa using h) hn
        rw [show j + 1 + i = j + (i + 1) by omega] at this
        exact List.mem_cons_of_mem _ this
theorem vmEntry_LR (hz : vmZv κ) (y : vmM) (av : List Value) (hl : vmCat av ≤ y.2.2.1) : vmLR κ y.2.2.1 (vmEntry y av) ((lg_sl (av.map (vmLift κ)) ++ List.replicate (y.2.2.1 - (lg_sl (av.map (vmLift κ))).length) Slot.unset).toArray) := by
  have h := lv_entry (av.map (vmLift κ)) (n := y.2.2.1) (by rw [lg_sl_len hz]; exact hl)
  refine ⟨?_, h.1, h.2.1, fun i v hv hn => ?_⟩
  · unfold vmEntry
    rw [List.length_append, List.length_replicate, vmArgs_len]
    omega
  · unfold vmEntry at hv
    by_cases hi : i < (vmArgs av).length
    · rw [List.getElem?_append_left hi] at hv
      have := vmArgs_mem hz av 0 i v hv hn
      rw [Nat.zero_add] at this
      exact h.2.2 _ this
    · rw [List.getElem?_append_right (by omega)] at hv
      have := List.eq_of_mem_replicate (List.mem_of_getElem? hv)
      exact absurd this (hn 0)
theorem vmMI_spec {b : Nat} (h : vmMIok b = true) : ((vmI b).1 = true → Cond.static (vmY b) ∈ vmTB) ∧ ((vmI b).1 = false → Cond.instanceMethod (vmY b) ∈ vmTB) ∧ Cond.initialized (vmY b).cls ∈ vmTB ∧ (parseMethodDescriptor (vmY b).desc).map (fun d => d.parameters.length) = some (vmI b).2.1 ∧ plainName (vmY b).cls = true ∧ (vmY b).cls ≠ "java/lang/invoke/MethodHandle" ∧ (vmY b).cls ≠ "java/lang/invoke/VarHandle" ∧ ((vmI b).1 = false → (vmY b).name ≠ "<init>" → Cond.selects (vmY b).cls (vmY b) (vmY b) ∈ vmTB) := by
  unfold vmMIok at h
  generalize hI : vmI b = q at h ⊢
  obtain ⟨st, n, p1, p2, p3, p4⟩ := q
  simp only [Bool.and_eq_true, Bool.or_eq_true, decide_eq_true_eq] at h
  obtain ⟨h1, h2, h3, h4, h5, h6, h7⟩ := h
  refine ⟨fun e => ?_, fun e => ?_, vmTB_in h2 rfl, h3, h4, h5, h6, fun e1 e2 => ?_⟩
  · dsimp only at e
    subst e
    exact vmTB_in h1 rfl
  · dsimp only at e
    subst e
    exact vmTB_in h1 rfl
  · dsimp only at e1
    subst e1
    rcases h7 with h7 | h7
    · rcases h7 with h7 | h7
      · cases h7
      · exact absurd h7 e2
    · exact vmTB_in h7 rfl
end VME
