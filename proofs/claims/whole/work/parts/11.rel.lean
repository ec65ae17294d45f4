/-! ===== what ties the abstract machine to the real one ===== -/
/-- base, tables' numbers, types of arrays, Strings and their rows, the script (cell, length, ints), the formatter -/
abbrev vmK : Type := Nat × va_G × List (ClassId × FieldType) × (Nat → Nat) × (Nat → Nat) × Nat × Nat × (Nat → Int32) × Value
def vmAd (κ : vmK) (r : Nat) : Nat := if r < 1000000 then κ.1 + r else if r < 2000000 then (if r % 2 = 0 then κ.2.2.2.1 ((r - 1000000) / 2) else κ.2.2.2.2.1 ((r - 1000000) / 2)) else κ.2.2.2.2.2.1
def vmLift (κ : vmK) (v : Value) : Value := match v with
  | .ref r => if r < 3000000 then .ref (vmAd κ r) else κ.2.2.2.2.2.2.2.2
  | v => v
def vmCls (κ : vmK) (t : Nat) : ClassId := match κ.2.2.1[t]? with
  | some q => q.1
  | none => 0
def vmLa (κ : vmK) (a : vp_A) : vp_A := match a with
  | (n, .inr (.inr (.inr (.inr f)))) => (n, .inr (.inr (.inr (.inr fun j => (f j).map (vmAd κ)))))
  | a => a
def vmLc (κ : vmK) (c : vmC) : va_E := match c with
  | .inl (t, a) => .inl (vmCls κ t, vmLa κ a)
  | .inr (ci, fs) => .inr (ci, fs.map (vmLift κ))
/-- arrays are of the five types, their references own -/
def vmCok (c : vmC) : Prop := match c with
  | .inl (t, _, .inr (.inr (.inr (.inr f)))) => t < 5 ∧ ∀ j r, f j = some r → r < 1000000
  | .inl (t, _, _) => t < 5
  | _ => True
def vmByt (i : Nat) : List Int32 := match vmTxs[i]? with
  | some t => t.toList.map fun ch => Int32.ofNat ch.toNat
  | none => []
/-- what lies outside: Strings, their rows, the script -/
def vmExt (κ : vmK) (k : Nat) : Option vmC :=
  if k < 2000000 then (if (k - 1000000) / 2 < vmTxs.length then (if k % 2 = 0 then some (.inr (20, [.ref (k + 1), .int 0])) else some (.inl (5, (vmByt ((k - 1000000) / 2)).length, .inl fun j => (vmByt ((k - 1000000) / 2)).getD j 0))) else none)
  else if k = 2000000 then some (.inl (0, κ.2.2.2.2.2.2.1, .inl κ.2.2.2.2.2.2.2.1)) else none
def vmRel (κ : vmK) (h : vmH) (H : Heap) : Prop :=
  (∀ (k : Nat) (c : vmC), k < 1000000 → h.2.2.2 k = some c → k < h.1 ∧ va_at κ.2.1 vwCl (κ.1 + k, vmLc κ c) H ∧ vmCok c) ∧ (h.2.2.1 = true → ∀ k : Nat, k < h.1 → ∃ c, h.2.2.2 k = some c) ∧ (∀ k : Nat, 1000000 ≤ k → h.2.2.2 k = vmExt κ k) ∧ κ.1 ≤ H.size
def vmA (κ : vmK) : Nat → Prop := fun q => κ.1 ≤ q
def vmTys : List FieldType := [.int, .long, .boolean, .object "HedgePark$Scene", .object "HedgePark$Story"]
def vmTB : List Cond := lw_tbl.filter goodWord
/-- what holds of a state beside its own cells, as long as nothing else is written -/
def vmEX (κ : vmK) (U : State) : Prop :=
  va_K κ.2.1 vwCl κ.2.2.1 U ∧ κ.2.2.1.map (fun q => q.2) = vmTys ∧
  vx_Zq Bundle.tN "UNASSIGNED_STACK" Bundle.steD (vmA κ) U U.heap ∧ vx_Zq Bundle.tN "SUPPRESSED_SENTINEL" Bundle.listD (vmA κ) U U.heap ∧
  vk_S vmTxs.length (vmTxs.map fun t => t.toList.length) (vmTxs.map fun t => t.toList.map fun ch => Int32.ofNat ch.toNat) κ.2.2.2.1 κ.2.2.2.2.1 (vmA κ) U U.heap ∧
  (∀ (own : String) (idx b : Nat), Cond.stringRef own idx (vmTx b) ∈ lw_tbl → 1000000 ≤ b → b < 1000000 + 2 * vmTxs.length → b % 2 = 0 → vk_R own idx (vmTx b) (κ.2.2.2.1 ((b - 1000000) / 2)) U) ∧
  va_Z "java/lang/String" "COMPACT_STRINGS" "Z" (.int 1) (vmA κ) U U.heap ∧
  va_Z "jdk/internal/util/Preconditions" "SIOOBE_FORMATTER" "Ljava/util/function/BiFunction;" κ.2.2.2.2.2.2.2.2 (vmA κ) U U.heap ∧
  va_X κ.2.2.2.2.2.1 κ.2.2.2.2.2.2.1 κ.2.2.2.2.2.2.2.1 U U.heap ∧ κ.2.2.2.2.2.1 < κ.1 ∧
  (∀ (own : String) (idx : Nat) (y : MethodName) (host : String), Cond.methodLinkNest own idx y host ∈ lw_tbl → va_Nw (.methodLinkNest own idx y host) U) ∧
  (∀ C : String, Cond.arrayOver (.object C) ∈ lw_tbl → va_AO C U) ∧
  (∀ a b : Nat, a < 4 → b < 4 → a ≠ b → va_Nc (vmXn a) (vmXn b) U) ∧ κ.1 ≤ U.heap.size ∧ (κ.2.2.2.2.2.2.2.2 = .null ∨ ∃ t, κ.2.2.2.2.2.2.2.2 = .ref t) ∧
  (∀ y : MethodName, Cond.declares y ∈ lw_tbl → va_Nw (.declares y) U) ∧ (∀ a b : String, Cond.castable a b ∈ lw_tbl → va_Nw (.castable a b) U)
theorem vmEX_to {κ : vmK} {s U : State} {H : Heap} {locs : List Loc} (h : vmEX κ s) (hW : s.WarmedH U.vm) (hH : U.heap = H) (hS : va_S (vmA κ) s.heap H locs) : vmEX κ U := by
  obtain ⟨h1, h2, h3, h4, h5, h6, h7, h8, h9, h10, h11, h12, h13, h14, h15, h16, h17⟩ := h
  subst hH
  have hq : ∀ a : Nat, a < s.heap.size → ¬ vmA κ a → U.heap[a]? = s.heap[a]? := hS.2.1
  have hvm := hW.alike
  refine ⟨h1.moved hvm, h2, (h3.moved hvm).kept hq, (h4.moved hvm).kept hq, (h5.moved hvm).kept hq, fun own idx b e1 e2 e3 e4 => (h6 own idx b e1 e2 e3 e4).warm hW, (h7.moved hvm).kept hq, (h8.moved hvm).kept hq, (h9.moved hvm).kept (hq _ ?_ ?_), h10, fun own idx y host e => (h11 own idx y host e).warmM hW, fun C e => ?_, fun a b e1 e2 e3 => (h13 a b e1 e2 e3).moved hvm, Nat.le_trans h14 hS.1, h15, fun y e => (h16 y e).warmD hW, fun a b e => va_tabs rfl (rfl : (s.setVm U.vm).vm = U.vm) (by rw [Cond.castable_setVm hvm]; exact h17 a b e)⟩
  · exact Nat.lt_of_lt_of_le h10 h14
  · exact Nat.not_le.mpr h10
  · exact (h12 C e).moved hvm
/-- all own cells, as a world -/
def vmWs (κ : vmK) (h : vmH) : va_W := (List.range h.1).filterMap fun k => if k < 1000000 then (h.2.2.2 k).map fun c => (κ.1 + k, vmLc κ c) else none
theorem vmWs_mem {κ : vmK} {h : vmH} {q : Nat × va_E} : q ∈ vmWs κ h ↔ ∃ k c, k < h.1 ∧ k < 1000000 ∧ h.2.2.2 k = some c ∧ q = (κ.1 + k, vmLc κ c) := by
  unfold vmWs
  rw [List.mem_filterMap]
  constructor
  · rintro ⟨k, hk, he⟩
    rw [List.mem_range] at hk
    split at he
    · rename_i h6
      cases hc : h.2.2.2 k with
      | none => rw [hc] at he; cases he
      | some c => rw [hc] at he; cases he; exact ⟨k, c, hk, h6, hc, rfl⟩
    · cases he
  · rintro ⟨k, c, hk, h6, hc, rfl⟩
    exact ⟨k, List.mem_range.mpr hk, by rw [if_pos h6, hc]; rfl⟩
theorem vmWs_P {κ : vmK} {h : vmH} {H : Heap} (hR : vmRel κ h H) : va_P κ.2.1 vwCl (vmWs κ h) H := by
  intro k q hk
  obtain ⟨j, c, -, h6, hc, rfl⟩ := vmWs_mem.mp (List.mem_of_getElem? hk)
  exact (hR.1 j c h6 hc).2.1
theorem vmWs_nd {κ : vmK} {h : vmH} : ((vmWs κ h).map fun q => q.1).Nodup := by
  unfold vmWs
  have key : ∀ (l : List Nat), l.Nodup → ((l.filterMap fun k => if k < 1000000 then (h.2.2.2 k).map fun c => (κ.1 + k, vmLc κ c) else none).map fun q => q.1).Nodup := by
    intro l
    induction l with
    | nil => intro _; exact List.nodup_nil
    | cons a l ih =>
      intro hn
      rw [List.nodup_cons] at hn
      have ih2 := ih hn.2
      rw [List.filterMap_cons]
      split
      · exact ih2
      · rename_i q hq
        rw [List.map_cons, List.nodup_cons]
        refine ⟨fun hm => ?_, ih2⟩
        obtain ⟨q2, hq2, e2⟩ := List.mem_map.mp hm
        obtain ⟨k, hk, e3⟩ := List.mem_filterMap.mp hq2
        have ha : q.1 = κ.1 + a := by
          split at hq
          · cases hc : h.2.2.2 a with
            | none => rw [hc] at hq; cases hq
            | some c => rw [hc] at hq; cases hq; rfl
          · cases hq
        have hb : q2.1 = κ.1 + k := by
          split at e3
          · cases hc : h.2.2.2 k with
            | none => rw [hc] at e3; cases e3
            | some c => rw [hc] at e3; cases e3; rfl
          · cases e3
        have : k = a := by omega
        subst this
        exact hn.1 hk
  exact key _ List.nodup_range
theorem vmWs_D {κ : vmK} {h : vmH} : va_D (vmA κ) (vmWs κ h) := by
  refine ⟨fun i j p q hi hj e => ?_, fun k q hk => ?_⟩
  · have hn := vmWs_nd (κ := κ) (h := h)
    have e1 : ((vmWs κ h).map fun q => q.1)[i]? = some p.1 := by rw [List.getElem?_map, hi]; rfl
    have e2 : ((vmWs κ h).map fun q => q.1)[j]? = some q.1 := by rw [List.getElem?_map, hj]; rfl
    obtain ⟨l1, f1⟩ := List.getElem?_eq_some_iff.mp e1
    obtain ⟨l2, f2⟩ := List.getElem?_eq_some_iff.mp e2
    exact (List.getElem_inj hn).mp (by rw [f1, f2]; exact e)
  · obtain ⟨j, c, -, -, -, rfl⟩ := vmWs_mem.mp (List.mem_of_getElem? hk)
    exact Nat.le_add_right _ _
theorem vmWs_get {κ : vmK} {h : vmH} {H : Heap} (hR : vmRel κ h H) {k : Nat} {c : vmC} (h6 : k < 1000000) (hc : h.2.2.2 k = some c) : ∃ q0 : Nat, (vmWs κ h)[q0]? = some (κ.1 + k, vmLc κ c) := by
  have hm : (κ.1 + k, vmLc κ c) ∈ vmWs κ h := vmWs_mem.mpr ⟨k, c, (hR.1 k c h6 hc).1, h6, hc, rfl⟩
  exact List.getElem?_of_mem hm
/-- one own cell is written -/
theorem vmRel_set {κ : vmK} {h : vmH} {H H1 : Heap} (hR : vmRel κ h H) {k q0 : Nat} {c c' : vmC} (h6 : k < 1000000) (hc : h.2.2.2 k = some c) (hq : (vmWs κ h)[q0]? = some (κ.1 + k, vmLc κ c)) (hok : vmCok c')
    (hP : va_P κ.2.1 vwCl ((vmWs κ h).set q0 (κ.1 + k, vmLc κ c')) H1) (hz : κ.1 ≤ H1.size) : vmRel κ (vmSet h k c') H1 := by
  have hl := (List.getElem?_eq_some_iff.mp hq).1
  refine ⟨fun j cj j6 hj => ?_, fun he j hj => ?_, fun j hj => ?_, hz⟩
  rotate_left
  · by_cases e : j = k
    · exact ⟨c', by simp [vmSet, vmUp, e]⟩
    · obtain ⟨c2, hc2⟩ := hR.2.1 he j hj
      exact ⟨c2, by simpa [vmSet, vmUp, e] using hc2⟩
  rotate_left
  · by_cases e : j = k
    · subst e
      have : cj = c' := by
        simp only [vmSet, vmUp, if_true] at hj
        exact (Option.some.inj hj).symm
      subst this
      exact ⟨(hR.1 j c h6 hc).1, hP q0 _ (List.getElem?_set_self hl), hok⟩
    · have hj' : h.2.2.2 j = some cj := by simpa [vmSet, vmUp, e] using hj
      obtain ⟨a1, a2, a3⟩ := hR.1 j cj j6 hj'
      obtain ⟨q1, hq1⟩ := vmWs_get hR j6 hj'
      have hne : q0 ≠ q1 := by
        intro z
        subst z
        rw [hq] at hq1
        have := congrArg (fun x => x.1) (Option.some.inj hq1)
        simp at this
        omega
      refine ⟨a1, hP q1 _ ?_, a3⟩
      rw [List.getElem?_set_ne hne]
      exact hq1
  · have e : j ≠ k := by omega
    have := hR.2.2.1 j hj
    simpa [vmSet, vmUp, e] using this
/-- a new cell -/
theorem vmRel_add {κ : vmK} {h : vmH} {H H1 : Heap} (hR : vmRel κ h H) (hx : h.2.2.1 = true) (h6 : h.1 < 1000000) {n : Nat} {c' : vmC} (hok : vmCok c') (hs : H.size = κ.1 + h.1) (hat : va_at κ.2.1 vwCl (H.size, vmLc κ c') H1) (hz : H1.size = H.size + 1) (ho : ∀ q : Nat, q < H.size → H1[q]? = H[q]?) : vmRel κ (vmAdd h n c') H1 := by
  refine ⟨fun j cj j6 hj => ?_, fun _ j hj => ?_, fun j hj => ?_, by rw [hz]; exact Nat.le_succ_of_le hR.2.2.2⟩
  · by_cases e : j = h.1
    · subst e
      have : cj = c' := by
        simp only [vmAdd, vmUp, if_true] at hj
        exact (Option.some.inj hj).symm
      subst this
      exact ⟨Nat.lt_succ_self _, by rw [← hs]; exact hat, hok⟩
    · have hj' : h.2.2.2 j = some cj := by simpa [vmAdd, vmUp, e] using hj
      obtain ⟨a1, a2, a3⟩ := hR.1 j cj j6 hj'
      exact ⟨Nat.lt_succ_of_lt a1, a2.kept (ho _ (a2.lt)), a3⟩
  · by_cases e : j = h.1
    · exact ⟨c', by simp [vmAdd, vmUp, e]⟩
    · have hj2 : j < h.1 + 1 := hj
      obtain ⟨c2, hc2⟩ := hR.2.1 hx j (by omega)
      exact ⟨c2, by simpa [vmAdd, vmUp, e] using hc2⟩
  · have e : j ≠ h.1 := by omega
    have := hR.2.2.1 j hj
    simpa [vmAdd, vmUp, e] using this
theorem vmRel_lo {κ : vmK} {h : vmH} {H : Heap} (hR : vmRel κ h H) (hx : h.2.2.1 = true) (h6 : h.1 ≤ 1000000) : κ.1 + h.1 ≤ H.size := by
  by_cases h0 : h.1 = 0
  · rw [h0]; exact hR.2.2.2
  · obtain ⟨c, hc⟩ := hR.2.1 hx (h.1 - 1) (by omega)
    have h1 := (hR.1 (h.1 - 1) c (by omega) hc).2.1.lt
    have h2 : κ.1 + (h.1 - 1) < H.size := h1
    omega
/-- locals -/
def vmLR (κ : vmK) (nL : Nat) (L : List Value) (ls : Array Slot) : Prop := L.length = nL ∧ ls.size = nL ∧ lv_wf ls ∧ ∀ (i : Nat) (v : Value), L[i]? = some v → (∀ x, v ≠ .float x) → ls[i]? = some (.val (vmLift κ v))
def vmLp (κ : vmK) (i : Nat) (o : Option Value) : Option (Nat × Value) := match o with
  | some (.float _) => none
  | some v => some (i, vmLift κ v)
  | none => none
def vmLs (κ : vmK) (L : List Value) : List (Nat × Value) := (List.range L.length).filterMap fun i => vmLp κ i L[i]?
theorem vmLs_mem {κ : vmK} {L : List Value} {q : Nat × Value} : q ∈ vmLs κ L ↔ ∃ i v, L[i]? = some v ∧ (∀ x, v ≠ .float x) ∧ q = (i, vmLift κ v) := by
  unfold vmLs
  rw [List.mem_filterMap]
  constructor
  · rintro ⟨i, -, he⟩
    cases hv : L[i]? with
    | none => rw [hv] at he; cases he
    | some v =>
      rw [hv] at he
      cases v <;> first | (cases he; exact ⟨i, _, hv, fun x e => (by cases e), rfl⟩) | cases he
  · rintro ⟨i, v, hv, hn, rfl⟩
    refine ⟨i, List.mem_range.mpr (List.getElem?_eq_some_iff.mp hv).1, ?_⟩
    rw [hv]
    cases v <;> first | rfl | exact absurd rfl (hn _)
theorem vmLR_has {κ : vmK} {nL : Nat} {L : List Value} {ls : Array Slot} (h : vmLR κ nL L ls) : lv_has ls nL (vmLs κ L) := by
  refine ⟨h.2.1, h.2.2.1, fun q hq => ?_⟩
  obtain ⟨i, v, hv, hn, rfl⟩ := vmLs_mem.mp hq
  exact h.2.2.2 i v hv hn
