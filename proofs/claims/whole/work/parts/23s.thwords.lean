/-! ===== a throw ===== -/
def vmNs : List String := ["java/lang/RuntimeException", "java/lang/Exception"]
def vmThOk (w : Cond) : Bool := goodWord w || (match w with
  | .declares _ => true
  | .castable _ _ => true
  | _ => false)
def vmIc (x : Nat) : Nat := match x with
  | 0 => 445
  | 1 => 448
  | 2 => 451
  | _ => 418
def vmThB (w : Cond) : Bool := decide (w ∈ lw_tbl) && (vmThOk w && vx_ot w)
theorem vmTh_0 : (vx_at0 "HedgePark" (vmIc 0) (vmXn 0) vmNs).all vmThB = true := by decide +kernel
theorem vmTh_1 : (vx_at0 "HedgePark" (vmIc 1) (vmXn 1) vmNs).all vmThB = true := by decide +kernel
theorem vmTh_2 : (vx_at0 "HedgePark" (vmIc 2) (vmXn 2) vmNs).all vmThB = true := by decide +kernel
theorem vmTh_3 : (vx_at0 "HedgePark" (vmIc 3) (vmXn 3) vmNs).all vmThB = true := by decide +kernel
theorem vmTh {x : Nat} (hx : x < 4) : (vx_at0 "HedgePark" (vmIc x) (vmXn x) vmNs).all vmThB = true := by
  match x, hx with
  | 0, _ => exact vmTh_0
  | 1, _ => exact vmTh_1
  | 2, _ => exact vmTh_2
  | 3, _ => exact vmTh_3
  | n + 4, h => omega
theorem vmTh_fit {x : Nat} (hx : x < 4) : Bundle.fit (vmXn x) = true := by
  match x, hx with
  | 0, _ => decide +kernel
  | 1, _ => decide +kernel
  | 2, _ => decide +kernel
  | 3, _ => decide +kernel
  | n + 4, h => omega
theorem vm_at0 {own X o2 : String} {ic i2 : Nat} {names : List String} {w : Cond} (hw : w ∈ vx_at0 own ic X names) : w = .methodLink own ic (Bundle.init0 X) ∨ (w ∈ vx_at0 o2 i2 X names) := by
  obtain ⟨h1, h2⟩ := List.mem_filter.mp hw
  rcases List.mem_append.mp h1 with h3 | h3
  · exact Or.inr (List.mem_filter.mpr ⟨List.mem_append_left _ h3, h2⟩)
  · rcases List.mem_cons.mp h3 with h4 | h4
    · exact Or.inl h4
    · exact Or.inr (List.mem_filter.mpr ⟨List.mem_append_right _ (List.mem_cons_of_mem _ h4), h2⟩)
