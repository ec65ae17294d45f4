/-! ===== an instruction reads the bytes behind its place alone: a window will do ===== -/
section WIN
variable {α β : Type} {cc cc' : ByteArray} {off : Nat}
def vmWin (cc cc' : ByteArray) (off : Nat) : Prop := off % 4 = 0 ∧ ∀ q (h : q < cc'.size), ∃ h2 : off + q < cc.size, cc[off + q] = cc'[q]
def vmLoc (cc cc' : ByteArray) (off : Nat) (m : Decoder α) : Prop := ∀ q r q', m cc' q = .ok (r, q') → m cc (off + q) = .ok (r, off + q')
theorem loc_pure {x : α} : vmLoc cc cc' off (pure x : Decoder α) := by
  intro q r q' h
  have h' : (Except.ok (x, q) : Except DecodeError (α × Nat)) = Except.ok (r, q') := h
  cases h'
  rfl
theorem loc_throw {e : DecodeError} : vmLoc cc cc' off (throw e : Decoder α) := by
  intro q r q' h
  have h' : (Except.error e : Except DecodeError (α × Nat)) = Except.ok (r, q') := h
  cases h'
theorem loc_bind {m : Decoder α} {f : α → Decoder β} (hm : vmLoc cc cc' off m) (hf : ∀ a, vmLoc cc cc' off (f a)) : vmLoc cc cc' off (m >>= f) := by
  intro q r q' h
  have e : ∀ (c : ByteArray) (q : Nat), (m >>= f : Decoder β) c q = (match m c q with | .ok (a, s) => f a c s | .error e => .error e) := by
    intro c q
    show Except.bind (m c q) _ = _
    cases m c q <;> rfl
  rw [e] at h ⊢
  cases hq : m cc' q with
  | error e1 => rw [hq] at h; cases h
  | ok p =>
    obtain ⟨a, s⟩ := p
    rw [hq] at h
    rw [hm q a s hq]
    exact hf a s r q' h
theorem loc_map {m : Decoder α} {f : α → β} (hm : vmLoc cc cc' off m) : vmLoc cc cc' off (f <$> m) := by
  intro q r q' h
  have e : ∀ (c : ByteArray) (q : Nat), (f <$> m : Decoder β) c q = (match m c q with | .ok (a, s) => .ok (f a, s) | .error e => .error e) := by
    intro c q
    show Except.bind (m c q) _ = _
    cases m c q <;> rfl
  rw [e] at h ⊢
  cases hq : m cc' q with
  | error e1 => rw [hq] at h; cases h
  | ok p =>
    obtain ⟨a, s⟩ := p
    rw [hq] at h
    rw [hm q a s hq]
    cases h
    rfl
theorem u1_eq (c : ByteArray) (q : Nat) : (Reader.u1 : Decoder Nat) c q = if h : q < c.size then .ok (c[q].toNat, q + 1) else .error (.truncated q) := by
  by_cases h : q < c.size
  · rw [dif_pos h]
    unfold Reader.u1
    show (dite (q < c.size) _ _ : Decoder Nat) c q = _
    rw [dif_pos h]
    rfl
  · rw [dif_neg h]
    unfold Reader.u1
    show (dite (q < c.size) _ _ : Decoder Nat) c q = _
    rw [dif_neg h]
    rfl
theorem loc_u1 (hw : vmWin cc cc' off) : vmLoc cc cc' off (Reader.u1 : Decoder Nat) := by
  intro q r q' h
  rw [u1_eq] at h ⊢
  by_cases h1 : q < cc'.size
  · rw [dif_pos h1] at h
    obtain ⟨h2, h3⟩ := hw.2 q h1
    rw [dif_pos h2, h3]
    cases h
    rfl
  · rw [dif_neg h1] at h
    cases h
theorem loc_u2 (hw : vmWin cc cc' off) : vmLoc cc cc' off (Reader.u2 : Decoder Nat) := loc_bind (loc_u1 hw) fun _ => loc_bind (loc_u1 hw) fun _ => loc_pure
theorem loc_u4 (hw : vmWin cc cc' off) : vmLoc cc cc' off (Reader.u4 : Decoder Nat) := loc_bind (loc_u2 hw) fun _ => loc_bind (loc_u2 hw) fun _ => loc_pure
theorem loc_s1 (hw : vmWin cc cc' off) : vmLoc cc cc' off (Reader.s1 : Decoder Int) := loc_map (loc_u1 hw)
theorem loc_s2 (hw : vmWin cc cc' off) : vmLoc cc cc' off (Reader.s2 : Decoder Int) := loc_map (loc_u2 hw)
theorem loc_s4 (hw : vmWin cc cc' off) : vmLoc cc cc' off (Reader.s4 : Decoder Int) := loc_map (loc_u4 hw)
theorem loc_go {m : Decoder α} (hm : vmLoc cc cc' off m) : ∀ (n : Nat) (acc : Array α), vmLoc cc cc' off (Reader.times.go m n acc)
  | 0, _ => loc_pure
  | n + 1, _ => loc_bind hm fun _ => loc_go hm n _
theorem loc_times {m : Decoder α} (hm : vmLoc cc cc' off m) (n : Nat) : vmLoc cc cc' off (Reader.times n m) := loc_go hm n _
theorem by_eq (c : ByteArray) (n q : Nat) : (Reader.bytes n : Decoder ByteArray) c q = if q + n ≤ c.size then .ok (c.extract q (q + n), q + n) else .error (.truncated c.size) := by
  by_cases h : q + n ≤ c.size
  · rw [if_pos h]
    unfold Reader.bytes
    show (ite (q + n ≤ c.size) _ _ : Decoder ByteArray) c q = _
    rw [if_pos h]
    rfl
  · rw [if_neg h]
    unfold Reader.bytes
    show (ite (q + n ≤ c.size) _ _ : Decoder ByteArray) c q = _
    rw [if_neg h]
    rfl
theorem pad_eq (c : ByteArray) (q : Nat) : (Decoder.padding : Decoder Unit) c q = if q + (4 - q % 4) % 4 ≤ c.size then .ok ((), q + (4 - q % 4) % 4) else .error (.truncated c.size) := by
  have e := by_eq c ((4 - q % 4) % 4) q
  show Except.bind ((Reader.bytes ((4 - q % 4) % 4) : Decoder ByteArray) c q) _ = _
  rw [e]
  by_cases h : q + (4 - q % 4) % 4 ≤ c.size
  · rw [if_pos h, if_pos h]; rfl
  · rw [if_neg h, if_neg h]; rfl
theorem win_size (hw : vmWin cc cc' off) (h0 : 0 < cc'.size) : off + cc'.size ≤ cc.size := by
  obtain ⟨h, _⟩ := hw.2 (cc'.size - 1) (by omega)
  omega
theorem loc_pad (hw : vmWin cc cc' off) (h0 : 0 < cc'.size) : vmLoc cc cc' off Decoder.padding := by
  intro q r q' h
  rw [pad_eq] at h ⊢
  have hs := win_size hw h0
  have ho := hw.1
  have e : (off + q) % 4 = q % 4 := by omega
  rw [e]
  by_cases h1 : q + (4 - q % 4) % 4 ≤ cc'.size
  · rw [if_pos h1] at h
    rw [if_pos (by omega)]
    cases h
    rw [Nat.add_assoc]
  · rw [if_neg h1] at h
    cases h
theorem loc_if {c : Prop} {_ : Decidable c} {m n : Decoder α} (hm : vmLoc cc cc' off m) (hn : vmLoc cc cc' off n) : vmLoc cc cc' off (if c then m else n) := by
  by_cases h : c
  · rw [if_pos h]; exact hm
  · rw [if_neg h]; exact hn
theorem loc_tsw (hw : vmWin cc cc' off) (h0 : 0 < cc'.size) (pc : Nat) : vmLoc cc cc' off (Decoder.tableswitch pc) := by
  unfold Decoder.tableswitch
  refine loc_bind (loc_pad hw h0) fun _ => loc_bind (loc_s4 hw) fun _ => loc_bind (loc_s4 hw) fun _ => loc_bind (loc_s4 hw) fun _ => ?_
  refine loc_if (loc_bind (loc_times (loc_s4 hw) _) fun _ => loc_pure) (loc_bind loc_throw fun _ => loc_bind (loc_times (loc_s4 hw) _) fun _ => loc_pure)
theorem loc_lsw (hw : vmWin cc cc' off) (h0 : 0 < cc'.size) (pc : Nat) : vmLoc cc cc' off (Decoder.lookupswitch pc) := by
  unfold Decoder.lookupswitch
  refine loc_bind (loc_pad hw h0) fun _ => loc_bind (loc_s4 hw) fun _ => loc_bind (loc_s4 hw) fun _ => ?_
  refine loc_if (loc_bind (loc_times (loc_bind (loc_s4 hw) fun _ => loc_bind (loc_s4 hw) fun _ => loc_pure) _) fun _ => loc_if loc_pure (loc_bind loc_throw fun _ => loc_pure)) (loc_bind loc_throw fun _ => loc_bind (loc_times (loc_bind (loc_s4 hw) fun _ => loc_bind (loc_s4 hw) fun _ => loc_pure) _) fun _ => loc_if loc_pure (loc_bind loc_throw fun _ => loc_pure))
theorem loc_iif (hw : vmWin cc cc' off) (pc : Nat) : vmLoc cc cc' off (Decoder.invokeinterface pc) := by
  unfold Decoder.invokeinterface
  exact loc_bind (loc_u2 hw) fun _ => loc_bind (loc_u1 hw) fun _ => loc_bind (loc_u1 hw) fun _ => loc_if loc_pure (loc_bind loc_throw fun _ => loc_pure)
theorem loc_idy (hw : vmWin cc cc' off) (pc : Nat) : vmLoc cc cc' off (Decoder.invokedynamic pc) := by
  unfold Decoder.invokedynamic
  exact loc_bind (loc_u2 hw) fun _ => loc_bind (loc_u2 hw) fun _ => loc_if loc_pure (loc_bind loc_throw fun _ => loc_pure)
theorem loc_mna (hw : vmWin cc cc' off) (pc : Nat) : vmLoc cc cc' off (Decoder.multianewarray pc) := by
  unfold Decoder.multianewarray
  exact loc_bind (loc_u2 hw) fun _ => loc_bind (loc_u1 hw) fun _ => loc_if loc_pure (loc_bind loc_throw fun _ => loc_pure)
theorem loc_nar (hw : vmWin cc cc' off) (pc : Nat) : vmLoc cc cc' off (Decoder.newarray pc) := by
  unfold Decoder.newarray
  refine loc_bind (loc_u1 hw) fun x => ?_
  split <;> first | exact loc_pure | exact loc_throw
theorem loc_wide (hw : vmWin cc cc' off) (pc : Nat) : vmLoc cc cc' off (Decoder.wide pc) := by
  unfold Decoder.wide
  refine loc_bind (loc_u1 hw) fun x => ?_
  split <;> first | exact loc_throw | exact loc_bind (loc_u2 hw) fun _ => loc_pure | exact loc_bind (loc_u2 hw) fun _ => loc_bind (loc_s2 hw) fun _ => loc_pure
set_option maxHeartbeats 4000000 in
set_option maxRecDepth 100000 in
theorem loc_instr (hw : vmWin cc cc' off) (h0 : 0 < cc'.size) (pc : Nat) : vmLoc cc cc' off (Decoder.instr pc) := by
  unfold Decoder.instr
  refine loc_bind (loc_u1 hw) fun x => ?_
  split
  all_goals first
    | exact loc_pure
    | exact loc_throw
    | exact loc_bind (loc_u1 hw) fun _ => loc_pure
    | exact loc_bind (loc_u2 hw) fun _ => loc_pure
    | exact loc_bind (loc_s1 hw) fun _ => loc_pure
    | exact loc_bind (loc_s2 hw) fun _ => loc_pure
    | exact loc_bind (loc_s4 hw) fun _ => loc_pure
    | exact loc_bind (loc_u1 hw) fun _ => loc_bind (loc_s1 hw) fun _ => loc_pure
    | exact loc_tsw hw h0 pc
    | exact loc_lsw hw h0 pc
    | exact loc_iif hw pc
    | exact loc_idy hw pc
    | exact loc_mna hw pc
    | exact loc_nar hw pc
    | exact loc_wide hw pc
/-- the instruction at a place, out of a window -/
def vmDec (cc' : ByteArray) (off pc : Nat) : Except DecodeError (Instr × Nat) := match (Decoder.instr pc).runAt cc' (pc - off) with
  | .ok (i, nx) => .ok (i, nx - (pc - off))
  | .error e => .error e
theorem vmDec_ok (hw : vmWin cc cc' off) (h0 : 0 < cc'.size) {pc : Nat} {r : Instr × Nat} (ho : off ≤ pc) (h : vmDec cc' off pc = .ok r) : decode cc pc = .ok r := by
  unfold vmDec at h
  have e : decode cc pc = (match (Decoder.instr pc).runAt cc pc with | .ok (i, nx) => .ok (i, nx - pc) | .error e => .error e) := by
    show Except.bind ((Decoder.instr pc).runAt cc pc) _ = _
    cases (Decoder.instr pc).runAt cc pc <;> rfl
  rw [e]
  cases hq : (Decoder.instr pc).runAt cc' (pc - off) with
  | error e1 => rw [hq] at h; cases h
  | ok p =>
    obtain ⟨i, nx⟩ := p
    rw [hq] at h
    have := loc_instr hw h0 pc (pc - off) i nx hq
    have h2 : (Decoder.instr pc).runAt cc pc = .ok (i, off + nx) := by
      rw [show off + (pc - off) = pc by omega] at this
      exact this
    rw [h2]
    have h3 : (Except.ok (i, nx - (pc - off)) : Except DecodeError (Instr × Nat)) = .ok r := h
    rw [← h3]
    show Except.ok (i, off + nx - pc) = Except.ok (i, nx - (pc - off))
    rw [show off + nx - pc = nx - (pc - off) by omega]
def vmTransXW (S : List vmS) (cc' : ByteArray) (off pc : Nat) (i : Instr) (len : Nat) (e : vmE) : Bool :=
  match i with
  | .new ik => decide (len = 3) && (match vmDec cc' off (pc + 3), vmDec cc' off (pc + 4), vmDec cc' off (pc + 7) with
    | .ok (.dup, 1), .ok (.invokespecial ic, 3), .ok (.athrow, 1) => (match vmFind S ik, vmFind S ic with
      | some (_, 8, _, b, _, _), some (_, 16, _, b', _, _) => decide (b = b') && decide (b < 4) && vmEq e (23, 0, 0, b, 0, [])
      | _, _ => false)
    | _, _, _ => false)
  | i => vmTransX S cc' pc i len e
theorem vmTransXW_ok (hw : vmWin cc cc' off) (h0 : 0 < cc'.size) {S : List vmS} {pc len : Nat} {i : Instr} {e : vmE} (ho : off ≤ pc) (h : vmTransXW S cc' off pc i len e = true) : vmTransX S cc pc i len e = true := by
  cases i
  case new ik =>
    simp only [vmTransXW, vmTransX] at h ⊢
    rw [Bool.and_eq_true] at h ⊢
    refine ⟨h.1, ?_⟩
    have h2 := h.2
    split at h2
    · rename_i ic e1 e2 e3
      rw [vmDec_ok hw h0 (by omega) e1, vmDec_ok hw h0 (by omega) e2, vmDec_ok hw h0 (by omega) e3]
      exact h2
    · cases h2
  all_goals exact h
def vmOkEW (S : List vmS) (own : String) (isI : Bool) (cc' : ByteArray) (off pc : Nat) (e : vmE) : Bool :=
  match vmDec cc' off pc with
  | .ok (i, len) => (match vmTrans S own isI pc i len with
    | some e' => vmEq e' e
    | none => false) || vmTransXW S cc' off pc i len e
  | .error _ => false
theorem vmOkEW_ok (hw : vmWin cc cc' off) (h0 : 0 < cc'.size) {S : List vmS} {own : String} {isI : Bool} {pc : Nat} {e : vmE} (ho : off ≤ pc) (h : vmOkEW S own isI cc' off pc e = true) : vmOkE S own isI cc pc e = true := by
  unfold vmOkEW at h
  unfold vmOkE
  cases hq : vmDec cc' off pc with
  | error e1 => rw [hq] at h; cases h
  | ok p =>
    obtain ⟨i, len⟩ := p
    rw [hq] at h
    rw [vmDec_ok hw h0 ho hq]
    dsimp only at h ⊢
    rw [Bool.or_eq_true] at h ⊢
    rcases h with h | h
    · exact Or.inl h
    · exact Or.inr (vmTransXW_ok hw h0 ho h)
def vmOkLW (S : List vmS) (own : String) (isI : Bool) (cc' : ByteArray) (off : Nat) : Nat → List (Option vmE) → Bool
  | _, [] => true
  | pc, none :: r => vmOkLW S own isI cc' off (pc + 1) r
  | pc, some e :: r => vmOkEW S own isI cc' off pc e && vmOkLW S own isI cc' off (pc + 1) r
theorem vmOkLW_ok (hw : vmWin cc cc' off) (h0 : 0 < cc'.size) {S : List vmS} {own : String} {isI : Bool} : ∀ (l : List (Option vmE)) (pc : Nat), off ≤ pc → vmOkLW S own isI cc' off pc l = true → vmOkL S own isI cc pc l = true
  | [], _, _, _ => rfl
  | none :: r, pc, ho, h => vmOkLW_ok hw h0 r (pc + 1) (by omega) h
  | some e :: r, pc, ho, h => by
    have h2 : (vmOkEW S own isI cc' off pc e && vmOkLW S own isI cc' off (pc + 1) r) = true := h
    rw [Bool.and_eq_true] at h2
    show (vmOkE S own isI cc pc e && vmOkL S own isI cc (pc + 1) r) = true
    rw [vmOkEW_ok hw h0 ho h2.1, vmOkLW_ok hw h0 r (pc + 1) (by omega) h2.2]
    rfl
theorem vmWin_l {n : Nat} (h4 : off % 4 = 0) (h : (cc.data.toList.drop off).take n = cc'.data.toList) : vmWin cc cc' off := by
  refine ⟨h4, fun q hq => ?_⟩
  have hq2 : q < cc'.data.toList.length := hq
  have e1 : cc'.data.toList[q]? = some cc'.data.toList[q] := List.getElem?_eq_getElem hq2
  obtain ⟨v, hv⟩ : ∃ v, v = cc'.data.toList[q] := ⟨_, rfl⟩
  rw [← hv] at e1
  have e2 : cc.data.toList[off + q]? = some v := by
    rw [← h, List.getElem?_take] at e1
    split at e1
    · rw [List.getElem?_drop] at e1
      exact e1
    · cases e1
  obtain ⟨h3, e3⟩ := List.getElem?_eq_some_iff.mp e2
  exact ⟨h3, e3.trans hv⟩
end WIN
