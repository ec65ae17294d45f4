/-! ===== dup2, pop2, switches; any step ===== -/
section VMZ
variable {κ : vmK} {p : Program} {l : Launch} {e : Env} {R : Room} {s : State} {m : MethodId} {args : Array Value} {below : List Frame} {meth : Method} {c : Code} {Q : State → Prop} {n0 s0 : Nat} {cc : ByteArray} {own : String} {isI : Bool} {S : List vmS} {pc pc' len : Nat} {en : vmE} {L L' st st' : List Value} {h h' : vmH}
theorem vs_dup2 (hC : vmCx κ p R s m args meth c cc own isI S) (hd : decode cc pc = .ok (.dup2, len)) (ht : vmTransX S cc pc .dup2 len en = true) (hst : vmStep en L st h = some (pc', L', st', h'))
    (k : vmW κ p l e R s m args below meth c Q n0 s0 h' pc' L' st') : vmW κ p l e R s m args below meth c Q n0 s0 h pc L st := by
  obtain ⟨hx, hb, hown, hts, hex, hin, hS, hfr, hlo⟩ := hC
  simp only [vmTransX, Bool.and_eq_true, Bool.or_eq_true, decide_eq_true_eq] at ht
  obtain ⟨rfl, h1 | h1⟩ := ht
  · have := vmEq_eq h1
    subst this
    obtain ⟨st0, hz, hr⟩ := vi10 hst
    cases hr
    rcases st with _ | ⟨v, _ | ⟨w, st⟩⟩
    · simp only [vmStack, reduceCtorEq] at hz
    · simp only [vmStack, reduceCtorEq] at hz
    · simp only [vmStack] at hz
      split at hz
      · rename_i hv
        cases hz
        intro H locs ls hL hR hS2
        exact lv_dup2_11 hx hb hd ((vmLift_cat (vmEX_zv hex) v).trans hv.1) ((vmLift_cat (vmEX_zv hex) w).trans hv.2) (k H locs ls hL hR hS2)
      · cases hz
  · have := vmEq_eq h1
    subst this
    obtain ⟨st0, hz, hr⟩ := vi10 hst
    cases hr
    rcases st with _ | ⟨v, st⟩
    · simp only [vmStack, reduceCtorEq] at hz
    · cases v <;> simp only [vmStack, reduceCtorEq, Option.some.injEq] at hz
      subst hz
      intro H locs ls hL hR hS2
      exact lv_dup2_2 hx hb hd rfl (k H locs ls hL hR hS2)
theorem vs_pop2 (hC : vmCx κ p R s m args meth c cc own isI S) (hd : decode cc pc = .ok (.pop2, len)) (ht : vmTransX S cc pc .pop2 len en = true) (hst : vmStep en L st h = some (pc', L', st', h'))
    (k : vmW κ p l e R s m args below meth c Q n0 s0 h' pc' L' st') : vmW κ p l e R s m args below meth c Q n0 s0 h pc L st := by
  obtain ⟨hx, hb, hown, hts, hex, hin, hS, hfr, hlo⟩ := hC
  simp only [vmTransX, Bool.and_eq_true, Bool.or_eq_true, decide_eq_true_eq] at ht
  obtain ⟨rfl, h1⟩ := ht
  have := vmEq_eq h1
  subst this
  obtain ⟨st0, hz, hr⟩ := vi10 hst
  cases hr
  rcases st with _ | ⟨v, st⟩
  · simp only [vmStack, reduceCtorEq] at hz
  · cases v <;> simp only [vmStack, reduceCtorEq, Option.some.injEq] at hz
    subst hz
    intro H locs ls hL hR hS2
    exact lv_pop2_2 hx hb hd rfl (k H locs ls hL hR hS2)
theorem vmSw_out {pc dflt : Nat} : ∀ (offs : List Int) (lo x : Int), x < lo ∨ lo + (offs.length : Int) - 1 < x → vmSwitch (vmSw pc lo offs) dflt x = dflt := by
  intro offs
  induction offs with
  | nil => intro lo x _; rfl
  | cons o r ih =>
    intro lo x hx
    show (if x = lo then _ else _) = _
    have hl : ((o :: r).length : Int) = (r.length : Int) + 1 := by simp
    rw [hl] at hx
    have h0 : (0 : Int) ≤ (r.length : Int) := by omega
    rw [if_neg (by omega)]
    exact ih (lo + 1) x (by omega)
theorem vmSw_in {pc dflt : Nat} : ∀ (offs : List Int) (lo x : Int) (i : Nat) (o : Int), x = lo + (i : Int) → offs[i]? = some o → vmSwitch (vmSw pc lo offs) dflt x = ((pc : Int) + o).toNat := by
  intro offs
  induction offs with
  | nil => intro lo x i o _ h; simp at h
  | cons o1 r ih =>
    intro lo x i o hx ho
    show (if x = lo then _ else _) = _
    cases i with
    | zero =>
      rw [if_pos (by omega)]
      simp at ho
      rw [ho]
    | succ i =>
      rw [if_neg (by omega)]
      exact ih (lo + 1) x i o (by omega) (by simpa using ho)
theorem vs_tableswitch (hC : vmCx κ p R s m args meth c cc own isI S) {dflt lo hi : Int} {offs : Array Int} (hd : decode cc pc = .ok (.tableswitch dflt lo hi offs, len)) (ht : vmTransX S cc pc (.tableswitch dflt lo hi offs) len en = true) (hst : vmStep en L st h = some (pc', L', st', h'))
    (k : vmW κ p l e R s m args below meth c Q n0 s0 h' pc' L' st') : vmW κ p l e R s m args below meth c Q n0 s0 h pc L st := by
  obtain ⟨hx, hb, hown, hts, hex, hin, hS, hfr, hlo⟩ := hC
  simp only [vmTransX, Bool.and_eq_true, decide_eq_true_eq, List.all_eq_true] at ht
  obtain ⟨⟨⟨e1, e2⟩, e3⟩, e4⟩ := ht
  have := vmEq_eq e4
  subst this
  obtain ⟨x, st0, rfl, hr⟩ := vi14 hst
  cases hr
  intro H locs ls hL hR hS2
  have k2 := k H locs ls hL hR hS2
  have hlen : (offs.toList.length : Int) = (offs.size : Int) := by simp
  by_cases ho : x.toInt < lo ∨ hi < x.toInt
  · rw [vmSw_out offs.toList lo x.toInt (by rw [hlen]; omega)] at k2
    exact lv_tableOut hx hb hd ho (Int.toNat_of_nonneg e3).symm k2
  · have h1 : ¬ x.toInt < lo := fun z => ho (Or.inl z)
    have h2 : ¬ hi < x.toInt := fun z => ho (Or.inr z)
    have hlt : (x.toInt - lo).toNat < offs.size := by omega
    have hg : offs[(x.toInt - lo).toNat]? = some offs[(x.toInt - lo).toNat] := Array.getElem?_eq_getElem hlt
    have hgl : offs.toList[(x.toInt - lo).toNat]? = some offs[(x.toInt - lo).toNat] := by rw [Array.getElem?_toList]; exact hg
    rw [vmSw_in offs.toList lo x.toInt (x.toInt - lo).toNat _ (by omega) hgl] at k2
    exact lv_tableIn hx hb hd h1 h2 hg (Int.toNat_of_nonneg (e2 _ (List.mem_of_getElem? hgl))).symm k2
theorem vmSwP_eq {pc : Nat} {dflt : Int} : ∀ (ps : List (Int × Int)) (x : Int), vmSwitch (vmSwP pc ps) ((pc : Int) + dflt).toNat x = ((pc : Int) + Op.lookupswitch.offset ps dflt x).toNat := by
  intro ps
  induction ps with
  | nil => intro x; rfl
  | cons q r ih =>
    intro x
    obtain ⟨k, o⟩ := q
    show (if x = k then _ else _) = _
    by_cases hk : x = k
    · rw [if_pos hk]
      subst hk
      simp [Op.lookupswitch.offset]
    · rw [if_neg hk, ih]
      simp [Op.lookupswitch.offset, Ne.symm hk, hk]
theorem vs_lookupswitch (hC : vmCx κ p R s m args meth c cc own isI S) {dflt : Int} {ps : Array (Int × Int)} (hd : decode cc pc = .ok (.lookupswitch dflt ps, len)) (ht : vmTransX S cc pc (.lookupswitch dflt ps) len en = true) (hst : vmStep en L st h = some (pc', L', st', h'))
    (k : vmW κ p l e R s m args below meth c Q n0 s0 h' pc' L' st') : vmW κ p l e R s m args below meth c Q n0 s0 h pc L st := by
  obtain ⟨hx, hb, hown, hts, hex, hin, hS, hfr, hlo⟩ := hC
  simp only [vmTransX, Bool.and_eq_true, decide_eq_true_eq] at ht
  obtain ⟨⟨⟨e1, e2⟩, e3⟩, e4⟩ := ht
  have := vmEq_eq e4
  subst this
  obtain ⟨x, st0, rfl, hr⟩ := vi14 hst
  cases hr
  intro H locs ls hL hR hS2
  have k2 := k H locs ls hL hR hS2
  rw [vmSwP_eq] at k2
  have hpos : 0 ≤ (pc : Int) + Op.lookupswitch.offset ps.toList dflt x.toInt := by
    have e2' : ∀ q ∈ ps.toList, 0 ≤ (pc : Int) + q.2 := fun q hq => of_decide_eq_true (List.all_eq_true.mp e2 q hq)
    clear e1 e2 e4 hst hd k k2
    generalize ps.toList = l at e2'
    induction l with
    | nil => exact e3
    | cons q r ih =>
      obtain ⟨k, o⟩ := q
      have ih2 := ih (fun z hz => e2' z (List.mem_cons_of_mem _ hz))
      have h1 := e2' (k, o) List.mem_cons_self
      by_cases hk : k = x.toInt
      · simp [Op.lookupswitch.offset, hk]; exact h1
      · simpa [Op.lookupswitch.offset, hk] using ih2
  exact lv_lookup hx hb hd e1 rfl (Int.toNat_of_nonneg hpos).symm k2
end VMZ
