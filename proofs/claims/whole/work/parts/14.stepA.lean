/-! ===== one step of the machine, for one of the abstract one: entries made by vmTrans, without the heap ===== -/
section VMT
abbrev vmW (κ : vmK) (p : Program) (l : Launch) (e : Env) (R : Room) (s : State) (m : MethodId) (args : Array Value) (below : List Frame) (meth : Method) (c : Code) (Q : State → Prop) (n0 s0 : Nat) (h : vmH) (pc : Nat) (L st : List Value) : Prop :=
  ∀ (H : Heap) (locs : List Loc) (ls : Array Slot), vmLR κ c.maxLocals L ls → vmRel κ h H → va_S (vmA κ) s.heap H locs → W p l e R s m args below meth c H locs (h.1 - n0) (h.2.1 - s0) Q (F0 m pc ls (st.map (vmLift κ)))
def vmCx (κ : vmK) (p : Program) (R : Room) (s : State) (m : MethodId) (args : Array Value) (meth : Method) (c : Code) (cc : ByteArray) (own : String) (isI : Bool) (S : List vmS) : Prop :=
  p.tables.exec = Jvm.exec ∧ c.code = cc ∧ s.vm.findClass own = some m.cls ∧ (∀ w ∈ vmTB, w.before args s = true) ∧ vmEX κ s ∧ (isI = true → meth.name = "<init>") ∧ S.all (vmSOk own) = true ∧ 1 ≤ R.frames ∧ 64 ≤ R.locals
variable {κ : vmK} {p : Program} {l : Launch} {e : Env} {R : Room} {s : State} {m : MethodId} {args : Array Value} {below : List Frame} {meth : Method} {c : Code} {Q : State → Prop} {n0 s0 : Nat} {cc : ByteArray} {own : String} {isI : Bool} {S : List vmS} {pc pc' len : Nat} {en : vmE} {L L' st st' : List Value} {h h' : vmH}
theorem vmEX_zv {U : State} (h : vmEX κ U) : vmZv κ := h.2.2.2.2.2.2.2.2.2.2.2.2.2.2.1
theorem vmTgt_eq {o : Int} {t : Nat} (h : vmTgt pc o = some t) : (pc : Int) + o = (t : Int) := by
  unfold vmTgt at h
  split at h
  · rename_i h1
    cases h
    exact (Int.toNat_of_nonneg h1).symm
  · cases h
theorem vm_ldcw {own tx : String} {index q : Nat} {H : Heap} {locs : List Loc} {cells slots : Nat} {ls : Array Slot} {rest : List Value} (hexec : p.tables.exec = Jvm.exec) (hb : c.code = cc) (hown : s.vm.findClass own = some m.cls) (hZ : vk_R own index tx q s) (hdg : decode cc pc = .ok (.ldc_w index, 3))
    (k : W p l e R s m args below meth c H locs cells slots Q (F0 m (pc + 3) ls (.ref q :: rest))) : W p l e R s m args below meth c H locs cells slots Q (F0 m pc ls rest) := by
  intro T hT X
  obtain ⟨t, a1, b1⟩ := k T hT X
  obtain ⟨k, cf, i, a', hk, hcf, hcp, -, hr, hev'⟩ := Cond.stringRef_spec hown hZ.1
  cases hZ.2.symm.trans hev'
  obtain ⟨k', hk', he⟩ := X.warmed.alike.2.2 _ _ hk
  have hr' : k'.resolved[index]? = some (some (.string q)) := by
    rcases X.warmed.entry hk hk' index with h | ⟨h, -⟩
    · rw [h]; exact hr
    · rw [hr] at h; cases h
  refine ⟨t, ?_, b1⟩
  jvm_step X.here [hexec, hb, hdg, ldc_w.wp_string (e := e) (s := T) (f := F0 m pc ls rest) X.here.top hk' (by rw [he]; exact hcf) hcp hr']
  exact a1
theorem vs_iconst (hC : vmCx κ p R s m args meth c cc own isI S) {n : Int} (hd : decode cc pc = .ok (.iconst n, len)) (ht : vmTrans S own isI pc (.iconst n) len = some en) (hst : vmStep en L st h = some (pc', L', st', h'))
    (k : vmW κ p l e R s m args below meth c Q n0 s0 h' pc' L' st') : vmW κ p l e R s m args below meth c Q n0 s0 h pc L st := by
  obtain ⟨hx, hb, hown, hts, hex, hin, hS, hfr, hlo⟩ := hC
  simp only [vmTrans] at ht
  split at ht
  · rename_i hl
    subst hl
    cases ht
    have hr := vi0 hst
    cases hr
    intro H locs ls hL hR hS2
    exact lv_iconst hx hb hd rfl (k H locs ls hL hR hS2)
  · cases ht
theorem vs_bipush (hC : vmCx κ p R s m args meth c cc own isI S) {n : Int} (hd : decode cc pc = .ok (.bipush n, len)) (ht : vmTrans S own isI pc (.bipush n) len = some en) (hst : vmStep en L st h = some (pc', L', st', h'))
    (k : vmW κ p l e R s m args below meth c Q n0 s0 h' pc' L' st') : vmW κ p l e R s m args below meth c Q n0 s0 h pc L st := by
  obtain ⟨hx, hb, hown, hts, hex, hin, hS, hfr, hlo⟩ := hC
  simp only [vmTrans] at ht
  split at ht
  · rename_i hl
    obtain ⟨rfl, hl2⟩ := hl
    cases ht
    have hr := vi0 hst
    cases hr
    intro H locs ls hL hR hS2
    exact lv_bipush hx hb hd hl2 (k H locs ls hL hR hS2)
  · cases ht
theorem vs_sipush (hC : vmCx κ p R s m args meth c cc own isI S) {n : Int} (hd : decode cc pc = .ok (.sipush n, len)) (ht : vmTrans S own isI pc (.sipush n) len = some en) (hst : vmStep en L st h = some (pc', L', st', h'))
    (k : vmW κ p l e R s m args below meth c Q n0 s0 h' pc' L' st') : vmW κ p l e R s m args below meth c Q n0 s0 h pc L st := by
  obtain ⟨hx, hb, hown, hts, hex, hin, hS, hfr, hlo⟩ := hC
  simp only [vmTrans] at ht
  split at ht
  · rename_i hl
    obtain ⟨rfl, hl2⟩ := hl
    cases ht
    have hr := vi0 hst
    cases hr
    intro H locs ls hL hR hS2
    exact lv_sipush hx hb hd hl2 (k H locs ls hL hR hS2)
  · cases ht
theorem vs_lconst (hC : vmCx κ p R s m args meth c cc own isI S) {n : Fin 2} (hd : decode cc pc = .ok (.lconst n, len)) (ht : vmTrans S own isI pc (.lconst n) len = some en) (hst : vmStep en L st h = some (pc', L', st', h'))
    (k : vmW κ p l e R s m args below meth c Q n0 s0 h' pc' L' st') : vmW κ p l e R s m args below meth c Q n0 s0 h pc L st := by
  obtain ⟨hx, hb, hown, hts, hex, hin, hS, hfr, hlo⟩ := hC
  simp only [vmTrans] at ht
  split at ht
  · rename_i hl
    subst hl
    cases ht
    have hr := vi1 hst
    cases hr
    intro H locs ls hL hR hS2
    exact lv_lconst hx hb hd (v := Int64.ofInt (n.val : Int)) (Int64.ofInt_eq_ofNat).symm (k H locs ls hL hR hS2)
  · cases ht
theorem vs_iload (hC : vmCx κ p R s m args meth c cc own isI S) {n : Nat} (hd : decode cc pc = .ok (.iload n, len)) (ht : vmTrans S own isI pc (.iload n) len = some en) (hst : vmStep en L st h = some (pc', L', st', h'))
    (k : vmW κ p l e R s m args below meth c Q n0 s0 h' pc' L' st') : vmW κ p l e R s m args below meth c Q n0 s0 h pc L st := by
  obtain ⟨hx, hb, hown, hts, hex, hin, hS, hfr, hlo⟩ := hC
  simp only [vmTrans] at ht
  split at ht
  · rename_i hl
    subst hl
    cases ht
    obtain ⟨v, hv, hk, hr⟩ := vi2 hst
    cases hr
    cases v <;> simp only [vmKind, Bool.false_eq_true] at hk
    intro H locs ls hL hR hS2
    exact lv_iload hx hb hd (hL.2.2.2 _ _ hv (by intro x e; cases e)) (k H locs ls hL hR hS2)
  · cases ht
theorem vs_istore (hC : vmCx κ p R s m args meth c cc own isI S) {n : Nat} (hd : decode cc pc = .ok (.istore n, len)) (ht : vmTrans S own isI pc (.istore n) len = some en) (hst : vmStep en L st h = some (pc', L', st', h'))
    (k : vmW κ p l e R s m args below meth c Q n0 s0 h' pc' L' st') : vmW κ p l e R s m args below meth c Q n0 s0 h pc L st := by
  obtain ⟨hx, hb, hown, hts, hex, hin, hS, hfr, hlo⟩ := hC
  simp only [vmTrans] at ht
  split at ht
  · rename_i hl
    subst hl
    cases ht
    obtain ⟨v, st0, rfl, hk, hr⟩ := vi3 hst
    rcases hr with ⟨h1, -, -⟩ | ⟨-, hi, hr⟩
    · cases h1
    · cases hr
      cases v <;> simp only [vmKind, Bool.false_eq_true] at hk
      intro H locs ls hL hR hS2
      exact lv_istore hx hb hd (vmLR_has hL) (by rw [← hL.1]; exact hi) rfl (fun ls' h' => k H locs ls' (vmLR_put (vmEX_zv hex) hL hi rfl h') hR hS2)
  · cases ht
theorem vs_iload_n (hC : vmCx κ p R s m args meth c cc own isI S) {n : Fin 4} (hd : decode cc pc = .ok (.iload_n n, len)) (ht : vmTrans S own isI pc (.iload_n n) len = some en) (hst : vmStep en L st h = some (pc', L', st', h'))
    (k : vmW κ p l e R s m args below meth c Q n0 s0 h' pc' L' st') : vmW κ p l e R s m args below meth c Q n0 s0 h pc L st := by
  obtain ⟨hx, hb, hown, hts, hex, hin, hS, hfr, hlo⟩ := hC
  simp only [vmTrans] at ht
  split at ht
  · rename_i hl
    subst hl
    cases ht
    obtain ⟨v, hv, hk, hr⟩ := vi2 hst
    cases hr
    cases v <;> simp only [vmKind, Bool.false_eq_true] at hk
    intro H locs ls hL hR hS2
    exact lv_iload_n hx hb hd rfl (hL.2.2.2 _ _ hv (by intro x e; cases e)) (k H locs ls hL hR hS2)
  · cases ht
theorem vs_istore_n (hC : vmCx κ p R s m args meth c cc own isI S) {n : Fin 4} (hd : decode cc pc = .ok (.istore_n n, len)) (ht : vmTrans S own isI pc (.istore_n n) len = some en) (hst : vmStep en L st h = some (pc', L', st', h'))
    (k : vmW κ p l e R s m args below meth c Q n0 s0 h' pc' L' st') : vmW κ p l e R s m args below meth c Q n0 s0 h pc L st := by
  obtain ⟨hx, hb, hown, hts, hex, hin, hS, hfr, hlo⟩ := hC
  simp only [vmTrans] at ht
  split at ht
  · rename_i hl
    subst hl
    cases ht
    obtain ⟨v, st0, rfl, hk, hr⟩ := vi3 hst
    rcases hr with ⟨h1, -, -⟩ | ⟨-, hi, hr⟩
    · cases h1
    · cases hr
      cases v <;> simp only [vmKind, Bool.false_eq_true] at hk
      intro H locs ls hL hR hS2
      exact lv_istore_n hx hb hd rfl (vmLR_has hL) (by rw [← hL.1]; exact hi) rfl (fun ls' h' => k H locs ls' (vmLR_put (vmEX_zv hex) hL hi rfl h') hR hS2)
  · cases ht
theorem vs_lload (hC : vmCx κ p R s m args meth c cc own isI S) {n : Nat} (hd : decode cc pc = .ok (.lload n, len)) (ht : vmTrans S own isI pc (.lload n) len = some en) (hst : vmStep en L st h = some (pc', L', st', h'))
    (k : vmW κ p l e R s m args below meth c Q n0 s0 h' pc' L' st') : vmW κ p l e R s m args below meth c Q n0 s0 h pc L st := by
  obtain ⟨hx, hb, hown, hts, hex, hin, hS, hfr, hlo⟩ := hC
  simp only [vmTrans] at ht
  split at ht
  · rename_i hl
    subst hl
    cases ht
    obtain ⟨v, hv, hk, hr⟩ := vi2 hst
    cases hr
    cases v <;> simp only [vmKind, Bool.false_eq_true] at hk
    intro H locs ls hL hR hS2
    exact lv_lload hx hb hd (hL.2.2.2 _ _ hv (by intro x e; cases e)) (k H locs ls hL hR hS2)
  · cases ht
theorem vs_lstore (hC : vmCx κ p R s m args meth c cc own isI S) {n : Nat} (hd : decode cc pc = .ok (.lstore n, len)) (ht : vmTrans S own isI pc (.lstore n) len = some en) (hst : vmStep en L st h = some (pc', L', st', h'))
    (k : vmW κ p l e R s m args below meth c Q n0 s0 h' pc' L' st') : vmW κ p l e R s m args below meth c Q n0 s0 h pc L st := by
  obtain ⟨hx, hb, hown, hts, hex, hin, hS, hfr, hlo⟩ := hC
  simp only [vmTrans] at ht
  split at ht
  · rename_i hl
    subst hl
    cases ht
    obtain ⟨v, st0, rfl, hk, hr⟩ := vi3 hst
    rcases hr with ⟨-, hi, hr⟩ | ⟨h1, -, -⟩
    · cases hr
      cases v <;> simp only [vmKind, Bool.false_eq_true] at hk
      intro H locs ls hL hR hS2
      exact lv_lstore hx hb hd (vmLR_has hL) (by rw [← hL.1]; exact hi) rfl (fun ls' h' => k H locs ls' (vmLR_put2 (vmEX_zv hex) hL hi rfl h') hR hS2)
    · exact absurd rfl h1
  · cases ht
theorem vs_lload_n (hC : vmCx κ p R s m args meth c cc own isI S) {n : Fin 4} (hd : decode cc pc = .ok (.lload_n n, len)) (ht : vmTrans S own isI pc (.lload_n n) len = some en) (hst : vmStep en L st h = some (pc', L', st', h'))
    (k : vmW κ p l e R s m args below meth c Q n0 s0 h' pc' L' st') : vmW κ p l e R s m args below meth c Q n0 s0 h pc L st := by
  obtain ⟨hx, hb, hown, hts, hex, hin, hS, hfr, hlo⟩ := hC
  simp only [vmTrans] at ht
  split at ht
  · rename_i hl
    subst hl
    cases ht
    obtain ⟨v, hv, hk, hr⟩ := vi2 hst
    cases hr
    cases v <;> simp only [vmKind, Bool.false_eq_true] at hk
    intro H locs ls hL hR hS2
    exact lv_lload_n hx hb hd rfl (hL.2.2.2 _ _ hv (by intro x e; cases e)) (k H locs ls hL hR hS2)
  · cases ht
theorem vs_lstore_n (hC : vmCx κ p R s m args meth c cc own isI S) {n : Fin 4} (hd : decode cc pc = .ok (.lstore_n n, len)) (ht : vmTrans S own isI pc (.lstore_n n) len = some en) (hst : vmStep en L st h = some (pc', L', st', h'))
    (k : vmW κ p l e R s m args below meth c Q n0 s0 h' pc' L' st') : vmW κ p l e R s m args below meth c Q n0 s0 h pc L st := by
  obtain ⟨hx, hb, hown, hts, hex, hin, hS, hfr, hlo⟩ := hC
  simp only [vmTrans] at ht
  split at ht
  · rename_i hl
    subst hl
    cases ht
    obtain ⟨v, st0, rfl, hk, hr⟩ := vi3 hst
    rcases hr with ⟨-, hi, hr⟩ | ⟨h1, -, -⟩
    · cases hr
      cases v <;> simp only [vmKind, Bool.false_eq_true] at hk
      intro H locs ls hL hR hS2
      exact lv_lstore_n hx hb hd rfl (vmLR_has hL) (by rw [← hL.1]; exact hi) rfl (fun ls' h' => k H locs ls' (vmLR_put2 (vmEX_zv hex) hL hi rfl h') hR hS2)
    · exact absurd rfl h1
  · cases ht
theorem vs_aload (hC : vmCx κ p R s m args meth c cc own isI S) {n : Nat} (hd : decode cc pc = .ok (.aload n, len)) (ht : vmTrans S own isI pc (.aload n) len = some en) (hst : vmStep en L st h = some (pc', L', st', h'))
    (k : vmW κ p l e R s m args below meth c Q n0 s0 h' pc' L' st') : vmW κ p l e R s m args below meth c Q n0 s0 h pc L st := by
  obtain ⟨hx, hb, hown, hts, hex, hin, hS, hfr, hlo⟩ := hC
  simp only [vmTrans] at ht
  split at ht
  · rename_i hl
    subst hl
    cases ht
    obtain ⟨v, hv, hk, hr⟩ := vi2 hst
    cases hr
    cases v <;> simp only [vmKind, Bool.false_eq_true] at hk
    rename_i r
    have hr3 : r < 3000000 := Nat.le_of_ble_eq_true hk
    intro H locs ls hL hR hS2
    exact lv_aload hx hb hd (x := vmAd κ r) ((hL.2.2.2 _ _ hv (by intro x e; cases e)).trans (by rw [vmLift_ref hr3])) (by have := k H locs ls hL hR hS2; rw [List.map_cons, vmLift_ref hr3] at this; exact this)
  · cases ht
theorem vs_astore (hC : vmCx κ p R s m args meth c cc own isI S) {n : Nat} (hd : decode cc pc = .ok (.astore n, len)) (ht : vmTrans S own isI pc (.astore n) len = some en) (hst : vmStep en L st h = some (pc', L', st', h'))
    (k : vmW κ p l e R s m args below meth c Q n0 s0 h' pc' L' st') : vmW κ p l e R s m args below meth c Q n0 s0 h pc L st := by
  obtain ⟨hx, hb, hown, hts, hex, hin, hS, hfr, hlo⟩ := hC
  simp only [vmTrans] at ht
  split at ht
  · rename_i hl
    subst hl
    cases ht
    obtain ⟨v, st0, rfl, hk, hr⟩ := vi3 hst
    rcases hr with ⟨h1, -, -⟩ | ⟨-, hi, hr⟩
    · cases h1
    · cases hr
      cases v <;> simp only [vmKind, Bool.false_eq_true] at hk
      rename_i r
      have hr3 : r < 3000000 := Nat.le_of_ble_eq_true hk
      intro H locs ls hL hR hS2
      rw [List.map_cons, vmLift_ref hr3]
      exact lv_astore hx hb hd (vmLR_has hL) (by rw [← hL.1]; exact hi) rfl (fun ls' h' => k H locs ls' (vmLR_put (vmEX_zv hex) hL hi (vmLift_ref hr3) h') hR hS2)
  · cases ht
theorem vs_aload_n (hC : vmCx κ p R s m args meth c cc own isI S) {n : Fin 4} (hd : decode cc pc = .ok (.aload_n n, len)) (ht : vmTrans S own isI pc (.aload_n n) len = some en) (hst : vmStep en L st h = some (pc', L', st', h'))
    (k : vmW κ p l e R s m args below meth c Q n0 s0 h' pc' L' st') : vmW κ p l e R s m args below meth c Q n0 s0 h pc L st := by
  obtain ⟨hx, hb, hown, hts, hex, hin, hS, hfr, hlo⟩ := hC
  simp only [vmTrans] at ht
  split at ht
  · rename_i hl
    subst hl
    cases ht
    obtain ⟨v, hv, hk, hr⟩ := vi2 hst
    cases hr
    cases v <;> simp only [vmKind, Bool.false_eq_true] at hk
    rename_i r
    have hr3 : r < 3000000 := Nat.le_of_ble_eq_true hk
    intro H locs ls hL hR hS2
    exact lv_aload_n hx hb hd rfl (x := vmAd κ r) ((hL.2.2.2 _ _ hv (by intro x e; cases e)).trans (by rw [vmLift_ref hr3])) (by have := k H locs ls hL hR hS2; rw [List.map_cons, vmLift_ref hr3] at this; exact this)
  · cases ht
theorem vs_astore_n (hC : vmCx κ p R s m args meth c cc own isI S) {n : Fin 4} (hd : decode cc pc = .ok (.astore_n n, len)) (ht : vmTrans S own isI pc (.astore_n n) len = some en) (hst : vmStep en L st h = some (pc', L', st', h'))
    (k : vmW κ p l e R s m args below meth c Q n0 s0 h' pc' L' st') : vmW κ p l e R s m args below meth c Q n0 s0 h pc L st := by
  obtain ⟨hx, hb, hown, hts, hex, hin, hS, hfr, hlo⟩ := hC
  simp only [vmTrans] at ht
  split at ht
  · rename_i hl
    subst hl
    cases ht
    obtain ⟨v, st0, rfl, hk, hr⟩ := vi3 hst
    rcases hr with ⟨h1, -, -⟩ | ⟨-, hi, hr⟩
    · cases h1
    · cases hr
      cases v <;> simp only [vmKind, Bool.false_eq_true] at hk
      rename_i r
      have hr3 : r < 3000000 := Nat.le_of_ble_eq_true hk
      intro H locs ls hL hR hS2
      rw [List.map_cons, vmLift_ref hr3]
      exact lv_astore_n hx hb hd rfl (vmLR_has hL) (by rw [← hL.1]; exact hi) rfl (fun ls' h' => k H locs ls' (vmLR_put (vmEX_zv hex) hL hi (vmLift_ref hr3) h') hR hS2)
  · cases ht
theorem vs_iinc (hC : vmCx κ p R s m args meth c cc own isI S) {n : Nat} {a : Int} (hd : decode cc pc = .ok (.iinc n a, len)) (ht : vmTrans S own isI pc (.iinc n a) len = some en) (hst : vmStep en L st h = some (pc', L', st', h'))
    (k : vmW κ p l e R s m args below meth c Q n0 s0 h' pc' L' st') : vmW κ p l e R s m args below meth c Q n0 s0 h pc L st := by
  obtain ⟨hx, hb, hown, hts, hex, hin, hS, hfr, hlo⟩ := hC
  simp only [vmTrans] at ht
  split at ht
  · rename_i hl
    subst hl
    cases ht
    obtain ⟨x, hv, hr⟩ := vi4 hst
    cases hr
    intro H locs ls hL hR hS2
    obtain ⟨q, hq⟩ := List.getElem?_of_mem (vmLs_mem (κ := κ).mpr ⟨n, .int x, hv, (by intro x e; cases e), rfl⟩)
    have hi : n < L.length := (List.getElem?_eq_some_iff.mp hv).1
    exact lv_iinc hx hb hd (vmLR_has hL) hq rfl (by rw [← hL.1]; exact hi) rfl (fun ls' h' => k H locs ls' (vmLR_put (vmEX_zv hex) hL hi rfl h') hR hS2)
  · cases ht
theorem vs_iadd (hC : vmCx κ p R s m args meth c cc own isI S) (hd : decode cc pc = .ok (.iadd, len)) (ht : vmTrans S own isI pc (.iadd) len = some en) (hst : vmStep en L st h = some (pc', L', st', h'))
    (k : vmW κ p l e R s m args below meth c Q n0 s0 h' pc' L' st') : vmW κ p l e R s m args below meth c Q n0 s0 h pc L st := by
  obtain ⟨hx, hb, hown, hts, hex, hin, hS, hfr, hlo⟩ := hC
  simp only [vmTrans] at ht
  split at ht
  · rename_i hl
    subst hl
    cases ht
    obtain ⟨x, y, z, st0, rfl, hz, hr⟩ := vi5 hst
    cases hr
    simp only [vmBin, Option.some.injEq] at hz
    subst hz
    intro H locs ls hL hR hS2
    exact lv_iadd hx hb hd (k H locs ls hL hR hS2)
  · cases ht
theorem vs_isub (hC : vmCx κ p R s m args meth c cc own isI S) (hd : decode cc pc = .ok (.isub, len)) (ht : vmTrans S own isI pc (.isub) len = some en) (hst : vmStep en L st h = some (pc', L', st', h'))
    (k : vmW κ p l e R s m args below meth c Q n0 s0 h' pc' L' st') : vmW κ p l e R s m args below meth c Q n0 s0 h pc L st := by
  obtain ⟨hx, hb, hown, hts, hex, hin, hS, hfr, hlo⟩ := hC
  simp only [vmTrans] at ht
  split at ht
  · rename_i hl
    subst hl
    cases ht
    obtain ⟨x, y, z, st0, rfl, hz, hr⟩ := vi5 hst
    cases hr
    simp only [vmBin, Option.some.injEq] at hz
    subst hz
    intro H locs ls hL hR hS2
    exact lv_isub hx hb hd (k H locs ls hL hR hS2)
  · cases ht
theorem vs_imul (hC : vmCx κ p R s m args meth c cc own isI S) (hd : decode cc pc = .ok (.imul, len)) (ht : vmTrans S own isI pc (.imul) len = some en) (hst : vmStep en L st h = some (pc', L', st', h'))
    (k : vmW κ p l e R s m args below meth c Q n0 s0 h' pc' L' st') : vmW κ p l e R s m args below meth c Q n0 s0 h pc L st := by
  obtain ⟨hx, hb, hown, hts, hex, hin, hS, hfr, hlo⟩ := hC
  simp only [vmTrans] at ht
  split at ht
  · rename_i hl
    subst hl
    cases ht
    obtain ⟨x, y, z, st0, rfl, hz, hr⟩ := vi5 hst
    cases hr
    simp only [vmBin, Option.some.injEq] at hz
    subst hz
    intro H locs ls hL hR hS2
    exact lv_imul hx hb hd (k H locs ls hL hR hS2)
  · cases ht
theorem vs_iand (hC : vmCx κ p R s m args meth c cc own isI S) (hd : decode cc pc = .ok (.iand, len)) (ht : vmTrans S own isI pc (.iand) len = some en) (hst : vmStep en L st h = some (pc', L', st', h'))
    (k : vmW κ p l e R s m args below meth c Q n0 s0 h' pc' L' st') : vmW κ p l e R s m args below meth c Q n0 s0 h pc L st := by
  obtain ⟨hx, hb, hown, hts, hex, hin, hS, hfr, hlo⟩ := hC
  simp only [vmTrans] at ht
  split at ht
  · rename_i hl
    subst hl
    cases ht
    obtain ⟨x, y, z, st0, rfl, hz, hr⟩ := vi5 hst
    cases hr
    simp only [vmBin, Option.some.injEq] at hz
    subst hz
    intro H locs ls hL hR hS2
    exact lv_iand hx hb hd (k H locs ls hL hR hS2)
  · cases ht
theorem vs_ior (hC : vmCx κ p R s m args meth c cc own isI S) (hd : decode cc pc = .ok (.ior, len)) (ht : vmTrans S own isI pc (.ior) len = some en) (hst : vmStep en L st h = some (pc', L', st', h'))
    (k : vmW κ p l e R s m args below meth c Q n0 s0 h' pc' L' st') : vmW κ p l e R s m args below meth c Q n0 s0 h pc L st := by
  obtain ⟨hx, hb, hown, hts, hex, hin, hS, hfr, hlo⟩ := hC
  simp only [vmTrans] at ht
  split at ht
  · rename_i hl
    subst hl
    cases ht
    obtain ⟨x, y, z, st0, rfl, hz, hr⟩ := vi5 hst
    cases hr
    simp only [vmBin, Option.some.injEq] at hz
    subst hz
    intro H locs ls hL hR hS2
    exact lv_ior hx hb hd (k H locs ls hL hR hS2)
  · cases ht
theorem vs_ixor (hC : vmCx κ p R s m args meth c cc own isI S) (hd : decode cc pc = .ok (.ixor, len)) (ht : vmTrans S own isI pc (.ixor) len = some en) (hst : vmStep en L st h = some (pc', L', st', h'))
    (k : vmW κ p l e R s m args below meth c Q n0 s0 h' pc' L' st') : vmW κ p l e R s m args below meth c Q n0 s0 h pc L st := by
  obtain ⟨hx, hb, hown, hts, hex, hin, hS, hfr, hlo⟩ := hC
  simp only [vmTrans] at ht
  split at ht
  · rename_i hl
    subst hl
    cases ht
    obtain ⟨x, y, z, st0, rfl, hz, hr⟩ := vi5 hst
    cases hr
    simp only [vmBin, Option.some.injEq] at hz
    subst hz
    intro H locs ls hL hR hS2
    exact lv_ixor hx hb hd (k H locs ls hL hR hS2)
  · cases ht
theorem vs_idiv (hC : vmCx κ p R s m args meth c cc own isI S) (hd : decode cc pc = .ok (.idiv, len)) (ht : vmTrans S own isI pc (.idiv) len = some en) (hst : vmStep en L st h = some (pc', L', st', h'))
    (k : vmW κ p l e R s m args below meth c Q n0 s0 h' pc' L' st') : vmW κ p l e R s m args below meth c Q n0 s0 h pc L st := by
  obtain ⟨hx, hb, hown, hts, hex, hin, hS, hfr, hlo⟩ := hC
  simp only [vmTrans] at ht
  split at ht
  · rename_i hl
    subst hl
    cases ht
    obtain ⟨x, y, z, st0, rfl, hz, hr⟩ := vi5 hst
    cases hr
    simp only [vmBin] at hz
    split at hz
    · cases hz
    rename_i hy
    cases hz
    intro H locs ls hL hR hS2
    exact lv_idiv hx hb hd hy (k H locs ls hL hR hS2)
  · cases ht
theorem vs_irem (hC : vmCx κ p R s m args meth c cc own isI S) (hd : decode cc pc = .ok (.irem, len)) (ht : vmTrans S own isI pc (.irem) len = some en) (hst : vmStep en L st h = some (pc', L', st', h'))
    (k : vmW κ p l e R s m args below meth c Q n0 s0 h' pc' L' st') : vmW κ p l e R s m args below meth c Q n0 s0 h pc L st := by
  obtain ⟨hx, hb, hown, hts, hex, hin, hS, hfr, hlo⟩ := hC
  simp only [vmTrans] at ht
  split at ht
  · rename_i hl
    subst hl
    cases ht
    obtain ⟨x, y, z, st0, rfl, hz, hr⟩ := vi5 hst
    cases hr
    simp only [vmBin] at hz
    split at hz
    · cases hz
    rename_i hy
    cases hz
    intro H locs ls hL hR hS2
    exact lv_irem hx hb hd hy (by rw [irem_eq_mod]; exact k H locs ls hL hR hS2)
  · cases ht
theorem vs_ishl (hC : vmCx κ p R s m args meth c cc own isI S) (hd : decode cc pc = .ok (.ishl, len)) (ht : vmTrans S own isI pc (.ishl) len = some en) (hst : vmStep en L st h = some (pc', L', st', h'))
    (k : vmW κ p l e R s m args below meth c Q n0 s0 h' pc' L' st') : vmW κ p l e R s m args below meth c Q n0 s0 h pc L st := by
  obtain ⟨hx, hb, hown, hts, hex, hin, hS, hfr, hlo⟩ := hC
  simp only [vmTrans] at ht
  split at ht
  · rename_i hl
    subst hl
    cases ht
    obtain ⟨x, y, z, st0, rfl, hz, hr⟩ := vi5 hst
    cases hr
    simp only [vmBin, Option.some.injEq] at hz
    subst hz
    intro H locs ls hL hR hS2
    exact lv_ishl hx hb hd (k H locs ls hL hR hS2)
  · cases ht
theorem vs_ishr (hC : vmCx κ p R s m args meth c cc own isI S) (hd : decode cc pc = .ok (.ishr, len)) (ht : vmTrans S own isI pc (.ishr) len = some en) (hst : vmStep en L st h = some (pc', L', st', h'))
    (k : vmW κ p l e R s m args below meth c Q n0 s0 h' pc' L' st') : vmW κ p l e R s m args below meth c Q n0 s0 h pc L st := by
  obtain ⟨hx, hb, hown, hts, hex, hin, hS, hfr, hlo⟩ := hC
  simp only [vmTrans] at ht
  split at ht
  · rename_i hl
    subst hl
    cases ht
    obtain ⟨x, y, z, st0, rfl, hz, hr⟩ := vi5 hst
    cases hr
    simp only [vmBin, Option.some.injEq] at hz
    subst hz
    intro H locs ls hL hR hS2
    exact lv_ishr hx hb hd (k H locs ls hL hR hS2)
  · cases ht
theorem vs_iushr (hC : vmCx κ p R s m args meth c cc own isI S) (hd : decode cc pc = .ok (.iushr, len)) (ht : vmTrans S own isI pc (.iushr) len = some en) (hst : vmStep en L st h = some (pc', L', st', h'))
    (k : vmW κ p l e R s m args below meth c Q n0 s0 h' pc' L' st') : vmW κ p l e R s m args below meth c Q n0 s0 h pc L st := by
  obtain ⟨hx, hb, hown, hts, hex, hin, hS, hfr, hlo⟩ := hC
  simp only [vmTrans] at ht
  split at ht
  · rename_i hl
    subst hl
    cases ht
    obtain ⟨x, y, z, st0, rfl, hz, hr⟩ := vi5 hst
    cases hr
    simp only [vmBin, Option.some.injEq] at hz
    subst hz
    intro H locs ls hL hR hS2
    exact lv_iushr hx hb hd rfl (k H locs ls hL hR hS2)
  · cases ht
theorem vs_ladd (hC : vmCx κ p R s m args meth c cc own isI S) (hd : decode cc pc = .ok (.ladd, len)) (ht : vmTrans S own isI pc (.ladd) len = some en) (hst : vmStep en L st h = some (pc', L', st', h'))
    (k : vmW κ p l e R s m args below meth c Q n0 s0 h' pc' L' st') : vmW κ p l e R s m args below meth c Q n0 s0 h pc L st := by
  obtain ⟨hx, hb, hown, hts, hex, hin, hS, hfr, hlo⟩ := hC
  simp only [vmTrans] at ht
  split at ht
  · rename_i hl
    subst hl
    cases ht
    obtain ⟨x, y, z, st0, rfl, hz, hr⟩ := vi6 hst
    cases hr
    simp only [vmBinL, Option.some.injEq] at hz
    subst hz
    intro H locs ls hL hR hS2
    exact lv_ladd hx hb hd (k H locs ls hL hR hS2)
  · cases ht
theorem vs_lsub (hC : vmCx κ p R s m args meth c cc own isI S) (hd : decode cc pc = .ok (.lsub, len)) (ht : vmTrans S own isI pc (.lsub) len = some en) (hst : vmStep en L st h = some (pc', L', st', h'))
    (k : vmW κ p l e R s m args below meth c Q n0 s0 h' pc' L' st') : vmW κ p l e R s m args below meth c Q n0 s0 h pc L st := by
  obtain ⟨hx, hb, hown, hts, hex, hin, hS, hfr, hlo⟩ := hC
  simp only [vmTrans] at ht
  split at ht
  · rename_i hl
    subst hl
    cases ht
    obtain ⟨x, y, z, st0, rfl, hz, hr⟩ := vi6 hst
    cases hr
    simp only [vmBinL, Option.some.injEq] at hz
    subst hz
    intro H locs ls hL hR hS2
    exact lv_lsub hx hb hd (k H locs ls hL hR hS2)
  · cases ht
theorem vs_lmul (hC : vmCx κ p R s m args meth c cc own isI S) (hd : decode cc pc = .ok (.lmul, len)) (ht : vmTrans S own isI pc (.lmul) len = some en) (hst : vmStep en L st h = some (pc', L', st', h'))
    (k : vmW κ p l e R s m args below meth c Q n0 s0 h' pc' L' st') : vmW κ p l e R s m args below meth c Q n0 s0 h pc L st := by
  obtain ⟨hx, hb, hown, hts, hex, hin, hS, hfr, hlo⟩ := hC
  simp only [vmTrans] at ht
  split at ht
  · rename_i hl
    subst hl
    cases ht
    obtain ⟨x, y, z, st0, rfl, hz, hr⟩ := vi6 hst
    cases hr
    simp only [vmBinL, Option.some.injEq] at hz
    subst hz
    intro H locs ls hL hR hS2
    exact lv_lmul hx hb hd (k H locs ls hL hR hS2)
  · cases ht
theorem vs_land (hC : vmCx κ p R s m args meth c cc own isI S) (hd : decode cc pc = .ok (.land, len)) (ht : vmTrans S own isI pc (.land) len = some en) (hst : vmStep en L st h = some (pc', L', st', h'))
    (k : vmW κ p l e R s m args below meth c Q n0 s0 h' pc' L' st') : vmW κ p l e R s m args below meth c Q n0 s0 h pc L st := by
  obtain ⟨hx, hb, hown, hts, hex, hin, hS, hfr, hlo⟩ := hC
  simp only [vmTrans] at ht
  split at ht
  · rename_i hl
    subst hl
    cases ht
    obtain ⟨x, y, z, st0, rfl, hz, hr⟩ := vi6 hst
    cases hr
    simp only [vmBinL, Option.some.injEq] at hz
    subst hz
    intro H locs ls hL hR hS2
    exact lv_land hx hb hd (k H locs ls hL hR hS2)
  · cases ht
theorem vs_lor (hC : vmCx κ p R s m args meth c cc own isI S) (hd : decode cc pc = .ok (.lor, len)) (ht : vmTrans S own isI pc (.lor) len = some en) (hst : vmStep en L st h = some (pc', L', st', h'))
    (k : vmW κ p l e R s m args below meth c Q n0 s0 h' pc' L' st') : vmW κ p l e R s m args below meth c Q n0 s0 h pc L st := by
  obtain ⟨hx, hb, hown, hts, hex, hin, hS, hfr, hlo⟩ := hC
  simp only [vmTrans] at ht
  split at ht
  · rename_i hl
    subst hl
    cases ht
    obtain ⟨x, y, z, st0, rfl, hz, hr⟩ := vi6 hst
    cases hr
    simp only [vmBinL, Option.some.injEq] at hz
    subst hz
    intro H locs ls hL hR hS2
    exact lv_lor hx hb hd (k H locs ls hL hR hS2)
  · cases ht
theorem vs_lxor (hC : vmCx κ p R s m args meth c cc own isI S) (hd : decode cc pc = .ok (.lxor, len)) (ht : vmTrans S own isI pc (.lxor) len = some en) (hst : vmStep en L st h = some (pc', L', st', h'))
    (k : vmW κ p l e R s m args below meth c Q n0 s0 h' pc' L' st') : vmW κ p l e R s m args below meth c Q n0 s0 h pc L st := by
  obtain ⟨hx, hb, hown, hts, hex, hin, hS, hfr, hlo⟩ := hC
  simp only [vmTrans] at ht
  split at ht
  · rename_i hl
    subst hl
    cases ht
    obtain ⟨x, y, z, st0, rfl, hz, hr⟩ := vi6 hst
    cases hr
    simp only [vmBinL, Option.some.injEq] at hz
    subst hz
    intro H locs ls hL hR hS2
    exact lv_lxor hx hb hd (k H locs ls hL hR hS2)
  · cases ht
theorem vs_ldiv (hC : vmCx κ p R s m args meth c cc own isI S) (hd : decode cc pc = .ok (.ldiv, len)) (ht : vmTrans S own isI pc (.ldiv) len = some en) (hst : vmStep en L st h = some (pc', L', st', h'))
    (k : vmW κ p l e R s m args below meth c Q n0 s0 h' pc' L' st') : vmW κ p l e R s m args below meth c Q n0 s0 h pc L st := by
  obtain ⟨hx, hb, hown, hts, hex, hin, hS, hfr, hlo⟩ := hC
  simp only [vmTrans] at ht
  split at ht
  · rename_i hl
    subst hl
    cases ht
    obtain ⟨x, y, z, st0, rfl, hz, hr⟩ := vi6 hst
    cases hr
    simp only [vmBinL] at hz
    split at hz
    · cases hz
    rename_i hy
    cases hz
    intro H locs ls hL hR hS2
    exact lv_ldiv hx hb hd hy (k H locs ls hL hR hS2)
  · cases ht
theorem vs_lrem (hC : vmCx κ p R s m args meth c cc own isI S) (hd : decode cc pc = .ok (.lrem, len)) (ht : vmTrans S own isI pc (.lrem) len = some en) (hst : vmStep en L st h = some (pc', L', st', h'))
    (k : vmW κ p l e R s m args below meth c Q n0 s0 h' pc' L' st') : vmW κ p l e R s m args below meth c Q n0 s0 h pc L st := by
  obtain ⟨hx, hb, hown, hts, hex, hin, hS, hfr, hlo⟩ := hC
  simp only [vmTrans] at ht
  split at ht
  · rename_i hl
    subst hl
    cases ht
    obtain ⟨x, y, z, st0, rfl, hz, hr⟩ := vi6 hst
    cases hr
    simp only [vmBinL] at hz
    split at hz
    · cases hz
    rename_i hy
    cases hz
    intro H locs ls hL hR hS2
    exact lv_lrem hx hb hd hy (by rw [vm_lrem]; exact k H locs ls hL hR hS2)
  · cases ht
theorem vs_lshl (hC : vmCx κ p R s m args meth c cc own isI S) (hd : decode cc pc = .ok (.lshl, len)) (ht : vmTrans S own isI pc (.lshl) len = some en) (hst : vmStep en L st h = some (pc', L', st', h'))
    (k : vmW κ p l e R s m args below meth c Q n0 s0 h' pc' L' st') : vmW κ p l e R s m args below meth c Q n0 s0 h pc L st := by
  obtain ⟨hx, hb, hown, hts, hex, hin, hS, hfr, hlo⟩ := hC
  simp only [vmTrans] at ht
  split at ht
  · rename_i hl
    subst hl
    cases ht
    obtain ⟨x, y, z, st0, rfl, hz, hr⟩ := vi7 hst
    cases hr
    simp only [vmShL, Option.some.injEq] at hz
    intro H locs ls hL hR hS2
    exact lv_lshl hx hb hd hz (k H locs ls hL hR hS2)
  · cases ht
theorem vs_lshr (hC : vmCx κ p R s m args meth c cc own isI S) (hd : decode cc pc = .ok (.lshr, len)) (ht : vmTrans S own isI pc (.lshr) len = some en) (hst : vmStep en L st h = some (pc', L', st', h'))
    (k : vmW κ p l e R s m args below meth c Q n0 s0 h' pc' L' st') : vmW κ p l e R s m args below meth c Q n0 s0 h pc L st := by
  obtain ⟨hx, hb, hown, hts, hex, hin, hS, hfr, hlo⟩ := hC
  simp only [vmTrans] at ht
  split at ht
  · rename_i hl
    subst hl
    cases ht
    obtain ⟨x, y, z, st0, rfl, hz, hr⟩ := vi7 hst
    cases hr
    simp only [vmShL, Option.some.injEq] at hz
    intro H locs ls hL hR hS2
    exact lv_lshr hx hb hd hz (k H locs ls hL hR hS2)
  · cases ht
theorem vs_lushr (hC : vmCx κ p R s m args meth c cc own isI S) (hd : decode cc pc = .ok (.lushr, len)) (ht : vmTrans S own isI pc (.lushr) len = some en) (hst : vmStep en L st h = some (pc', L', st', h'))
    (k : vmW κ p l e R s m args below meth c Q n0 s0 h' pc' L' st') : vmW κ p l e R s m args below meth c Q n0 s0 h pc L st := by
  obtain ⟨hx, hb, hown, hts, hex, hin, hS, hfr, hlo⟩ := hC
  simp only [vmTrans] at ht
  split at ht
  · rename_i hl
    subst hl
    cases ht
    obtain ⟨x, y, z, st0, rfl, hz, hr⟩ := vi7 hst
    cases hr
    simp only [vmShL, Option.some.injEq] at hz
    intro H locs ls hL hR hS2
    exact lv_lushr hx hb hd hz (k H locs ls hL hR hS2)
  · cases ht
theorem vs_i2l (hC : vmCx κ p R s m args meth c cc own isI S) (hd : decode cc pc = .ok (.i2l, len)) (ht : vmTrans S own isI pc (.i2l) len = some en) (hst : vmStep en L st h = some (pc', L', st', h'))
    (k : vmW κ p l e R s m args below meth c Q n0 s0 h' pc' L' st') : vmW κ p l e R s m args below meth c Q n0 s0 h pc L st := by
  obtain ⟨hx, hb, hown, hts, hex, hin, hS, hfr, hlo⟩ := hC
  simp only [vmTrans] at ht
  split at ht
  · rename_i hl
    subst hl
    cases ht
    obtain ⟨v, z, st0, rfl, hz, hr⟩ := vi8 hst
    cases hr
    cases v <;> simp only [vmConv, reduceCtorEq, Option.some.injEq] at hz
    subst hz
    intro H locs ls hL hR hS2
    exact lv_i2l hx hb hd rfl (k H locs ls hL hR hS2)
  · cases ht
theorem vs_l2i (hC : vmCx κ p R s m args meth c cc own isI S) (hd : decode cc pc = .ok (.l2i, len)) (ht : vmTrans S own isI pc (.l2i) len = some en) (hst : vmStep en L st h = some (pc', L', st', h'))
    (k : vmW κ p l e R s m args below meth c Q n0 s0 h' pc' L' st') : vmW κ p l e R s m args below meth c Q n0 s0 h pc L st := by
  obtain ⟨hx, hb, hown, hts, hex, hin, hS, hfr, hlo⟩ := hC
  simp only [vmTrans] at ht
  split at ht
  · rename_i hl
    subst hl
    cases ht
    obtain ⟨v, z, st0, rfl, hz, hr⟩ := vi8 hst
    cases hr
    cases v <;> simp only [vmConv, reduceCtorEq, Option.some.injEq] at hz
    subst hz
    intro H locs ls hL hR hS2
    exact lv_l2i hx hb hd rfl (k H locs ls hL hR hS2)
  · cases ht
theorem vs_i2b (hC : vmCx κ p R s m args meth c cc own isI S) (hd : decode cc pc = .ok (.i2b, len)) (ht : vmTrans S own isI pc (.i2b) len = some en) (hst : vmStep en L st h = some (pc', L', st', h'))
    (k : vmW κ p l e R s m args below meth c Q n0 s0 h' pc' L' st') : vmW κ p l e R s m args below meth c Q n0 s0 h pc L st := by
  obtain ⟨hx, hb, hown, hts, hex, hin, hS, hfr, hlo⟩ := hC
  simp only [vmTrans] at ht
  split at ht
  · rename_i hl
    subst hl
    cases ht
    obtain ⟨v, z, st0, rfl, hz, hr⟩ := vi8 hst
    cases hr
    cases v <;> simp only [vmConv, reduceCtorEq, Option.some.injEq] at hz
    subst hz
    intro H locs ls hL hR hS2
    exact lv_i2b hx hb hd rfl (k H locs ls hL hR hS2)
  · cases ht
theorem vs_i2s (hC : vmCx κ p R s m args meth c cc own isI S) (hd : decode cc pc = .ok (.i2s, len)) (ht : vmTrans S own isI pc (.i2s) len = some en) (hst : vmStep en L st h = some (pc', L', st', h'))
    (k : vmW κ p l e R s m args below meth c Q n0 s0 h' pc' L' st') : vmW κ p l e R s m args below meth c Q n0 s0 h pc L st := by
  obtain ⟨hx, hb, hown, hts, hex, hin, hS, hfr, hlo⟩ := hC
  simp only [vmTrans] at ht
  split at ht
  · rename_i hl
    subst hl
    cases ht
    obtain ⟨v, z, st0, rfl, hz, hr⟩ := vi8 hst
    cases hr
    cases v <;> simp only [vmConv, reduceCtorEq, Option.some.injEq] at hz
    subst hz
    intro H locs ls hL hR hS2
    exact lv_i2s hx hb hd rfl (k H locs ls hL hR hS2)
  · cases ht
theorem vs_i2c (hC : vmCx κ p R s m args meth c cc own isI S) (hd : decode cc pc = .ok (.i2c, len)) (ht : vmTrans S own isI pc (.i2c) len = some en) (hst : vmStep en L st h = some (pc', L', st', h'))
    (k : vmW κ p l e R s m args below meth c Q n0 s0 h' pc' L' st') : vmW κ p l e R s m args below meth c Q n0 s0 h pc L st := by
  obtain ⟨hx, hb, hown, hts, hex, hin, hS, hfr, hlo⟩ := hC
  simp only [vmTrans] at ht
  split at ht
  · rename_i hl
    subst hl
    cases ht
    obtain ⟨v, z, st0, rfl, hz, hr⟩ := vi8 hst
    cases hr
    cases v <;> simp only [vmConv, reduceCtorEq, Option.some.injEq] at hz
    subst hz
    intro H locs ls hL hR hS2
    exact lv_i2c hx hb hd rfl (k H locs ls hL hR hS2)
  · cases ht
theorem vs_lcmp (hC : vmCx κ p R s m args meth c cc own isI S) (hd : decode cc pc = .ok (.lcmp, len)) (ht : vmTrans S own isI pc (.lcmp) len = some en) (hst : vmStep en L st h = some (pc', L', st', h'))
    (k : vmW κ p l e R s m args below meth c Q n0 s0 h' pc' L' st') : vmW κ p l e R s m args below meth c Q n0 s0 h pc L st := by
  obtain ⟨hx, hb, hown, hts, hex, hin, hS, hfr, hlo⟩ := hC
  simp only [vmTrans] at ht
  split at ht
  · rename_i hl
    subst hl
    cases ht
    obtain ⟨x, y, st0, rfl, hr⟩ := vi9 hst
    cases hr
    intro H locs ls hL hR hS2
    exact W.lcmp hx hb hd (by rw [vmLcmp_eq]; exact k H locs ls hL hR hS2)
  · cases ht
theorem vs_dup (hC : vmCx κ p R s m args meth c cc own isI S) (hd : decode cc pc = .ok (.dup, len)) (ht : vmTrans S own isI pc (.dup) len = some en) (hst : vmStep en L st h = some (pc', L', st', h'))
    (k : vmW κ p l e R s m args below meth c Q n0 s0 h' pc' L' st') : vmW κ p l e R s m args below meth c Q n0 s0 h pc L st := by
  obtain ⟨hx, hb, hown, hts, hex, hin, hS, hfr, hlo⟩ := hC
  simp only [vmTrans] at ht
  split at ht
  · rename_i hl
    subst hl
    cases ht
    obtain ⟨st0, hz, hr⟩ := vi10 hst
    cases hr
    rcases st with _ | ⟨v, st⟩
    · simp only [vmStack, reduceCtorEq] at hz
    simp only [vmStack] at hz
    split at hz
    rotate_left
    · cases hz
    rename_i hv
    cases hz
    intro H locs ls hL hR hS2
    exact lv_dup hx hb hd ((vmLift_cat (vmEX_zv hex) v).trans hv) (k H locs ls hL hR hS2)
  · cases ht
theorem vs_pop (hC : vmCx κ p R s m args meth c cc own isI S) (hd : decode cc pc = .ok (.pop, len)) (ht : vmTrans S own isI pc (.pop) len = some en) (hst : vmStep en L st h = some (pc', L', st', h'))
    (k : vmW κ p l e R s m args below meth c Q n0 s0 h' pc' L' st') : vmW κ p l e R s m args below meth c Q n0 s0 h pc L st := by
  obtain ⟨hx, hb, hown, hts, hex, hin, hS, hfr, hlo⟩ := hC
  simp only [vmTrans] at ht
  split at ht
  · rename_i hl
    subst hl
    cases ht
    obtain ⟨st0, hz, hr⟩ := vi10 hst
    cases hr
    rcases st with _ | ⟨v, st⟩
    · simp only [vmStack, reduceCtorEq] at hz
    simp only [vmStack] at hz
    split at hz
    rotate_left
    · cases hz
    rename_i hv
    cases hz
    intro H locs ls hL hR hS2
    exact lv_pop hx hb hd ((vmLift_cat (vmEX_zv hex) v).trans hv) (k H locs ls hL hR hS2)
  · cases ht
theorem vs_goto (hC : vmCx κ p R s m args meth c cc own isI S) {o : Int} (hd : decode cc pc = .ok (.goto o, len)) (ht : vmTrans S own isI pc (.goto o) len = some en) (hst : vmStep en L st h = some (pc', L', st', h'))
    (k : vmW κ p l e R s m args below meth c Q n0 s0 h' pc' L' st') : vmW κ p l e R s m args below meth c Q n0 s0 h pc L st := by
  obtain ⟨hx, hb, hown, hts, hex, hin, hS, hfr, hlo⟩ := hC
  simp only [vmTrans] at ht
  split at ht
  · rename_i hl
    subst hl
    split at ht
    · rename_i t hg
      cases ht
      have hr := vi11 hst
      cases hr
      intro H locs ls hL hR hS2
      exact lv_goto hx hb hd (vmTgt_eq hg) (k H locs ls hL hR hS2)
    · cases ht
  · cases ht
theorem vs_ifCond (hC : vmCx κ p R s m args meth c cc own isI S) {cd : ClassFile.Cond} {o : Int} (hd : decode cc pc = .ok (.ifCond cd o, len)) (ht : vmTrans S own isI pc (.ifCond cd o) len = some en) (hst : vmStep en L st h = some (pc', L', st', h'))
    (k : vmW κ p l e R s m args below meth c Q n0 s0 h' pc' L' st') : vmW κ p l e R s m args below meth c Q n0 s0 h pc L st := by
  obtain ⟨hx, hb, hown, hts, hex, hin, hS, hfr, hlo⟩ := hC
  simp only [vmTrans] at ht
  split at ht
  · rename_i hl
    subst hl
    split at ht
    · rename_i t hg
      cases ht
      obtain ⟨x, st0, rfl, hr⟩ := vi12 hst
      cases hr
      intro H locs ls hL hR hS2
      cases cd with
      | eq => exact lv_if_eq hx hb hd (vmTgt_eq hg) (fun hc => by have k2 := k H locs ls hL hR hS2; rw [if_pos (by simpa [vmCn, vmIf] using hc)] at k2; exact k2) (fun hc => by have k2 := k H locs ls hL hR hS2; rw [if_neg (by simpa [vmCn, vmIf] using hc)] at k2; exact k2)
      | ne => exact lv_if_ne hx hb hd (vmTgt_eq hg) (fun hc => by have k2 := k H locs ls hL hR hS2; rw [if_pos (by simpa [vmCn, vmIf] using hc)] at k2; exact k2) (fun hc => by have k2 := k H locs ls hL hR hS2; rw [if_neg (by simpa [vmCn, vmIf] using hc)] at k2; exact k2)
      | lt => exact lv_if_lt hx hb hd (vmTgt_eq hg) (fun hc => by have k2 := k H locs ls hL hR hS2; rw [if_pos (by simpa [vmCn, vmIf] using hc)] at k2; exact k2) (fun hc => by have k2 := k H locs ls hL hR hS2; rw [if_neg (by simpa [vmCn, vmIf] using hc)] at k2; exact k2)
      | ge => exact lv_if_ge hx hb hd (vmTgt_eq hg) (fun hc => by have k2 := k H locs ls hL hR hS2; rw [if_pos (by simpa [vmCn, vmIf] using hc)] at k2; exact k2) (fun hc => by have k2 := k H locs ls hL hR hS2; rw [if_neg (by simpa [vmCn, vmIf] using hc)] at k2; exact k2)
      | gt => exact lv_if_gt hx hb hd (vmTgt_eq hg) (fun hc => by have k2 := k H locs ls hL hR hS2; rw [if_pos (by simpa [vmCn, vmIf] using hc)] at k2; exact k2) (fun hc => by have k2 := k H locs ls hL hR hS2; rw [if_neg (by simpa [vmCn, vmIf] using hc)] at k2; exact k2)
      | le => exact lv_if_le hx hb hd (vmTgt_eq hg) (fun hc => by have k2 := k H locs ls hL hR hS2; rw [if_pos (by simpa [vmCn, vmIf] using hc)] at k2; exact k2) (fun hc => by have k2 := k H locs ls hL hR hS2; rw [if_neg (by simpa [vmCn, vmIf] using hc)] at k2; exact k2)
    · cases ht
  · cases ht
theorem vs_if_icmp (hC : vmCx κ p R s m args meth c cc own isI S) {cd : ClassFile.Cond} {o : Int} (hd : decode cc pc = .ok (.if_icmp cd o, len)) (ht : vmTrans S own isI pc (.if_icmp cd o) len = some en) (hst : vmStep en L st h = some (pc', L', st', h'))
    (k : vmW κ p l e R s m args below meth c Q n0 s0 h' pc' L' st') : vmW κ p l e R s m args below meth c Q n0 s0 h pc L st := by
  obtain ⟨hx, hb, hown, hts, hex, hin, hS, hfr, hlo⟩ := hC
  simp only [vmTrans] at ht
  split at ht
  · rename_i hl
    subst hl
    split at ht
    · rename_i t hg
      cases ht
      obtain ⟨x, y, st0, rfl, hr⟩ := vi13 hst
      cases hr
      intro H locs ls hL hR hS2
      cases cd with
      | eq => exact lv_icmp_eq hx hb hd (vmTgt_eq hg) (fun hc => by have k2 := k H locs ls hL hR hS2; rw [if_pos (by simpa [vmCn, vmIf] using hc)] at k2; exact k2) (fun hc => by have k2 := k H locs ls hL hR hS2; rw [if_neg (by simpa [vmCn, vmIf] using hc)] at k2; exact k2)
      | ne => exact lv_icmp_ne hx hb hd (vmTgt_eq hg) (fun hc => by have k2 := k H locs ls hL hR hS2; rw [if_pos (by simpa [vmCn, vmIf] using hc)] at k2; exact k2) (fun hc => by have k2 := k H locs ls hL hR hS2; rw [if_neg (by simpa [vmCn, vmIf] using hc)] at k2; exact k2)
      | lt => exact lv_icmp_lt hx hb hd (vmTgt_eq hg) (fun hc => by have k2 := k H locs ls hL hR hS2; rw [if_pos (by simpa [vmCn, vmIf] using hc)] at k2; exact k2) (fun hc => by have k2 := k H locs ls hL hR hS2; rw [if_neg (by simpa [vmCn, vmIf] using hc)] at k2; exact k2)
      | ge => exact lv_icmp_ge hx hb hd (vmTgt_eq hg) (fun hc => by have k2 := k H locs ls hL hR hS2; rw [if_pos (by simpa [vmCn, vmIf] using hc)] at k2; exact k2) (fun hc => by have k2 := k H locs ls hL hR hS2; rw [if_neg (by simpa [vmCn, vmIf] using hc)] at k2; exact k2)
      | gt => exact lv_icmp_gt hx hb hd (vmTgt_eq hg) (fun hc => by have k2 := k H locs ls hL hR hS2; rw [if_pos (by simpa [vmCn, vmIf] using hc)] at k2; exact k2) (fun hc => by have k2 := k H locs ls hL hR hS2; rw [if_neg (by simpa [vmCn, vmIf] using hc)] at k2; exact k2)
      | le => exact lv_icmp_le hx hb hd (vmTgt_eq hg) (fun hc => by have k2 := k H locs ls hL hR hS2; rw [if_pos (by simpa [vmCn, vmIf] using hc)] at k2; exact k2) (fun hc => by have k2 := k H locs ls hL hR hS2; rw [if_neg (by simpa [vmCn, vmIf] using hc)] at k2; exact k2)
    · cases ht
  · cases ht
end VMT
