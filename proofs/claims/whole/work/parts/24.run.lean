/-! ===== the machine does what the abstract run says ===== -/
/-- the handlers of a method, as its table has them: what they catch, that each stores, pushes and returns -/
def vmHc (cc : ByteArray) (maxL hp : Nat) (v : Int) : Prop := (∃ k : Nat, k < maxL ∧ decode cc hp = .ok (.astore k, 2) ∧ decode cc (hp + 2) = .ok (.iconst v, 1) ∧ decode cc (hp + 3) = .ok (.ireturn, 1)) ∨ (∃ k : Fin 4, k.val < maxL ∧ decode cc hp = .ok (.astore_n k, 1) ∧ decode cc (hp + 1) = .ok (.iconst v, 1) ∧ decode cc (hp + 2) = .ok (.ireturn, 1))
def vmHl (own : String) (cc : ByteArray) (maxL : Nat) : List (Nat × Nat × Nat × Int) → List (Nat × Nat × Nat × Nat) → Prop
  | [], [] => True
  | (lo, hi, x, v) :: r, (lo2, hi2, hp, ct) :: r2 => lo = lo2 ∧ hi = hi2 ∧ ct ≠ 0 ∧ x < 4 ∧ Cond.classLink own ct (vmXn x) ∈ vmTB ∧ Cond.castable (vmXn x) (vmXn x) ∈ lw_tbl ∧ vmHc cc maxL hp v ∧ vmHl own cc maxL r r2
  | _, _ => False
def vmHok (y : vmM) (hh : List (Nat × Nat × Nat × Nat)) : Prop := y.2.2.2.1 = some .int ∧ vmHl y.1.cls y.2.1 y.2.2.1 y.2.2.2.2.2.2 hh
theorem vmHl_inv {own : String} {cc : ByteArray} {maxL pc E : Nat} {v : Int} : ∀ (hs : List (Nat × Nat × Nat × Int)) (hh : List (Nat × Nat × Nat × Nat)), vmHl own cc maxL hs hh → vmCatch hs pc E = some v →
    ∃ (pre suf : List (Nat × Nat × Nat × Nat)) (q : Nat × Nat × Nat × Nat), hh = pre ++ q :: suf ∧ (q.1 ≤ pc ∧ pc < q.2.1) ∧ q.2.2.2 ≠ 0 ∧ E < 4 ∧ Cond.classLink own q.2.2.2 (vmXn E) ∈ vmTB ∧ Cond.castable (vmXn E) (vmXn E) ∈ lw_tbl ∧ vmHc cc maxL q.2.2.1 v ∧
      ∀ z ∈ pre, ¬ (z.1 ≤ pc ∧ pc < z.2.1) ∨ (z.2.2.2 ≠ 0 ∧ ∃ x : Nat, x < 4 ∧ x ≠ E ∧ Cond.classLink own z.2.2.2 (vmXn x) ∈ vmTB) := by
  intro hs
  induction hs with
  | nil => intro hh _ hc; cases hc
  | cons a r ih =>
    obtain ⟨lo, hi, x, w⟩ := a
    intro hh hl hc
    cases hh with
    | nil => exact hl.elim
    | cons b r2 =>
      obtain ⟨lo2, hi2, hp, ct⟩ := b
      obtain ⟨rfl, rfl, h3, h4, h5, h6, h7, h8⟩ := hl
      simp only [vmCatch] at hc
      split at hc
      · rename_i hcv
        obtain ⟨c1, c2, rfl⟩ := hcv
        cases hc
        exact ⟨[], r2, _, rfl, ⟨c1, c2⟩, h3, h4, h5, h6, h7, fun z hz => by cases hz⟩
      · rename_i hncv
        obtain ⟨pre, suf, q, e1, e2, e3, e4, e5, e6, e7, e8⟩ := ih r2 h8 hc
        refine ⟨_ :: pre, suf, q, by rw [e1]; rfl, e2, e3, e4, e5, e6, e7, fun z hz => ?_⟩
        rcases List.mem_cons.mp hz with rfl | hz
        · by_cases hcov : lo ≤ pc ∧ pc < hi
          · exact Or.inr ⟨h3, x, h4, fun z => hncv ⟨hcov.1, hcov.2, z⟩, h5⟩
          · exact Or.inl hcov
        · exact e8 z hz
def vmGood (b : Nat) (y : vmM) : Prop :=
  ∃ (S : List vmS) (lst : List (Option vmE)) (pl : Nat),
    vmTab y = vmAt lst ∧ vmOkL S y.1.cls (decide (y.1.name = "<init>")) y.2.1 0 lst = true ∧ S.all (vmSOk y.1.cls) = true ∧ vmY b = y.1 ∧ vmMIok b = true ∧ y.2.2.1 ≤ 45 ∧ (y.1.name = "<init>" → y.2.2.2.1 = none) ∧
    ((y.2.2.2.2.2.2 = [] ∧ vmLk pl = some (.code y.1 y.2.1 y.2.2.1 y.2.2.2.1)) ∨ (∃ hh, y.2.2.2.2.2.2 ≠ [] ∧ (vmI b).1 = true ∧ (∀ (o9 : String) (i9 : Nat) (h9 : String), Cond.methodLinkNest o9 i9 y.1 h9 ∉ lw_tbl) ∧ vmLk pl = some (.codeWith y.1 y.2.1 y.2.2.1 y.2.2.2.1 hh) ∧ vmHok y hh)) ∧
    ((y.2.2.2.2.1 < 13 ∧ vmNm y.2.2.2.2.1 = y.1.cls) ∨ (y.2.2.2.2.1 = 20 ∧ y.1.cls = "java/lang/String") ∨ (vmI b).1 = true)
section VMR
def vmEnd (κ : vmK) (p : Program) (l : Launch) (e : Env) (R : Room) (s : State) (m : MethodId) (args : Array Value) (below : List Frame) (meth : Method) (c : Code) (Q : State → Prop) (n0 s0 : Nat) (y : vmM) (out : vmO) (h' : vmH) : Prop :=
  (∀ (pc : Nat) (H : Heap) (locs : List Loc) (ls : Array Slot), out = .inl none → y.2.2.2.1 = none → decode y.2.1 pc = .ok (.return_, 1) → vmRel κ h' H → va_S (vmA κ) s.heap H locs → W p l e R s m args below meth c H locs (h'.1 - n0) (h'.2.1 - s0) Q (F0 m pc ls [])) ∧
  (∀ (pc : Nat) (H : Heap) (locs : List Loc) (ls : Array Slot) (v : Int32) (ty : FieldType), out = .inl (some (.int v)) → y.2.2.2.1 = some ty → narrow ty (.int v) = .int v → decode y.2.1 pc = .ok (.ireturn, 1) → vmRel κ h' H → va_S (vmA κ) s.heap H locs → W p l e R s m args below meth c H locs (h'.1 - n0) (h'.2.1 - s0) Q (F0 m pc ls [.int v])) ∧
  (∀ (pc : Nat) (H : Heap) (locs : List Loc) (ls : Array Slot) (v : Int64), out = .inl (some (.long v)) → y.2.2.2.1 = some .long → decode y.2.1 pc = .ok (.lreturn, 1) → vmRel κ h' H → va_S (vmA κ) s.heap H locs → W p l e R s m args below meth c H locs (h'.1 - n0) (h'.2.1 - s0) Q (F0 m pc ls [.long v])) ∧
  (∀ (pc ik len x : Nat) (S : List vmS) (H : Heap) (locs : List Loc) (L : List Value) (ls : Array Slot) (st : List Value) (h : vmH), out = .inr x → y.2.2.2.2.2.2 = [] → S.all (vmSOk y.1.cls) = true → decode y.2.1 pc = .ok (.new ik, len) → vmTransX S y.2.1 pc (.new ik) len (23, 0, 0, x, 0, []) = true → vmLR κ c.maxLocals L ls → vmRel κ h H → va_S (vmA κ) s.heap H locs → vmCat st ≤ 8 → 9 ≤ R.frames → 576 ≤ R.locals → n0 ≤ h.1 → s0 ≤ h.2.1 → h' = (h.1 + 1, h.2.1 + 6, false, h.2.2.2) → W p l e R s m args below meth c H locs (h.1 - n0) (h.2.1 - s0) Q (F0 m pc ls (st.map (vmLift κ)))) ∧
  (∀ (pc x : Nat) (H : Heap) (locs : List Loc) (ls : Array Slot) (rest : List Value) (q : Addr) (ce : Cell), out = .inr x → y.2.2.2.2.2.2 = [] → vmRel κ h' H → va_S (vmA κ) s.heap H locs → H[q]? = some ce → ce.vm = .none → s.vm.findClass (vmXn x) = some ce.cls → vx_W p l e R s m args below meth c H locs (h'.1 - n0) (h'.2.1 - s0) Q (F0 m pc ls rest) q) ∧
  (∀ (pc E : Nat) (v : Int) (H : Heap) (locs : List Loc) (ls : Array Slot) (rest : List Value) (q : Addr) (ce : Cell), vmCatch y.2.2.2.2.2.2 pc E = some v → out = .inl (some (.int (Int32.ofInt v))) → lv_has ls c.maxLocals [] → vmRel κ h' H → va_S (vmA κ) s.heap H locs → H[q]? = some ce → ce.vm = .none → s.vm.findClass (vmXn E) = some ce.cls → vx_W p l e R s m args below meth c H locs (h'.1 - n0) (h'.2.1 - s0) Q (F0 m pc ls rest) q)
/-- what is proved of runs of at most N -/
def vmSound (l : Launch) (κ : vmK) (N : Nat) : Prop := ∀ (y : vmM) (S : List vmS) (isI : Bool) (lst : List (Option vmE)) (d pc : Nat) (L st : List Value) (h h' : vmH) (out : vmO) (p : Program) (e : Env) (R : Room) (s : State) (m : MethodId) (args : Array Value) (below : List Frame) (meth : Method) (c : Code) (Q : State → Prop) (n0 s0 : Nat),
  vmTab y = vmAt lst → vmOkL S y.1.cls isI y.2.1 0 lst = true → vmCx κ p R s m args meth c y.2.1 y.1.cls isI S → c.maxLocals = y.2.2.1 → d + 1 ≤ R.frames → 64 * (d + 1) ≤ R.locals → vmRun vmP N d y pc L st h = some (out, h') → n0 ≤ h.1 → s0 ≤ h.2.1 → h'.1 - n0 ≤ R.cells → h'.2.1 - s0 ≤ R.slots → (h.2.2.1 = true → s.heap.size ≤ κ.1 + n0) → vmEnd κ p l e R s m args below meth c Q n0 s0 y out h' → vmW κ p l e R s m args below meth c Q n0 s0 h pc L st
/-- a callee's contract -/
def vmMet (l : Launch) (κ : vmK) (y : vmM) (pl d : Nat) (av : List Value) (h h' : vmH) (out : vmO) : Prop := ∀ w : Cond, vmLk pl = some w → goodWord w = true → vx_Met l y.1 (w :: vmTB) { frames := d + 1, cells := h'.1 - h.1, slots := h'.2.1 - h.2.1, locals := 64 * (d + 1) } (vmPC κ av h) (vmQC κ out h') (vmXC κ out h') (h'.1 - h.1) (h'.2.1 - h.2.1) (vmA κ)
theorem vm_met {l : Launch} (hl : l.stackTraces = false) {κ : vmK} {N : Nat} (hS : vmSound l κ N) {b : Nat} {y : vmM} (hg : vmGood b y) {d : Nat} {av : List Value} {h h' : vmH} {out : vmO} (hr : vmRun vmP N d y 0 (vmEntry y av) [] h = some (out, h')) (hav : vmCat av ≤ y.2.2.1) : ∃ pl w, vmLk pl = some w ∧ goodWord w = true ∧ ((∃ hh, y.2.2.2.2.2.2 ≠ [] ∧ (vmI b).1 = true ∧ (∀ (o9 : String) (i9 : Nat) (h9 : String), Cond.methodLinkNest o9 i9 y.1 h9 ∉ lw_tbl) ∧ w = .codeWith y.1 y.2.1 y.2.2.1 y.2.2.2.1 hh) ∨ w = .code y.1 y.2.1 y.2.2.1 y.2.2.2.1) ∧ vx_Met l y.1 (w :: vmTB) { frames := d + 1, cells := h'.1 - h.1, slots := h'.2.1 - h.2.1, locals := 64 * (d + 1) } (vmPC κ av h) (vmQC κ out h') (vmXC κ out h') (h'.1 - h.1) (h'.2.1 - h.2.1) (vmA κ) := by
  obtain ⟨S, lst, pl, g1, g2, g3, g4, g5, g6, g9, g7, g8⟩ := hg
  obtain ⟨i1, i2, i3, i4, i5, i6, i7, i8⟩ := vmMI_spec g5
  rw [g4] at i5
  rcases g7 with ⟨hh0, hw⟩ | ⟨hh, hh0, hst, hnn, hw, hhok⟩
  · refine ⟨pl, _, hw, rfl, Or.inr rfl, ?_⟩
    refine vx_ofW (cc := y.2.1) (maxL := y.2.2.1) (ret := y.2.2.2.1) i5 rfl ?_
    intro p e s m args below meth c s₁ B hml hex0 hP
    obtain ⟨rfl, hex, hrel, hsz⟩ := hP
    have hts := atoms_spec (ws := Cond.code y.1 y.2.1 y.2.2.1 y.2.2.2.1 :: vmTB) B.pre
    have hCx : vmCx κ p (headSpec (Cond.code y.1 y.2.1 y.2.2.1 y.2.2.2.1 :: vmTB) { frames := d + 1, cells := h'.1 - h.1, slots := h'.2.1 - h.2.1, locals := 64 * (d + 1) }).room s m (av.map (vmLift κ)).toArray meth c y.2.1 y.1.cls (decide (y.1.name = "<init>")) S :=
      ⟨B.exec, B.bytes, findClass_of_methodNamed B.named, fun w hw => hts w (List.mem_cons_of_mem _ hw), hex, fun hI => (name_of_methodNamed B.named B.method).1.trans (of_decide_eq_true hI), g3, Nat.le_add_left _ _, (by show 64 ≤ 64 * (d + 1); omega)⟩
    have hgo := hS y S _ lst d 0 (vmEntry y av) [] h h' out p e _ s m (av.map (vmLift κ)).toArray below meth c (vx_MQ below (vmQC κ out h') (vmXC κ out h') (av.map (vmLift κ)).toArray s (h'.1 - h.1) (h'.2.1 - h.2.1) (vmA κ)) h.1 h.2.1 g1 g2 hCx hml (Nat.le_refl _) (Nat.le_refl _) hr (Nat.le_refl _) (Nat.le_refl _) (Nat.le_refl _) (Nat.le_refl _) hsz ?_
    · rw [lg_entry_eq]
      have hL := vmEntry_LR (vmEX_zv hex) y av hav
      have := hgo s.heap [] _ (by rw [hml]; exact hL) hrel va_S.rf
      rw [Nat.sub_self, Nat.sub_self] at this
      exact this
    · refine ⟨?_, ?_, ?_, ?_, ?_, ?_⟩
      · intro pc H locs ls ho hret hd hR hS2
        subst ho
        exact vm_retv B.exec B.bytes B.notSynchronized (B.returns.trans hret) hd hR hS2
      · intro pc H locs ls v ty ho hret hn hd hR hS2
        subst ho
        exact vm_reti B.exec B.bytes B.notSynchronized (B.returns.trans hret) hn hd hR hS2
      · intro pc H locs ls v ho hret hd hR hS2
        subst ho
        exact vm_retl B.exec B.bytes B.notSynchronized (B.returns.trans hret) hd hR hS2
      · intro pc ik len x S2 H locs L ls st h2 ho hh hS0 hd ht hL hR hS2 hcat hfr hlo hn hs hh2
        subst ho
        exact vm_throw hl B.exec B.bytes (findClass_of_methodNamed B.named) (fun w hw => hts w (List.mem_cons_of_mem _ hw)) hex B.notSynchronized hex0 hS0 hd ht hL hR hS2 hcat hfr hlo hn hs hh2 (Nat.le_refl _) (Nat.le_refl _)
      · intro pc x H locs ls rest q ce ho hh hR hS2 hq hv hcl
        subst ho
        exact vm_outx (fun z hz => (hex0 z hz).elim) B.notSynchronized hq hv hcl hR hS2
      · intro pc E v H locs ls rest q ce hca
        rw [hh0] at hca
        cases hca
  · refine ⟨pl, _, hw, rfl, Or.inl ⟨hh, hh0, hst, hnn, rfl⟩, ?_⟩
    refine vx_ofWH (cc := y.2.1) (maxL := y.2.2.1) (ret := y.2.2.2.1) (hh := hh) i5 rfl ?_
    intro p e s m args below meth c s₁ B hml hP
    obtain ⟨rfl, hex, hrel, hsz⟩ := hP
    have hts := atoms_spec (ws := Cond.codeWith y.1 y.2.1 y.2.2.1 y.2.2.2.1 hh :: vmTB) B.pre
    have htab := vx_table (x := y.1) B (hts _ List.mem_cons_self)
    have hts2 : ∀ w ∈ vmTB, w.before (av.map (vmLift κ)).toArray s = true := fun w hw => hts w (List.mem_cons_of_mem _ hw)
    have hown : s.vm.findClass y.1.cls = some m.cls := findClass_of_methodNamed B.named
    have hCx : vmCx κ p (headSpec (Cond.codeWith y.1 y.2.1 y.2.2.1 y.2.2.2.1 hh :: vmTB) { frames := d + 1, cells := h'.1 - h.1, slots := h'.2.1 - h.2.1, locals := 64 * (d + 1) }).room s m (av.map (vmLift κ)).toArray meth c y.2.1 y.1.cls (decide (y.1.name = "<init>")) S :=
      ⟨B.exec, B.bytes, hown, hts2, hex, fun hI => (name_of_methodNamed B.named B.method).1.trans (of_decide_eq_true hI), g3, Nat.le_add_left _ _, (by show 64 ≤ 64 * (d + 1); omega)⟩
    have hgo := hS y S _ lst d 0 (vmEntry y av) [] h h' out p e _ s m (av.map (vmLift κ)).toArray below meth c (vx_MQ below (vmQC κ out h') (vmXC κ out h') (av.map (vmLift κ)).toArray s (h'.1 - h.1) (h'.2.1 - h.2.1) (vmA κ)) h.1 h.2.1 g1 g2 hCx hml (Nat.le_refl _) (Nat.le_refl _) hr (Nat.le_refl _) (Nat.le_refl _) (Nat.le_refl _) (Nat.le_refl _) hsz ?_
    · rw [lg_entry_eq]
      have hL := vmEntry_LR (vmEX_zv hex) y av hav
      have := hgo s.heap [] _ (by rw [hml]; exact hL) hrel va_S.rf
      rw [Nat.sub_self, Nat.sub_self] at this
      exact this
    · refine ⟨?_, ?_, ?_, ?_, ?_, ?_⟩
      · intro pc H locs ls ho hret hd hR hS2
        subst ho
        exact vm_retv B.exec B.bytes B.notSynchronized (B.returns.trans hret) hd hR hS2
      · intro pc H locs ls v ty ho hret hn hd hR hS2
        subst ho
        exact vm_reti B.exec B.bytes B.notSynchronized (B.returns.trans hret) hn hd hR hS2
      · intro pc H locs ls v ho hret hd hR hS2
        subst ho
        exact vm_retl B.exec B.bytes B.notSynchronized (B.returns.trans hret) hd hR hS2
      · intro pc ik len x S2 H locs L ls st h2 ho hh1
        exact absurd hh1 hh0
      · intro pc x H locs ls rest q ce ho hh1
        exact absurd hh1 hh0
      · intro pc E v H locs ls rest q ce hca ho hls hR hS2 hq hv hcl
        subst ho
        obtain ⟨pre, suf, qq, e1, e2, e3, e4, e5, e6, e7, e8⟩ := vmHl_inv _ _ hhok.2 hca
        refine vx_catch hown (pre.map fun q => ⟨q.1, q.2.1, q.2.2.1, q.2.2.2⟩) ⟨qq.1, qq.2.1, qq.2.2.1, qq.2.2.2⟩ (suf.map fun q => ⟨q.1, q.2.1, q.2.2.1, q.2.2.2⟩) (by rw [htab, e1]; simp [tableOf]) ?_ ?_ e3 (hts2 _ e5) (va_Nw.use rfl (hex.2.2.2.2.2.2.2.2.2.2.2.2.2.2.2.2 _ _ e6)) hq hv hcl ?_
        · intro z hz
          obtain ⟨z0, hz0, rfl⟩ := List.mem_map.mp hz
          rcases e8 z0 hz0 with hz1 | ⟨hz1, x, hx4, hxE, hxl⟩
          · refine Or.inl ?_
            simp only [covers, Bool.and_eq_false_iff, decide_eq_false_iff_not]
            omega
          · exact Or.inr ⟨hz1, vmXn x, hts2 _ hxl, hex.2.2.2.2.2.2.2.2.2.2.2.2.1 E x e4 hx4 (Ne.symm hxE)⟩
        · simp only [covers, Bool.and_eq_true, decide_eq_true_eq]
          omega
        · rcases e7 with ⟨k, hk, d1, d2, d3⟩ | ⟨k, hk, d1, d2, d3⟩
          · exact lv_astore B.exec B.bytes d1 hls (by rw [hml]; exact hk) rfl (fun ls' _ => lv_iconst B.exec B.bytes d2 rfl (vm_reti B.exec B.bytes B.notSynchronized (B.returns.trans hhok.1) rfl d3 hR hS2))
          · exact lv_astore_n B.exec B.bytes d1 rfl hls (by rw [hml]; exact hk) rfl (fun ls' _ => lv_iconst B.exec B.bytes d2 rfl (vm_reti B.exec B.bytes B.notSynchronized (B.returns.trans hhok.1) rfl d3 hR hS2))
end VMR
