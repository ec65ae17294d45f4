/-! ===== contracts ===== -/
section VMC
variable {κ : vmK} {p : Program} {l : Launch} {e : Env} {R : Room} {s : State} {m : MethodId} {args : Array Value} {below : List Frame} {meth : Method} {c : Code} {Q : State → Prop} {n0 s0 : Nat} {cc : ByteArray} {own : String} {isI : Bool} {S : List vmS} {pc pc' len : Nat} {en : vmE} {L L' st st' : List Value} {h h' : vmH}
def vmPC (κ : vmK) (av : List Value) (h : vmH) : Array Value → State → Prop := va_Pc (av.map (vmLift κ)) (fun U => vmEX κ U ∧ vmRel κ h U.heap ∧ (h.2.2.1 = true → U.heap.size ≤ κ.1 + h.1))
def vmQC (κ : vmK) (out : vmO) (h' : vmH) : Array Value → State → Outcome → State → Prop := fun _ st o t => (∃ v : Option Value, out = .inl v ∧ o = .returned (v.map (vmLift κ))) ∧ vmRel κ h' t.heap ∧ va_F (vmA κ) st t
def vmXC (κ : vmK) (out : vmO) (h' : vmH) : String → State → State → Prop := fun E st t => (∃ x : Nat, out = .inr x ∧ E = vmXn x) ∧ vmRel κ h' t.heap ∧ va_F (vmA κ) st t
theorem vmPC_blind (κ : vmK) (av : List Value) (h : vmH) : FrameBlind (vmPC κ av h) := by
  intro a U g mk hp
  obtain ⟨h1, h2, h3, h4⟩ := hp
  exact ⟨h1, vmEX_to h2 (State.WarmedH.refl U) rfl va_S.rf, h3, h4⟩
theorem vmGoodIn {w : Cond} (hw : w ∈ vmTB) : GoodIn vmTB (w :: vmTB) := by
  intro z hz
  have hm : z ∈ vmTB := by
    rcases List.mem_cons.mp hz with rfl | h
    · exact hw
    · exact h
  exact ⟨hm, good_of_word (List.mem_filter.mp hm).2⟩
/-- what a call comes back with -/
theorem vm_back {H : Heap} {locs : List Loc} {cells slots mc ms : Nat} {ls : Array Slot} {st0 rest : List Value} {a : Array Value} {o1 : vmO} {h1 : vmH}
    (hr : vx_Run p l e R s m args below meth c H locs cells slots mc ms (F0 m pc ls st0) rest (vmQC κ o1 h1 a) (vmXC κ o1 h1) (vmA κ)) (hS : va_S (vmA κ) s.heap H locs)
    (kr : ∀ (v : Option Value) (H1 : Heap) (locs1 : List Loc), o1 = .inl v → vmRel κ h1 H1 → va_S (vmA κ) s.heap H1 locs1 → W p l e R s m args below meth c H1 locs1 (cells + mc) (slots + ms) Q (F0 m (pc + 3) ls ((v.map (vmLift κ)).toList ++ rest)))
    (kx : ∀ (x : Nat) (q : Addr) (ce : Cell) (H1 : Heap) (locs1 : List Loc), o1 = .inr x → vmRel κ h1 H1 → va_S (vmA κ) s.heap H1 locs1 → H1[q]? = some ce → ce.vm = .none → s.vm.findClass (vmXn x) = some ce.cls → vx_W p l e R s m args below meth c H1 locs1 (cells + mc) (slots + ms) Q (F0 m pc ls rest) q) :
    W p l e R s m args below meth c H locs cells slots Q (F0 m pc ls st0) := by
  intro T hT X
  rcases hr T hT X with ⟨v, st₀, t, T', L, h0, X', hL, e1, e2, ⟨⟨v2, hv2, hv3⟩, hrel, hF⟩, st⟩ | ⟨q, st₀, t, T', L, E, ce, h0, X', hL, e1, e2, ⟨⟨x, hx1, hx2⟩, hrel, hF⟩, hce, hcv, hcl, st⟩
  · cases hv3
    obtain ⟨k1, k2, k3⟩ := vx_keep h0 e1 hS (fun _ _ h => h) (fun _ h => h) hL hF
    obtain ⟨t2, a1, b1⟩ := kr v2 T'.heap (locs ++ L) hv2 (by rw [e1]; exact hrel) k3 T' rfl X'
    exact ⟨t2, st t2 a1, b1⟩
  · obtain ⟨k1, k2, k3⟩ := vx_keep h0 e1 hS (fun _ _ h => h) (fun _ h => h) hL hF
    subst hx2
    obtain ⟨t2, a1, b1⟩ := kx x q ce T'.heap (locs ++ L) hx1 (by rw [e1]; exact hrel) k3 (by rw [e1]; exact hce) hcv hcl T' rfl X'
    exact ⟨t2, st.trans a1, b1⟩
/-- the ends of a method -/
theorem vm_F {H : Heap} {locs : List Loc} {t : State} (hS : va_S (vmA κ) s.heap H locs) (ht : t.heap = H) : va_F (vmA κ) s t := ⟨by rw [ht]; exact hS.1, fun q h1 h2 => by rw [ht]; exact hS.2.1 q h1 h2⟩
theorem vm_retv {H : Heap} {locs : List Loc} {cells slots : Nat} {ls : Array Slot} (hx : p.tables.exec = Jvm.exec) (hb : c.code = cc) (hlocks : meth.locks = false) (hr : meth.sig.returnType = none) (hd : decode cc pc = .ok (.return_, 1)) (hR : vmRel κ h H) (hS : va_S (vmA κ) s.heap H locs) :
    W p l e R s m args below meth c H locs cells slots (vx_MQ below (vmQC κ (.inl none) h) (vmXC κ (.inl none) h) args s cells slots (vmA κ)) (F0 m pc ls []) :=
  vx_ret (W.vret hx hb hr (fun t ht _ => ⟨⟨none, rfl, rfl⟩, by rw [ht]; exact hR, vm_F hS ht⟩) (fun q hq => hS.2.2 q hq) hd hlocks)
theorem vm_reti {H : Heap} {locs : List Loc} {cells slots : Nat} {ls : Array Slot} {v : Int32} {ty : FieldType} (hx : p.tables.exec = Jvm.exec) (hb : c.code = cc) (hlocks : meth.locks = false) (hr : meth.sig.returnType = some ty) (hn : narrow ty (.int v) = .int v) (hd : decode cc pc = .ok (.ireturn, 1)) (hR : vmRel κ h H) (hS : va_S (vmA κ) s.heap H locs) :
    W p l e R s m args below meth c H locs cells slots (vx_MQ below (vmQC κ (.inl (some (.int v))) h) (vmXC κ (.inl (some (.int v))) h) args s cells slots (vmA κ)) (F0 m pc ls [.int v]) :=
  vx_ret (W.zret hx hb hr hn (fun t ht _ => ⟨⟨some (.int v), rfl, rfl⟩, by rw [ht]; exact hR, vm_F hS ht⟩) (fun q hq => hS.2.2 q hq) hd hlocks)
theorem vm_retl {H : Heap} {locs : List Loc} {cells slots : Nat} {ls : Array Slot} {v : Int64} (hx : p.tables.exec = Jvm.exec) (hb : c.code = cc) (hlocks : meth.locks = false) (hr : meth.sig.returnType = some .long) (hd : decode cc pc = .ok (.lreturn, 1)) (hR : vmRel κ h H) (hS : va_S (vmA κ) s.heap H locs) :
    W p l e R s m args below meth c H locs cells slots (vx_MQ below (vmQC κ (.inl (some (.long v))) h) (vmXC κ (.inl (some (.long v))) h) args s cells slots (vmA κ)) (F0 m pc ls [.long v]) :=
  vx_ret (W.lret hx hb hr (fun t ht _ => ⟨⟨some (.long v), rfl, rfl⟩, by rw [ht]; exact hR, vm_F hS ht⟩) (fun q hq => hS.2.2 q hq) hd hlocks)
/-- it goes on to the caller -/
theorem vm_outx {H : Heap} {locs : List Loc} {cells slots : Nat} {ls : Array Slot} {rest : List Value} {x : Nat} {q : Addr} {ce : Cell} (hout : ∀ z ∈ c.exceptionTable.toList, covers z pc = false) (hlocks : meth.locks = false) (hcell : H[q]? = some ce) (hv : ce.vm = .none) (hcl : s.vm.findClass (vmXn x) = some ce.cls) (hR : vmRel κ h H) (hS : va_S (vmA κ) s.heap H locs) :
    vx_W p l e R s m args below meth c H locs cells slots (vx_MQ below (vmQC κ (.inr x) h) (vmXC κ (.inr x) h) args s cells slots (vmA κ)) (F0 m pc ls rest) q :=
  vx_out hout hlocks hcell hv hcl (fun t ht _ => ⟨⟨x, rfl, rfl⟩, by rw [ht]; exact hR, vm_F hS ht⟩) (fun z hz => hS.2.2 z hz) (Nat.le_refl _) (Nat.le_refl _)
end VMC
