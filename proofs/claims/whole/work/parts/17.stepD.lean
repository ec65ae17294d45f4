/-! ===== one step of the machine: stores, making, natives ===== -/
section VMX
variable {κ : vmK} {p : Program} {l : Launch} {e : Env} {R : Room} {s : State} {m : MethodId} {args : Array Value} {below : List Frame} {meth : Method} {c : Code} {Q : State → Prop} {n0 s0 : Nat} {cc : ByteArray} {own : String} {isI : Bool} {S : List vmS} {pc pc' len : Nat} {en : vmE} {L L' st st' : List Value} {h h' : vmH}
theorem vmSt_inv {k : Nat} {ce ce' : vmC} {i : Int32} {v : Value} (h : vmSt k ce i v = some ce') :
    (∃ n f x, k = 0 ∧ ce = .inl (0, n, .inl f) ∧ v = .int x ∧ vmIn i n = true ∧ ce' = .inl (0, n, .inl (upd f i.toNatClampNeg x))) ∨ (∃ n f x, k = 1 ∧ ce = .inl (1, n, .inr (.inl f)) ∧ v = .long x ∧ vmIn i n = true ∧ ce' = .inl (1, n, .inr (.inl (va_up f i.toNatClampNeg x)))) ∨
    (∃ n f x, k = 2 ∧ ce = .inl (2, n, .inl f) ∧ v = .int x ∧ vmIn i n = true ∧ (x = 0 ∨ x = 1) ∧ ce' = .inl (2, n, .inl (upd f i.toNatClampNeg x))) := by
  unfold vmSt at h
  split at h
  · split at h
    · rename_i hi; exact Or.inl ⟨_, _, _, rfl, rfl, rfl, hi, (Option.some.inj h).symm⟩
    · cases h
  · split at h
    · rename_i hi; exact Or.inr (Or.inl ⟨_, _, _, rfl, rfl, rfl, hi, (Option.some.inj h).symm⟩)
    · cases h
  · split at h
    · rename_i hi
      split at h
      · rename_i hz; exact Or.inr (Or.inr ⟨_, _, _, rfl, rfl, rfl, hi, hz, (Option.some.inj h).symm⟩)
      · cases h
    · cases h
  · cases h
theorem vs_iastore (hC : vmCx κ p R s m args meth c cc own isI S) (hd : decode cc pc = .ok (.iastore, len)) (ht : vmTrans S own isI pc (.iastore) len = some en) (hst : vmStep en L st h = some (pc', L', st', h'))
    (k : vmW κ p l e R s m args below meth c Q n0 s0 h' pc' L' st') : vmW κ p l e R s m args below meth c Q n0 s0 h pc L st := by
  obtain ⟨hx, hb, hown, hts, hex, hin, hS, hfr, hlo⟩ := hC
  simp only [vmTrans] at ht
  split at ht
  · rename_i hl
    subst hl
    cases ht
    obtain ⟨v, i, q, ce, ce', st0, rfl, ho, hq, hv, hr⟩ := vi19 hst
    cases hr
    have h6 := vmOwn_lt ho
    rcases vmSt_inv hv with ⟨n, f, x, h0, rfl, rfl, hi, rfl⟩ | ⟨_, _, _, h0, _⟩ | ⟨_, _, _, h0, _⟩ <;> cases h0
    intro H locs ls hL hR hS2
    obtain ⟨q0, hq0⟩ := vmWs_get hR h6 hq
    rw [List.map_cons, List.map_cons, List.map_cons, vmLift_own h6]
    exact va_iast hx hb hex.1 (vmWs_P hR) vmWs_D hS2 q0 0 hq0 (vmT_at hex (by omega) rfl) (vmIn_vp hi) hd (fun H1 locs1 a1 a2 a3 => k H1 locs1 ls hL (vmRel_set hR h6 hq hq0 (show (0 : Nat) < 5 by omega) a1 (Nat.le_trans (vmEX_sz hex) a3.1)) a3)
  · cases ht
theorem vs_lastore (hC : vmCx κ p R s m args meth c cc own isI S) (hd : decode cc pc = .ok (.lastore, len)) (ht : vmTrans S own isI pc (.lastore) len = some en) (hst : vmStep en L st h = some (pc', L', st', h'))
    (k : vmW κ p l e R s m args below meth c Q n0 s0 h' pc' L' st') : vmW κ p l e R s m args below meth c Q n0 s0 h pc L st := by
  obtain ⟨hx, hb, hown, hts, hex, hin, hS, hfr, hlo⟩ := hC
  simp only [vmTrans] at ht
  split at ht
  · rename_i hl
    subst hl
    cases ht
    obtain ⟨v, i, q, ce, ce', st0, rfl, ho, hq, hv, hr⟩ := vi19 hst
    cases hr
    have h6 := vmOwn_lt ho
    rcases vmSt_inv hv with ⟨_, _, _, h0, _⟩ | ⟨n, f, x, h0, rfl, rfl, hi, rfl⟩ | ⟨_, _, _, h0, _⟩ <;> cases h0
    intro H locs ls hL hR hS2
    obtain ⟨q0, hq0⟩ := vmWs_get hR h6 hq
    rw [List.map_cons, List.map_cons, List.map_cons, vmLift_own h6]
    exact va_last hx hb hex.1 (vmWs_P hR) vmWs_D hS2 q0 1 hq0 (vmT_at hex (by omega) rfl) (vmIn_vp hi) hd (fun H1 locs1 a1 a2 a3 => k H1 locs1 ls hL (vmRel_set hR h6 hq hq0 (show (1 : Nat) < 5 by omega) a1 (Nat.le_trans (vmEX_sz hex) a3.1)) a3)
  · cases ht
theorem vs_bastore (hC : vmCx κ p R s m args meth c cc own isI S) (hd : decode cc pc = .ok (.bastore, len)) (ht : vmTrans S own isI pc (.bastore) len = some en) (hst : vmStep en L st h = some (pc', L', st', h'))
    (k : vmW κ p l e R s m args below meth c Q n0 s0 h' pc' L' st') : vmW κ p l e R s m args below meth c Q n0 s0 h pc L st := by
  obtain ⟨hx, hb, hown, hts, hex, hin, hS, hfr, hlo⟩ := hC
  simp only [vmTrans] at ht
  split at ht
  · rename_i hl
    subst hl
    cases ht
    obtain ⟨v, i, q, ce, ce', st0, rfl, ho, hq, hv, hr⟩ := vi19 hst
    cases hr
    have h6 := vmOwn_lt ho
    rcases vmSt_inv hv with ⟨_, _, _, h0, _⟩ | ⟨_, _, _, h0, _⟩ | ⟨n, f, x, h0, rfl, rfl, hi, hzo, rfl⟩ <;> cases h0
    intro H locs ls hL hR hS2
    obtain ⟨q0, hq0⟩ := vmWs_get hR h6 hq
    have hnar : vp_nar .boolean x = x := by rcases hzo with rfl | rfl <;> rfl
    rw [List.map_cons, List.map_cons, List.map_cons, vmLift_own h6]
    exact va_zast hx hb hex.1 (vmWs_P hR) vmWs_D hS2 q0 2 hq0 (vmT_at hex (by omega) rfl) (vmIn_vp hi) hd (fun H1 locs1 a1 a2 a3 => k H1 locs1 ls hL (vmRel_set hR h6 hq hq0 (show (2 : Nat) < 5 by omega) (by rw [hnar] at a1; exact a1) (Nat.le_trans (vmEX_sz hex) a3.1)) a3)
  · cases ht
theorem vmAst_inv {ce th ce' : vmC} {i : Int32} {a : Nat} (h : vmAst ce th i a = some ce') : ∃ t n f ci fs, ((t = 3 ∧ ci = 7) ∨ (t = 4 ∧ ci = 8)) ∧ ce = .inl (t, n, .inr (.inr (.inr (.inr f)))) ∧ th = .inr (ci, fs) ∧ vmIn i n = true ∧ ce' = .inl (t, n, .inr (.inr (.inr (.inr (va_up f i.toNatClampNeg (some a)))))) := by
  unfold vmAst at h
  split at h
  · split at h
    · rename_i hi; exact ⟨3, _, _, 7, _, Or.inl ⟨rfl, rfl⟩, rfl, rfl, hi, (Option.some.inj h).symm⟩
    · cases h
  · split at h
    · rename_i hi; exact ⟨4, _, _, 8, _, Or.inr ⟨rfl, rfl⟩, rfl, rfl, hi, (Option.some.inj h).symm⟩
    · cases h
  · cases h
theorem vmUp_map {f : Nat → Option Nat} {i x : Nat} : (fun j => (va_up f i (some x) j).map (vmAd κ)) = va_up (fun j => (f j).map (vmAd κ)) i (some (vmAd κ x)) := by
  funext j
  unfold va_up
  by_cases h : j = i
  · simp [h]
  · simp [h]
theorem vs_aastore (hC : vmCx κ p R s m args meth c cc own isI S) (hd : decode cc pc = .ok (.aastore, len)) (ht : vmTrans S own isI pc (.aastore) len = some en) (hst : vmStep en L st h = some (pc', L', st', h'))
    (k : vmW κ p l e R s m args below meth c Q n0 s0 h' pc' L' st') : vmW κ p l e R s m args below meth c Q n0 s0 h pc L st := by
  obtain ⟨hx, hb, hown, hts, hex, hin, hS, hfr, hlo⟩ := hC
  simp only [vmTrans] at ht
  split at ht
  · rename_i hl
    subst hl
    cases ht
    obtain ⟨x, i, q, ce, th, ce', st0, rfl, ho, ho2, hq, hq2, hv, hr⟩ := vi20 hst
    cases hr
    have h6 := vmOwn_lt ho
    have h62 := vmOwn_lt ho2
    obtain ⟨t, n, f, ci, fs, htc, rfl, rfl, hi, rfl⟩ := vmAst_inv hv
    intro H locs ls hL hR hS2
    obtain ⟨q0, hq0⟩ := vmWs_get hR h6 hq
    obtain ⟨q1, hq1⟩ := vmWs_get hR h62 hq2
    have hok := (hR.1 q _ h6 hq).2.2
    have hok2 : vmCok (.inl (t, n, .inr (.inr (.inr (.inr (va_up f i.toNatClampNeg (some x))))))) := by
      refine ⟨hok.1, fun j r hj => ?_⟩
      unfold va_up at hj
      split at hj
      · cases hj; exact h62
      · exact hok.2 j r hj
    have hax : vmAd κ x = κ.1 + x := by unfold vmAd; rw [if_pos h62]
    rw [List.map_cons, List.map_cons, List.map_cons, vmLift_own h6, vmLift_own h62]
    have goon : ∀ (H1 : Heap) (locs1 : List Loc), va_P κ.2.1 vwCl ((vmWs κ h).set q0 (κ.1 + q, .inl (vmCls κ t, n, .inr (.inr (.inr (.inr (va_up (fun j => (f j).map (vmAd κ)) i.toNatClampNeg (some (κ.1 + x))))))))) H1 → va_S (vmA κ) s.heap H1 locs1 → W p l e R s m args below meth c H1 locs1 (h.1 - n0) (h.2.1 - s0) Q (F0 m (pc + 1) ls (st'.map (vmLift κ))) := by
      intro H1 locs1 a1 a3
      refine k H1 locs1 ls hL (vmRel_set hR h6 hq hq0 hok2 ?_ (Nat.le_trans (vmEX_sz hex) a3.1)) a3
      rw [← hax, ← vmUp_map] at a1
      exact a1
    rcases htc with ⟨rfl, rfl⟩ | ⟨rfl, rfl⟩
    · exact va_astq hx hb hex.1 (vmWs_P hR) vmWs_D hS2 q0 3 q1 7 hq0 (r := (RX7, TX7, 7)) (vmT_at hex (by omega) rfl) hq1 rfl (vmIn_vp hi) hd (fun H1 locs1 a1 a2 a3 => goon H1 locs1 a1 a3)
    · exact va_astq hx hb hex.1 (vmWs_P hR) vmWs_D hS2 q0 4 q1 8 hq0 (r := (RX8, TX8, 6)) (vmT_at hex (by omega) rfl) hq1 rfl (vmIn_vp hi) hd (fun H1 locs1 a1 a2 a3 => goon H1 locs1 a1 a3)
  · cases ht
/-- room and place for a new cell -/
theorem vm_new_at (hn : n0 ≤ h.1) (hsz : h.2.2.1 = true → s.heap.size ≤ κ.1 + n0) (hxx : h.2.2.1 = true) (h6 : h.1 < 1000000) {H : Heap} (hR : vmRel κ h H) (hb : H.size ≤ s.heap.size + (h.1 - n0)) : H.size = κ.1 + h.1 := by
  have h1 := vmRel_lo hR hxx (by omega)
  have h2 := hsz hxx
  omega
theorem vs_newarray (hC : vmCx κ p R s m args meth c cc own isI S) {t : ArrayType} (hd : decode cc pc = .ok (.newarray t, len)) (ht : vmTrans S own isI pc (.newarray t) len = some en) (hst : vmStep en L st h = some (pc', L', st', h'))
    (hn : n0 ≤ h.1) (hs : s0 ≤ h.2.1) (hc : h'.1 - n0 ≤ R.cells) (hsl : h'.2.1 - s0 ≤ R.slots) (hsz : h.2.2.1 = true → s.heap.size ≤ κ.1 + n0)
    (k : vmW κ p l e R s m args below meth c Q n0 s0 h' pc' L' st') : vmW κ p l e R s m args below meth c Q n0 s0 h pc L st := by
  obtain ⟨hx, hb, hown, hts, hex, hin, hS, hfr, hlo⟩ := hC
  simp only [vmTrans] at ht
  split at ht
  · rename_i hl
    subst hl
    have key : ∀ (b : Nat) (ty : FieldType) (N : Nat) (a0 : vp_A) (n : Int32) (st0 : List Value) (kx : vmW κ p l e R s m args below meth c Q n0 s0 (vmAdd h N (.inl (b, a0))) (pc + 2) L (.ref h.1 :: st0)), newarray.typeOf t = ty → (Cond.arrayClass ty) ∈ vmTB → b < 5 → vmTys[b]? = some ty → vmCok (.inl (b, a0)) → n.toNatClampNeg = N → N ≤ 10000 → 0 ≤ n → h.2.2.1 = true → h.1 < 1000000 → (∀ cA : ClassId, vp_cell cA (vmLa κ a0) = arrV cA N (fun _ => defaultValue ty)) → (h.1 + 1 - n0 ≤ R.cells) → (h.2.1 + N - s0 ≤ R.slots) → N * componentBytes ty ≤ 536870912 → (∀ cA, va_RA s cA ty → s.vm.findClass ("[" ++ ty.toString) = some cA) →
        vmW κ p l e R s m args below meth c Q n0 s0 h pc L (.int n :: st0) := by
      intro b ty N a0 n st0 kx e1 e2 e3 e4 e5 e6 e7 e8 e9 e10 e11 e12 e13 e14 e15
      intro H locs ls hL hR hS2
      refine vm_size fun hbd => ?_
      have hH := vm_new_at hn hsz e9 e10 hR hbd
      subst e1
      refine va_newaK hx hb (hts _ e2) rfl hd rfl (by rw [Int32.not_lt]; exact e8) e6 e14 (by omega) (by omega) rfl (fun H1 cA f1 f2 f3 f4 f5 => ?_)
      have hcA : cA = vmCls κ b := by
        have := e15 _ (hex.1.2 b _ (vmT_at hex e3 e4)).2
        exact Option.some.inj (f5.symm.trans this)
      subst hcA
      have hrel : vmRel κ (vmAdd h N (.inl (b, a0))) H1 := vmRel_add hR e9 e10 e5 hH (by show H1[H.size]? = some (vp_cell (vmCls κ b) (vmLa κ a0)); rw [e11]; exact f1) f2 f3
      have k2 := kx H1 locs ls hL hrel ⟨by have := hS2.1; omega, fun q a1 a2 => (f3 q (Nat.lt_of_lt_of_le a1 hS2.1)).trans (hS2.2.1 q a1 a2), hS2.2.2⟩
      rw [List.map_cons, vmLift_own e10, ← hH] at k2
      rw [show (vmAdd h N (.inl (b, a0))).1 - n0 = h.1 - n0 + 1 by show h.1 + 1 - n0 = _; omega, show (vmAdd h N (.inl (b, a0))).2.1 - s0 = h.2.1 - s0 + N by show h.2.1 + N - s0 = _; omega] at k2
      exact k2
    cases t
    all_goals first | (simp at ht; done) | skip
    all_goals
      cases ht
      obtain ⟨n, ce, st0, rfl, hxx, h0, hN, h6, hz, hr⟩ := vi24 hst
      cases hr
      cases hz
    · exact key 2 .boolean _ _ n _ k rfl vwR_boolean (by omega) rfl (show (2 : Nat) < 5 by omega) rfl hN h0 hxx h6 (fun _ => rfl) hc hsl (by show _ * 1 ≤ _; omega) (fun cA hq => hq)
    · exact key 0 .int _ _ n _ k rfl vwR_int (by omega) rfl (show (0 : Nat) < 5 by omega) rfl hN h0 hxx h6 (fun _ => rfl) hc hsl (by show _ * 4 ≤ _; omega) (fun cA hq => hq)
    · exact key 1 .long _ _ n _ k rfl vwR_long (by omega) rfl (show (1 : Nat) < 5 by omega) rfl hN h0 hxx h6 (fun _ => rfl) hc hsl (by show _ * 8 ≤ _; omega) (fun cA hq => hq)
  · cases ht
end VMX
