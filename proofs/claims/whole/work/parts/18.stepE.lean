/-! ===== one step of the machine: new, anewarray, natives, switches ===== -/
section VMY
variable {κ : vmK} {p : Program} {l : Launch} {e : Env} {R : Room} {s : State} {m : MethodId} {args : Array Value} {below : List Frame} {meth : Method} {c : Code} {Q : State → Prop} {n0 s0 : Nat} {cc : ByteArray} {own : String} {isI : Bool} {S : List vmS} {pc pc' len : Nat} {en : vmE} {L L' st st' : List Value} {h h' : vmH}
/-- Math.floorMod of ints -/
theorem vm_fm {own : String} {index : Nat} {H : Heap} {locs : List Loc} {cells slots : Nat} {ls : Array Slot} {rest : List Value} (hexec : p.tables.exec = Jvm.exec) (hb : c.code = cc) (hml : c.maxLocals = ls.size) (hown : s.vm.findClass own = some m.cls) (hlink : (Cond.methodLink own index (vmMath 4)).before args s = true) (hstat : (Cond.static (vmMath 4)).before args s = true) (hini : (Cond.initialized "java/lang/Math").before args s = true) (hcode : (Cond.code (vmMath 4) cJ9_floorMod_7cf53 3 (some .int)).before args s = true)
    (hframes : 1 ≤ R.frames) (hlocals : (rest.map fun v => v.category).sum + 14 ≤ R.locals) (hc : cells ≤ R.cells) (hs : slots ≤ R.slots) {x y : Int32} (hy : ¬ y = 0) (hdg : decode cc pc = .ok (.invokestatic index, 3))
    (kk : W p l e R s m args below meth c H locs cells slots Q (F0 m (pc + 3) ls (.int (if (x % y ^^^ y) < 0 ∧ ¬ x % y = 0 then x % y + y else x % y) :: rest))) : W p l e R s m args below meth c H locs cells slots Q (F0 m pc ls (.int y :: .int x :: rest)) := by
  exact fmo_W hexec hb hml hown hlink hstat hini hcode hframes hlocals hc hs hy hdg kk
theorem vs_new (hC : vmCx κ p R s m args meth c cc own isI S) {idx : Nat} (hd : decode cc pc = .ok (.new idx, len)) (ht : vmTrans S own isI pc (.new idx) len = some en) (hst : vmStep en L st h = some (pc', L', st', h'))
    (hn : n0 ≤ h.1) (hs : s0 ≤ h.2.1) (hc : h'.1 - n0 ≤ R.cells) (hsl : h'.2.1 - s0 ≤ R.slots) (hsz : h.2.2.1 = true → s.heap.size ≤ κ.1 + n0)
    (k : vmW κ p l e R s m args below meth c Q n0 s0 h' pc' L' st') : vmW κ p l e R s m args below meth c Q n0 s0 h pc L st := by
  obtain ⟨hx, hb, hown, hts, hex, hin, hS, hfr, hlo⟩ := hC
  simp only [vmTrans] at ht
  split at ht
  · rename_i hl
    subst hl
    split at ht
    · rename_i b _ _ hf
      cases ht
      obtain ⟨rfl, hw, hok⟩ := vmSite hS hf
      obtain ⟨hxx, h6, hr⟩ := vi25 hst
      cases hr
      simp only [vmSOk, Bool.and_eq_true, decide_eq_true_eq] at hok
      have hb13 : b < 13 := Nat.le_of_ble_eq_true hok.2
      obtain ⟨C, T, N, e1, e2, e3, e4, e5, e6, e7, e8, e9⟩ := vmKindOk hb13
      have hlink := hts _ (vmTB_in hw rfl)
      simp only [vmWd, e2] at hlink
      have hc2 : h.1 + 1 - n0 ≤ R.cells := hc
      have hsl2 : h.2.1 + vmN b - s0 ≤ R.slots := hsl
      rw [e3] at hsl2
      intro H locs ls hL hR hS2
      refine vm_size fun hbd => ?_
      have hH := vm_new_at hn hsz hxx h6 hR hbd
      have hKn := hex.1.1 b _ e1
      refine W.newcK hx hb hown hlink (hts _ e8) (hts _ e9) rfl hd (by omega) (by omega) hKn.2.1 rfl (fun H1 kC hkC f1 f2 f3 => ?_)
      have hat : va_at κ.2.1 vwCl (H.size, vmLc κ (.inr (b, vmNew b))) H1 := by
        refine ⟨_, e1, (u_born (vmTy b) hts e5 hKn hkC f1 e6).to fun j hj => ?_⟩
        show defaultValue (vmTy b j) = vp_V ((vmNew b).map (vmLift κ)) j
        unfold vmNew vp_V
        rw [List.map_map, List.getD_eq_getElem?_getD, List.getElem?_map, List.getElem?_range (by rw [e3]; exact hj)]
        show _ = vmLift κ (defaultValue (vmTy b j))
        cases vmTy b j <;> rfl
      have k2 := k H1 locs ls hL (vmRel_add hR hxx h6 trivial hH hat f2 f3) ⟨by have := hS2.1; omega, fun q a1 a2 => (f3 q (Nat.lt_of_lt_of_le a1 hS2.1)).trans (hS2.2.1 q a1 a2), hS2.2.2⟩
      rw [List.map_cons, vmLift_own h6, ← hH] at k2
      rw [show (vmAdd h (vmN b) (.inr (b, vmNew b))).1 - n0 = h.1 - n0 + 1 by show h.1 + 1 - n0 = _; omega, show (vmAdd h (vmN b) (.inr (b, vmNew b))).2.1 - s0 = h.2.1 - s0 + N by show h.2.1 + vmN b - s0 = _; rw [e3]; omega] at k2
      exact k2
    · cases ht
  · cases ht
theorem vs_anewarray (hC : vmCx κ p R s m args meth c cc own isI S) {idx : Nat} (hd : decode cc pc = .ok (.anewarray idx, len)) (ht : vmTrans S own isI pc (.anewarray idx) len = some en) (hst : vmStep en L st h = some (pc', L', st', h'))
    (hn : n0 ≤ h.1) (hs : s0 ≤ h.2.1) (hc : h'.1 - n0 ≤ R.cells) (hsl : h'.2.1 - s0 ≤ R.slots) (hsz : h.2.2.1 = true → s.heap.size ≤ κ.1 + n0)
    (k : vmW κ p l e R s m args below meth c Q n0 s0 h' pc' L' st') : vmW κ p l e R s m args below meth c Q n0 s0 h pc L st := by
  obtain ⟨hx, hb, hown, hts, hex, hin, hS, hfr, hlo⟩ := hC
  have key : ∀ (t : Nat) (C : String) (n : Int32) (st0 : List Value), (Cond.classLink own idx C).before args s = true → va_AO C s → t < 5 → vmTys[t]? = some (.object C) → len = 3 → 0 ≤ n → n.toNatClampNeg ≤ 10000 → h.2.2.1 = true → h.1 < 1000000 → (h.1 + 1 - n0 ≤ R.cells) → (h.2.1 + n.toNatClampNeg - s0 ≤ R.slots) →
      vmW κ p l e R s m args below meth c Q n0 s0 (vmAdd h n.toNatClampNeg (.inl (t, n.toNatClampNeg, .inr (.inr (.inr (.inr fun _ => none)))))) (pc + 3) L (.ref h.1 :: st0) → vmW κ p l e R s m args below meth c Q n0 s0 h pc L (.int n :: st0) := by
    intro t C n st0 hl ho e3 e4 e5 h0 hN hxx h6 hc2 hs2 kx
    subst e5
    intro H locs ls hL hR hS2
    refine vm_size fun hbd => ?_
    have hH := vm_new_at hn hsz hxx h6 hR hbd
    refine W.anew hx hb hown hl (va_AO.use ho) rfl hd rfl (by rw [Int32.not_lt]; exact h0) (by omega) (by omega) (by omega) fun cA kA comp f1 f2 f3 f4 => ?_
    generalize hH1 : H.push ({ cls := cA, slots := Array.replicate n.toNatClampNeg .null, vm := .none } : Cell) = H1
    have z1 : H1.size = H.size + 1 := by rw [← hH1, Array.size_push]
    have g1 : H1[H.size]? = some (arrV cA n.toNatClampNeg (fun _ => .null)) := by rw [← hH1, Array.getElem?_push_size, ← arrV_new]
    have o1 : ∀ q : Nat, q < H.size → H1[q]? = H[q]? := fun q hq => by rw [← hH1, Array.getElem?_push, if_neg (Nat.ne_of_lt hq)]
    have hcA : cA = vmCls κ t := by
      obtain ⟨kA2, comp2, j1, j2, j3, j4⟩ := (hex.1.2 t _ (vmT_at hex e3 e4)).2
      exact Option.some.inj (f1.symm.trans j4)
    subst hcA
    have k2 := kx H1 locs ls hL (vmRel_add hR hxx h6 ⟨e3, fun j r hj => by cases hj⟩ hH g1 z1 o1) ⟨by have := hS2.1; omega, fun q a1 a2 => (o1 q (Nat.lt_of_lt_of_le a1 hS2.1)).trans (hS2.2.1 q a1 a2), hS2.2.2⟩
    rw [List.map_cons, vmLift_own h6, ← hH] at k2
    rw [show (vmAdd h n.toNatClampNeg (.inl (t, n.toNatClampNeg, .inr (.inr (.inr (.inr fun _ => none)))))).1 - n0 = h.1 - n0 + 1 by show h.1 + 1 - n0 = _; omega, show (vmAdd h n.toNatClampNeg (.inl (t, n.toNatClampNeg, .inr (.inr (.inr (.inr fun _ => none)))))).2.1 - s0 = h.2.1 - s0 + n.toNatClampNeg by show h.2.1 + n.toNatClampNeg - s0 = _; omega] at k2
    exact k2
  simp only [vmTrans] at ht
  split at ht
  · rename_i hl
    split at ht
    · rename_i hf
      cases ht
      obtain ⟨rfl, hw, -⟩ := vmSite hS hf
      obtain ⟨n, ce, st0, rfl, hxx, h0, hN, h6, hz, hr⟩ := vi24 hst
      cases hr
      cases hz
      exact key 3 "HedgePark$Scene" n _ (hts _ (vmTB_in hw rfl)) (hex.2.2.2.2.2.2.2.2.2.2.2.1 _ vwV_S) (by omega) rfl hl h0 hN hxx h6 hc hsl k
    · rename_i hf
      cases ht
      obtain ⟨rfl, hw, -⟩ := vmSite hS hf
      obtain ⟨n, ce, st0, rfl, hxx, h0, hN, h6, hz, hr⟩ := vi24 hst
      cases hr
      cases hz
      exact key 4 "HedgePark$Story" n _ (hts _ (vmTB_in hw rfl)) (hex.2.2.2.2.2.2.2.2.2.2.2.1 _ vwV_T) (by omega) rfl hl h0 hN hxx h6 hc hsl k
    · cases ht
  · cases ht
theorem vmCopy_inv {c0 c1 ce' : vmC} {sp dp n : Int32} (h : vmCopy c0 c1 sp dp n = some ce') : ∃ n0 f n1 g, c0 = .inl (0, n0, .inl f) ∧ c1 = .inl (0, n1, .inl g) ∧ (¬ sp < 0 ∧ ¬ dp < 0 ∧ ¬ n < 0 ∧ sp.toNatClampNeg + n.toNatClampNeg ≤ n0 ∧ dp.toNatClampNeg + n.toNatClampNeg ≤ n1) ∧ ce' = .inl (0, n1, .inl (va_cpy f g sp.toNatClampNeg dp.toNatClampNeg n.toNatClampNeg)) := by
  unfold vmCopy at h
  split at h
  · split at h
    · rename_i hi; exact ⟨_, _, _, _, rfl, rfl, hi, (Option.some.inj h).symm⟩
    · cases h
  · cases h
/-- the native and the special calls -/
theorem vs_objInit (hC : vmCx κ p R s m args meth c cc own isI S) {idx i b cf pl : Nat} {a : Int} (hd : decode cc pc = .ok (.invokespecial idx, 3)) (hf : vmFind S idx = some (i, 14, a, b, cf, pl)) (hst : vmStep (28, pc + 3, 0, 0, 0, []) L st h = some (pc', L', st', h'))
    (k : vmW κ p l e R s m args below meth c Q n0 s0 h' pc' L' st') : vmW κ p l e R s m args below meth c Q n0 s0 h pc L st := by
  obtain ⟨hx, hb, hown, hts, hex, hin, hS, hfr, hlo⟩ := hC
  obtain ⟨rfl, hw, -⟩ := vmSite hS hf
  obtain ⟨q, st0, rfl, ho, hcat, hr⟩ := vi28 hst
  cases hr
  intro H locs ls hL hR hS2
  rw [List.map_cons, vmLift_own (vmOwn_lt ho)]
  refine W.objInit hx hb hown (hts _ (vmTB_in hw rfl)) (hts _ vwO1) (hts _ vwO2) rfl hL.2.1 rfl hd hfr ?_ (k H locs ls hL hR hS2)
  show 2 * 0 + _ + 12 ≤ _
  rw [vmCat_lift (vmEX_zv hex)]
  omega
theorem vs_arraycopy (hC : vmCx κ p R s m args meth c cc own isI S) {idx i b cf pl : Nat} {a : Int} (hd : decode cc pc = .ok (.invokestatic idx, 3)) (hf : vmFind S idx = some (i, 15, a, b, cf, pl)) (hst : vmStep (27, pc + 3, 0, 0, 0, []) L st h = some (pc', L', st', h'))
    (k : vmW κ p l e R s m args below meth c Q n0 s0 h' pc' L' st') : vmW κ p l e R s m args below meth c Q n0 s0 h pc L st := by
  obtain ⟨hx, hb, hown, hts, hex, hin, hS, hfr, hlo⟩ := hC
  obtain ⟨rfl, hw, -⟩ := vmSite hS hf
  obtain ⟨n, dp, q1, sp, q0, c0, c1, ce', st0, rfl, ho0, ho1, hcat, hq0, hq1, hv, hr⟩ := vi27 hst
  cases hr
  have h60 := vmOwn_lt ho0
  have h61 := vmOwn_lt ho1
  obtain ⟨m0, f, m1, g, rfl, rfl, ⟨i1, i2, i3, i4, i5⟩, rfl⟩ := vmCopy_inv hv
  intro H locs ls hL hR hS2
  obtain ⟨p0, hp0⟩ := vmWs_get hR h60 hq0
  obtain ⟨p1, hp1⟩ := vmWs_get hR h61 hq1
  rw [List.map_cons, List.map_cons, List.map_cons, List.map_cons, List.map_cons, vmLift_own h60, vmLift_own h61]
  refine va_copyi hx hb hL.2.1.symm hown (hts _ (vmTB_in hw rfl)) (hts _ vwA1) (hts _ vwA2) (hts _ vwA3) hex.1 (vmWs_P hR) vmWs_D hS2 p0 p1 0 0 hp0 hp1 (vmT_at hex (by omega) rfl) (vmT_at hex (by omega) rfl) rfl i1 i2 i3 i4 i5 (fun _ _ => rfl) hfr ?_ hd (fun H1 locs1 a1 a2 a3 => k H1 locs1 ls hL (vmRel_set hR h61 hq1 hp1 (show (0 : Nat) < 5 by omega) a1 (Nat.le_trans (vmEX_sz hex) a3.1)) a3)
  rw [vmCat_lift (vmEX_zv hex)]
  have : nativeFrameWords "java/lang/System" "arraycopy" 5 = 7 := by decide +kernel
  omega
theorem vs_math (hC : vmCx κ p R s m args meth c cc own isI S) {idx i b cf pl : Nat} {a : Int} (hd : decode cc pc = .ok (.invokestatic idx, 3)) (hf : vmFind S idx = some (i, 18, a, b, cf, pl)) (hst : vmStep (29, pc + 3, 0, 0, cf, []) L st h = some (pc', L', st', h')) (hc : h.1 - n0 ≤ R.cells) (hsl : h.2.1 - s0 ≤ R.slots)
    (k : vmW κ p l e R s m args below meth c Q n0 s0 h' pc' L' st') : vmW κ p l e R s m args below meth c Q n0 s0 h pc L st := by
  obtain ⟨hx, hb, hown, hts, hex, hin, hS, hfr, hlo⟩ := hC
  obtain ⟨rfl, hw, -⟩ := vmSite hS hf
  have hlink := hts _ (vmTB_in hw rfl)
  rcases vi29 hst with ⟨x, y, z, st0, rfl, hcat, hz, hr⟩ | ⟨x, y, z, st0, rfl, hcat, hz, hr⟩
  · cases hr
    intro H locs ls hL hR hS2
    have hroom : ((List.map (vmLift κ) st0).map fun v => v.category).sum + 14 ≤ R.locals := by rw [vmCat_lift (vmEX_zv hex)]; omega
    have k2 := k H locs ls hL hR hS2
    match cf, hz, hlink with
    | 0, hz, hlink => cases hz; exact va_mmax hx hb hL.2.1.symm hown hlink (hts _ vwM01) (hts _ vwM5) (hts _ vwM02) hfr (by omega) hc hsl hd k2
    | 1, hz, hlink => cases hz; exact va_mmin hx hb hL.2.1.symm hown hlink (hts _ vwM11) (hts _ vwM5) (hts _ vwM12) hfr (by omega) hc hsl hd k2
    | 2, hz, hlink => cases hz
    | 3, hz, hlink => cases hz
    | 4, hz, hlink =>
      simp only [vmMi] at hz
      split at hz
      · cases hz
      · rename_i hy
        cases hz
        exact vm_fm hx hb hL.2.1.symm hown hlink (hts _ vwM41) (hts _ vwM5) (hts _ vwM42) hfr hroom hc hsl hy hd k2
    | n + 5, hz, hlink => cases hz
  · cases hr
    intro H locs ls hL hR hS2
    have hroom : ((List.map (vmLift κ) st0).map fun v => v.category).sum + 15 ≤ R.locals := by rw [vmCat_lift (vmEX_zv hex)]; omega
    have k2 := k H locs ls hL hR hS2
    match cf, hz, hlink with
    | 0, hz, hlink => cases hz
    | 1, hz, hlink => cases hz
    | 2, hz, hlink =>
      cases hz
      refine va_mmax_long hx hb hL.2.1.symm hown hlink (hts _ vwM21) (hts _ vwM5) (hts _ vwM22) hfr (by omega) hc hsl hd ?_
      rw [show (if y < x then x else y) = (if x < y then y else x) by
        by_cases h1 : x < y
        · rw [if_pos h1, if_neg (fun h2 => Int64.lt_irrefl (Int64.lt_trans h1 h2))]
        · rw [if_neg h1]
          by_cases h2 : y < x
          · rw [if_pos h2]
          · rw [if_neg h2]; exact Int64.le_antisymm (Int64.not_lt.mp h1) (Int64.not_lt.mp h2)]
      exact k2
    | 3, hz, hlink =>
      cases hz
      refine va_mmin_long hx hb hL.2.1.symm hown hlink (hts _ vwM31) (hts _ vwM5) (hts _ vwM32) hfr (by omega) hc hsl hd ?_
      first
        | exact k2
        | (rw [show (if x < y then x else y) = (if y < x then y else x) by
            by_cases h1 : y < x
            · rw [if_pos h1, if_neg (fun h2 => Int64.lt_irrefl (Int64.lt_trans h1 h2))]
            · rw [if_neg h1]
              by_cases h2 : x < y
              · rw [if_pos h2]
              · rw [if_neg h2]; exact Int64.le_antisymm (Int64.not_lt.mp h2) (Int64.not_lt.mp h1)]
           exact k2)
    | 4, hz, hlink => cases hz
    | n + 5, hz, hlink => cases hz
end VMY
