/-! ===== one step of the machine: writing, arrays, making ===== -/
section VMV
variable {κ : vmK} {p : Program} {l : Launch} {e : Env} {R : Room} {s : State} {m : MethodId} {args : Array Value} {below : List Frame} {meth : Method} {c : Code} {Q : State → Prop} {n0 s0 : Nat} {cc : ByteArray} {own : String} {isI : Bool} {S : List vmS} {pc pc' len : Nat} {en : vmE} {L L' st st' : List Value} {h h' : vmH}
theorem vmEX_sz {U : State} (h : vmEX κ U) : κ.1 ≤ U.heap.size := h.2.2.2.2.2.2.2.2.2.2.2.2.2.1
theorem vmFit_lift (hz : vmZv κ) {ty : FieldType} {v : Value} (hf : vmFit ty v = true) : fits ty (vmLift κ v) = true ∧ narrow ty (vmLift κ v) = vmLift κ v := by
  unfold vmFit at hf
  simp only [Bool.and_eq_true, decide_eq_true_eq] at hf
  cases v with
  | ref r =>
    unfold vmLift
    dsimp only
    split
    · cases ty <;> first | (exact ⟨rfl, rfl⟩) | (simp [fits] at hf)
    · rcases hz with h | ⟨t, h⟩ <;> rw [h] <;> cases ty <;> first | (exact ⟨rfl, rfl⟩) | (simp [fits] at hf)
  | _ => exact hf
theorem vs_putfield (hC : vmCx κ p R s m args meth c cc own isI S) {idx : Nat} (hd : decode cc pc = .ok (.putfield idx, len)) (ht : vmTrans S own isI pc (.putfield idx) len = some en) (hst : vmStep en L st h = some (pc', L', st', h'))
    (k : vmW κ p l e R s m args below meth c Q n0 s0 h' pc' L' st') : vmW κ p l e R s m args below meth c Q n0 s0 h pc L st := by
  obtain ⟨hx, hb, hown, hts, hex, hin, hS, hfr, hlo⟩ := hC
  simp only [vmTrans] at ht
  split at ht
  · rename_i hl
    subst hl
    split at ht
    · rename_i b cf _ hf
      split at ht
      · rename_i hcond
        obtain ⟨hb13, hcN, hfinal⟩ := hcond
        cases ht
        obtain ⟨rfl, hw, -⟩ := vmSite hS hf
        obtain ⟨v, q, fs, st0, rfl, hq, hlen, ho, hfit, hr⟩ := vi16 hst
        cases hr
        have hlink := hts _ (vmTB_in hw rfl)
        have h6 := vmOwn_lt ho
        obtain ⟨C, T, N, e1, e2, e3, e4, e5, e6, e7, e8, e9⟩ := vmKindOk hb13
        simp only [vmWd, e4] at hlink
        obtain ⟨hfit1, hfit2⟩ := vmFit_lift (vmEX_zv hex) hfit
        intro H locs ls hL hR hS2
        obtain ⟨q0, hq0⟩ := vmWs_get hR h6 hq
        rw [List.map_cons, List.map_cons, vmLift_own h6]
        have hlen2 : cf < (fs.map (vmLift κ)).length := by rw [List.length_map]; exact hlen
        have goon : ∀ (H1 : Heap) (locs1 : List Loc), va_P κ.2.1 vwCl ((vmWs κ h).set q0 (κ.1 + q, .inr (b, (fs.map (vmLift κ)).set cf (vmLift κ v)))) H1 → va_S (vmA κ) s.heap H1 locs1 → W p l e R s m args below meth c H1 locs1 (h.1 - n0) (h.2.1 - s0) Q (F0 m (pc + 3) ls (st'.map (vmLift κ))) := by
          intro H1 locs1 hP1 hS1
          exact k H1 locs1 ls hL (vmRel_set hR h6 hq hq0 trivial (by rw [← List.map_set] at hP1; exact hP1) (Nat.le_trans (vmEX_sz hex) hS1.1)) hS1
        cases hfn : (T cf).2.2.2 with
        | false =>
          exact va_put hx hb hts e5 (vmTy b) e6 e7 hown hex.1 (vmWs_P hR) vmWs_D hS2 q0 hq0 e1 cf (by rw [← e3]; exact hcN) hlink (fun _ h => h) hfn (e6 cf (by rw [← e3]; exact hcN)) hfit2 hfit1 hlen2 hd (fun H1 locs1 a1 a2 a3 => goon H1 locs1 a1 a3)
        | true =>
          obtain ⟨i1, i2⟩ := hfinal (by rw [e4]; exact hfn)
          exact va_putF hx hb hts e5 (vmTy b) e6 e7 hown hex.1 (vmWs_P hR) vmWs_D hS2 q0 hq0 e1 cf (by rw [← e3]; exact hcN) hlink (fun _ h => h) hfn (hin i1) (by rw [← e4]; exact i2) (e6 cf (by rw [← e3]; exact hcN)) hfit2 hfit1 hlen2 hd (fun H1 locs1 a1 a2 a3 => goon H1 locs1 a1 a3)
      · cases ht
    · cases ht
  · cases ht
theorem vmByt_a (i : Nat) : (vmTxs.map fun t => t.toList.map fun ch => Int32.ofNat ch.toNat).getD i [] = vmByt i := by
  unfold vmByt
  rw [List.getD_eq_getElem?_getD, List.getElem?_map]
  cases hg : vmTxs[i]? with
  | none => rfl
  | some t => rfl
theorem vmByt_b (i : Nat) : (vmTxs.map fun t => t.toList.length).getD i 0 = (vmByt i).length := by
  unfold vmByt
  rw [List.getD_eq_getElem?_getD, List.getElem?_map]
  cases hg : vmTxs[i]? with
  | none => rfl
  | some t => simp
theorem vmStr_row (hex : vmEX κ s) {i : Nat} (hi : i < vmTxs.length) : va_T .byte (κ.2.2.2.2.1 i) (vmByt i).length (fun j => .int ((vmByt i).getD j 0)) (vmA κ) s s.heap := by
  have h := (hex.2.2.2.2.1.1 _ hi).2.2.2
  rw [vmByt_a, vmByt_b] at h
  exact h
theorem vm_size {H : Heap} {locs : List Loc} {cells slots : Nat} {g : JFrame} (k : H.size ≤ s.heap.size + cells → W p l e R s m args below meth c H locs cells slots Q g) : W p l e R s m args below meth c H locs cells slots Q g := fun T hT X => k (by rw [← hT]; exact X.heapSize) T hT X
theorem vs_arraylength (hC : vmCx κ p R s m args meth c cc own isI S) (hd : decode cc pc = .ok (.arraylength, len)) (ht : vmTrans S own isI pc (.arraylength) len = some en) (hst : vmStep en L st h = some (pc', L', st', h'))
    (k : vmW κ p l e R s m args below meth c Q n0 s0 h' pc' L' st') : vmW κ p l e R s m args below meth c Q n0 s0 h pc L st := by
  obtain ⟨hx, hb, hown, hts, hex, hin, hS, hfr, hlo⟩ := hC
  simp only [vmTrans] at ht
  split at ht
  · rename_i hl
    subst hl
    cases ht
    obtain ⟨q, ce, n, st0, rfl, hq, hn, hr⟩ := vi17 hst
    cases hr
    intro H locs ls hL hR hS2
    rcases ce with ⟨t, N, cont⟩ | ⟨ci, fs⟩
    · have hn2 : Int32.ofNat N = n := Option.some.inj hn
      by_cases h6 : q < 1000000
      · obtain ⟨q0, hq0⟩ := vmWs_get hR h6 hq
        obtain ⟨ty, hty, -⟩ := vmTys_at hex.2.1 (vmCok_lt (hR.1 q _ h6 hq).2.2)
        rw [List.map_cons, vmLift_own h6]
        refine va_alen hx hb hex.1 (vmWs_P hR) q0 t hq0 hty ?_ hd (k H locs ls hL hR hS2)
        rw [← hn2]
        unfold vmLa
        rcases cont with f | f | f | f | f <;> rfl
      · have hqx := hR.2.2.1 q (by omega)
        rw [hq] at hqx
        rcases vmExt_inv (by omega) hqx.symm with ⟨a1, a2, a3, a4⟩ | ⟨a1, a2, a3, a4⟩ | ⟨a1, a4⟩
        · cases a4
        · cases a4
          have hs := vmStr_row hex a2
          rw [List.map_cons, vmLift_ref (by omega), vmAd_row (by omega) a1 a3]
          exact va_tlen hx hb hs hS2 hn2 hd (k H locs ls hL hR hS2)
        · subst a1
          cases a4
          rw [List.map_cons, vmLift_ref (by omega)]
          rw [← hn2] at k
          exact va_slen hx hb hex.2.2.2.2.2.2.2.2.1 (Nat.lt_of_lt_of_le hex.2.2.2.2.2.2.2.2.2.1 (vmEX_sz hex)) (Nat.not_le.mpr hex.2.2.2.2.2.2.2.2.2.1) hS2 hd (k H locs ls hL hR hS2)
    · cases hn
  · cases ht
theorem vmLd_inv {k : Nat} {ce : vmC} {i : Int32} {v : Value} (h : vmLd k ce i = some v) :
    (∃ n f, k = 0 ∧ ce = .inl (0, n, .inl f) ∧ vmIn i n = true ∧ v = .int (f i.toNatClampNeg)) ∨ (∃ n f, k = 1 ∧ ce = .inl (1, n, .inr (.inl f)) ∧ vmIn i n = true ∧ v = .long (f i.toNatClampNeg)) ∨
    (∃ n f, k = 2 ∧ ce = .inl (2, n, .inl f) ∧ vmIn i n = true ∧ v = .int (f i.toNatClampNeg)) ∨ (∃ n f, k = 2 ∧ ce = .inl (5, n, .inl f) ∧ vmIn i n = true ∧ v = .int (f i.toNatClampNeg)) ∨
    (∃ n f, k = 3 ∧ ce = .inl (3, n, .inr (.inr (.inr (.inr f)))) ∧ vmIn i n = true ∧ v = va_rf (f i.toNatClampNeg)) ∨ (∃ n f, k = 3 ∧ ce = .inl (4, n, .inr (.inr (.inr (.inr f)))) ∧ vmIn i n = true ∧ v = va_rf (f i.toNatClampNeg)) := by
  unfold vmLd at h
  split at h <;> first | (split at h <;> first | (rename_i hi; exact Or.inl ⟨_, _, rfl, rfl, hi, (Option.some.inj h).symm⟩) | (rename_i hi; exact Or.inr (Or.inl ⟨_, _, rfl, rfl, hi, (Option.some.inj h).symm⟩)) | (rename_i hi; exact Or.inr (Or.inr (Or.inl ⟨_, _, rfl, rfl, hi, (Option.some.inj h).symm⟩))) | (rename_i hi; exact Or.inr (Or.inr (Or.inr (Or.inl ⟨_, _, rfl, rfl, hi, (Option.some.inj h).symm⟩)))) | (rename_i hi; exact Or.inr (Or.inr (Or.inr (Or.inr (Or.inl ⟨_, _, rfl, rfl, hi, (Option.some.inj h).symm⟩))))) | (rename_i hi; exact Or.inr (Or.inr (Or.inr (Or.inr (Or.inr ⟨_, _, rfl, rfl, hi, (Option.some.inj h).symm⟩))))) | cases h) | cases h
/-- an own array of ints or longs, as the world has it -/
theorem vmT_at (hex : vmEX κ s) {t : Nat} (ht : t < 5) {ty : FieldType} (hv : vmTys[t]? = some ty) : κ.2.2.1[t]? = some (vmCls κ t, ty) := by
  obtain ⟨ty2, h1, h2⟩ := vmTys_at hex.2.1 ht
  rw [hv] at h2
  cases h2
  exact h1
theorem vs_iaload (hC : vmCx κ p R s m args meth c cc own isI S) (hd : decode cc pc = .ok (.iaload, len)) (ht : vmTrans S own isI pc (.iaload) len = some en) (hst : vmStep en L st h = some (pc', L', st', h'))
    (k : vmW κ p l e R s m args below meth c Q n0 s0 h' pc' L' st') : vmW κ p l e R s m args below meth c Q n0 s0 h pc L st := by
  obtain ⟨hx, hb, hown, hts, hex, hin, hS, hfr, hlo⟩ := hC
  simp only [vmTrans] at ht
  split at ht
  · rename_i hl
    subst hl
    cases ht
    obtain ⟨i, q, ce, v, st0, rfl, hq, hv, hr⟩ := vi18 hst
    cases hr
    rcases vmLd_inv hv with ⟨n, f, h0, rfl, hi, rfl⟩ | ⟨_, _, h0, _⟩ | ⟨_, _, h0, _⟩ | ⟨_, _, h0, _⟩ | ⟨_, _, h0, _⟩ | ⟨_, _, h0, _⟩ <;> cases h0
    intro H locs ls hL hR hS2
    by_cases h6 : q < 1000000
    · obtain ⟨q0, hq0⟩ := vmWs_get hR h6 hq
      rw [List.map_cons, List.map_cons, vmLift_own h6]
      exact va_iald hx hb hex.1 (vmWs_P hR) q0 0 hq0 (vmT_at hex (by omega) rfl) (vmIn_vp hi) hd (k H locs ls hL hR hS2)
    · have hqx := hR.2.2.1 q (by omega)
      rw [hq] at hqx
      rcases vmExt_inv (by omega) hqx.symm with ⟨a1, a2, a3, a4⟩ | ⟨a1, a2, a3, a4⟩ | ⟨a1, a4⟩
      · cases a4
      · cases a4
      · subst a1
        cases a4
        rw [List.map_cons, List.map_cons, vmLift_ref (by omega)]
        exact va_sld hx hb hex.2.2.2.2.2.2.2.2.1 (Nat.lt_of_lt_of_le hex.2.2.2.2.2.2.2.2.2.1 (vmEX_sz hex)) (Nat.not_le.mpr hex.2.2.2.2.2.2.2.2.2.1) hS2 (vmIn_vp hi) hd (k H locs ls hL hR hS2)
  · cases ht
theorem vs_laload (hC : vmCx κ p R s m args meth c cc own isI S) (hd : decode cc pc = .ok (.laload, len)) (ht : vmTrans S own isI pc (.laload) len = some en) (hst : vmStep en L st h = some (pc', L', st', h'))
    (k : vmW κ p l e R s m args below meth c Q n0 s0 h' pc' L' st') : vmW κ p l e R s m args below meth c Q n0 s0 h pc L st := by
  obtain ⟨hx, hb, hown, hts, hex, hin, hS, hfr, hlo⟩ := hC
  simp only [vmTrans] at ht
  split at ht
  · rename_i hl
    subst hl
    cases ht
    obtain ⟨i, q, ce, v, st0, rfl, hq, hv, hr⟩ := vi18 hst
    cases hr
    rcases vmLd_inv hv with ⟨_, _, h0, _⟩ | ⟨n, f, h0, rfl, hi, rfl⟩ | ⟨_, _, h0, _⟩ | ⟨_, _, h0, _⟩ | ⟨_, _, h0, _⟩ | ⟨_, _, h0, _⟩ <;> cases h0
    intro H locs ls hL hR hS2
    by_cases h6 : q < 1000000
    · obtain ⟨q0, hq0⟩ := vmWs_get hR h6 hq
      rw [List.map_cons, List.map_cons, vmLift_own h6]
      exact va_lald hx hb hex.1 (vmWs_P hR) q0 1 hq0 (vmT_at hex (by omega) rfl) (vmIn_vp hi) hd (k H locs ls hL hR hS2)
    · have hqx := hR.2.2.1 q (by omega)
      rw [hq] at hqx
      rcases vmExt_inv (by omega) hqx.symm with ⟨a1, a2, a3, a4⟩ | ⟨a1, a2, a3, a4⟩ | ⟨a1, a4⟩ <;> cases a4
  · cases ht
theorem vs_baload (hC : vmCx κ p R s m args meth c cc own isI S) (hd : decode cc pc = .ok (.baload, len)) (ht : vmTrans S own isI pc (.baload) len = some en) (hst : vmStep en L st h = some (pc', L', st', h'))
    (k : vmW κ p l e R s m args below meth c Q n0 s0 h' pc' L' st') : vmW κ p l e R s m args below meth c Q n0 s0 h pc L st := by
  obtain ⟨hx, hb, hown, hts, hex, hin, hS, hfr, hlo⟩ := hC
  simp only [vmTrans] at ht
  split at ht
  · rename_i hl
    subst hl
    cases ht
    obtain ⟨i, q, ce, v, st0, rfl, hq, hv, hr⟩ := vi18 hst
    cases hr
    rcases vmLd_inv hv with ⟨_, _, h0, _⟩ | ⟨_, _, h0, _⟩ | ⟨n, f, h0, rfl, hi, rfl⟩ | ⟨n, f, h0, rfl, hi, rfl⟩ | ⟨_, _, h0, _⟩ | ⟨_, _, h0, _⟩ <;> cases h0
    · intro H locs ls hL hR hS2
      by_cases h6 : q < 1000000
      · obtain ⟨q0, hq0⟩ := vmWs_get hR h6 hq
        rw [List.map_cons, List.map_cons, vmLift_own h6]
        exact va_zald hx hb hex.1 (vmWs_P hR) q0 2 hq0 (vmT_at hex (by omega) rfl) (vmIn_vp hi) hd (k H locs ls hL hR hS2)
      · have hqx := hR.2.2.1 q (by omega)
        rw [hq] at hqx
        rcases vmExt_inv (by omega) hqx.symm with ⟨a1, a2, a3, a4⟩ | ⟨a1, a2, a3, a4⟩ | ⟨a1, a4⟩ <;> cases a4
    · intro H locs ls hL hR hS2
      by_cases h6 : q < 1000000
      · exact absurd (vmCok_lt (hR.1 q _ h6 hq).2.2) (by omega)
      · have hqx := hR.2.2.1 q (by omega)
        rw [hq] at hqx
        rcases vmExt_inv (by omega) hqx.symm with ⟨a1, a2, a3, a4⟩ | ⟨a1, a2, a3, a4⟩ | ⟨a1, a4⟩
        · cases a4
        · cases a4
          have hs := vmStr_row hex a2
          rw [List.map_cons, List.map_cons, vmLift_ref (by omega), vmAd_row (by omega) a1 a3]
          exact va_tb hx hb hs hS2 (vmIn_vp hi) rfl hd (k H locs ls hL hR hS2)
        · cases a4
  · cases ht
theorem vmRf_lift {f : Nat → Option Nat} (hf : ∀ j r, f j = some r → r < 1000000) (j : Nat) : va_rf ((f j).map (vmAd κ)) = vmLift κ (va_rf (f j)) := by
  cases hj : f j with
  | none => rfl
  | some r =>
    show Value.ref (vmAd κ r) = vmLift κ (.ref r)
    rw [vmLift_ref (by have := hf j r hj; omega)]
theorem vs_aaload (hC : vmCx κ p R s m args meth c cc own isI S) (hd : decode cc pc = .ok (.aaload, len)) (ht : vmTrans S own isI pc (.aaload) len = some en) (hst : vmStep en L st h = some (pc', L', st', h'))
    (k : vmW κ p l e R s m args below meth c Q n0 s0 h' pc' L' st') : vmW κ p l e R s m args below meth c Q n0 s0 h pc L st := by
  obtain ⟨hx, hb, hown, hts, hex, hin, hS, hfr, hlo⟩ := hC
  simp only [vmTrans] at ht
  split at ht
  · rename_i hl
    subst hl
    cases ht
    obtain ⟨i, q, ce, v, st0, rfl, hq, hv, hr⟩ := vi18 hst
    cases hr
    rcases vmLd_inv hv with ⟨_, _, h0, _⟩ | ⟨_, _, h0, _⟩ | ⟨_, _, h0, _⟩ | ⟨_, _, h0, _⟩ | ⟨n, f, h0, rfl, hi, rfl⟩ | ⟨n, f, h0, rfl, hi, rfl⟩ <;> cases h0
    all_goals
      intro H locs ls hL hR hS2
      by_cases h6 : q < 1000000
      · obtain ⟨q0, hq0⟩ := vmWs_get hR h6 hq
        have hok : ∀ j r, f j = some r → r < 1000000 := (hR.1 q _ h6 hq).2.2.2
        have k2 := k H locs ls hL hR hS2
        rw [List.map_cons, ← vmRf_lift hok] at k2
        rw [List.map_cons, List.map_cons, vmLift_own h6]
        first
          | exact va_aldq hx hb hex.1 (vmWs_P hR) q0 3 hq0 (vmT_at hex (by omega) rfl) (vmIn_vp hi) hd k2
          | exact va_aldq hx hb hex.1 (vmWs_P hR) q0 4 hq0 (vmT_at hex (by omega) rfl) (vmIn_vp hi) hd k2
      · have hqx := hR.2.2.1 q (by omega)
        rw [hq] at hqx
        rcases vmExt_inv (by omega) hqx.symm with ⟨a1, a2, a3, a4⟩ | ⟨a1, a2, a3, a4⟩ | ⟨a1, a4⟩ <;> cases a4
  · cases ht
end VMV
