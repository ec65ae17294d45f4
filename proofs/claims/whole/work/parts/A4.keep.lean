/-! ===== what is kept for undoing ===== -/
def loK (K K' : Int → Int) : Prop := ∀ j, (j < 138 ∧ j ≠ 6) ∨ 988 ≤ j → K' j = K j
theorem kpK_lo {K : Int → Int} (h0 : 0 ≤ K 6) (h1 : K 6 ≤ 10) : loK K (kpK K) := fun j hj => by
  unfold kpK
  by_cases e : K 6 = 10
  · rw [if_pos e, if_neg (by omega), if_neg (by omega)]
  · rw [if_neg e]
    rw [if_neg (by omega), if_neg (by omega)]
theorem kpK_6 {K : Int → Int} (h0 : 0 ≤ K 6) (h1 : K 6 ≤ 10) : kpK K 6 = min (K 6 + 1) 10 := by
  unfold kpK
  by_cases e : K 6 = 10
  · rw [if_pos e, if_neg (by omega), if_neg (by omega)]; omega
  · rw [if_neg e, if_neg (by omega), if_pos rfl]; omega
/-- where a kept state comes from -/
def kpO (K : Int → Int) (i : Int) : Int := if i = min (K 6 + 1) 10 - 1 then 7 else if K 6 = 10 then 138 + 85 * (i + 1) else 138 + 85 * i
theorem kpK_b {K : Int → Int} {i j : Int} (h0 : 0 ≤ K 6) (h1 : K 6 ≤ 10) (i0 : 0 ≤ i) (i1 : i < min (K 6 + 1) 10) (j0 : 0 ≤ j) (j1 : j < 85) : kpK K (138 + 85 * i + j) = K (kpO K i + j) := by
  unfold kpK kpO
  by_cases e : K 6 = 10
  · rw [if_pos e, if_pos e]
    by_cases e2 : i = min (K 6 + 1) 10 - 1
    · rw [if_pos e2, if_neg (by omega), if_pos (by omega)]
      congr 1; omega
    · rw [if_neg e2, if_pos (by omega)]
      congr 1; omega
  · rw [if_neg e, if_neg e]
    by_cases e2 : i = min (K 6 + 1) 10 - 1
    · rw [if_pos e2, if_pos (by omega)]
      congr 1; omega
    · rw [if_neg e2, if_neg (by omega), if_neg (by omega)]
/-- a state lies at a place as it lay at another one -/
theorem scV_mv {K K' : Int → Int} {o o' B : Int} (h1 : K' 1 = K 1) (h2 : K' 2 = K 2) (h3 : K' 3 = K 3) (hw : K 3 ≤ 5) (hm : K 1 * K 2 ≤ 36) (hb : ∀ j, 0 ≤ j → j < 85 → K' (o' + j) = K (o + j)) (h : scV K o B) : scV K' o' B := by
  obtain ⟨p0, p1, p2, p3, p4⟩ := h
  refine ⟨?_, ?_, ?_, ?_, ?_⟩
  · intro k k0 k1
    rw [h1, h2, hb k k0 (by omega), show o' + 36 + k = o' + (36 + k) by omega, hb (36 + k) (by omega) (by omega), show o + (36 + k) = o + 36 + k by omega]
    exact p0 k k0 k1
  · intro w w0 w1
    rw [h3] at w1
    have q := p1 w w0 w1
    rw [h1, h2, show o' + 72 + w = o' + (72 + w) by omega, hb (72 + w) (by omega) (by omega), show o + (72 + w) = o + 72 + w by omega, hb (K (o + 72 + w)) (by omega) (by omega), show o' + 77 + w = o' + (77 + w) by omega, hb (77 + w) (by omega) (by omega), show o + (77 + w) = o + 77 + w by omega]
    exact q
  · rw [hb 82 (by omega) (by omega)]; exact p2
  · rw [hb 83 (by omega) (by omega)]; exact p3
  · rw [hb 84 (by omega) (by omega)]; exact p4
theorem scV_le {K : Int → Int} {o B B' : Int} (hB : B ≤ B') (h : scV K o B) : scV K o B' := by
  obtain ⟨p0, p1, p2, p3, p4⟩ := h
  exact ⟨p0, fun w w0 w1 => ⟨(p1 w w0 w1).1, (p1 w w0 w1).2.1, (p1 w w0 w1).2.2.1, by have := (p1 w w0 w1).2.2.2; omega⟩, by omega, by omega, by omega⟩
theorem kV_le {K : Int → Int} {B B' : Int} (hB : B ≤ B') (h : kV K B) : kV K B' := ⟨h.1, scV_le hB h.2.1, fun i i0 i1 => scV_le hB (h.2.2 i i0 i1)⟩
theorem tsc_mv {σ τ : St} {s r : Nat} {K K' : Int → Int} {o o' : Int} (hs : ∀ t, 700 ≤ t → t < 707 → τ t r = σ t s) (h3 : K' 3 = K 3) (hw : K 3 ≤ 5) (hb : ∀ j, 0 ≤ j → j < 85 → K' (o' + j) = K (o + j)) (h : tsc σ s K o) : tsc τ r K' o' := by
  obtain ⟨p0, p1, p2, p3, p4⟩ := h
  refine ⟨?_, ?_, ?_, ?_, ?_⟩
  · intro k k0 k1
    rw [hs 700 (by omega) (by omega), hs 701 (by omega) (by omega), hb k k0 (by omega), show o' + 36 + k = o' + (36 + k) by omega, hb (36 + k) (by omega) (by omega), show o + (36 + k) = o + 36 + k by omega]
    exact p0 k k0 k1
  · intro w w0 w1
    rw [h3] at w1
    rw [hs 702 (by omega) (by omega), hs 703 (by omega) (by omega), show o' + 72 + w = o' + (72 + w) by omega, hb (72 + w) (by omega) (by omega), show o + (72 + w) = o + 72 + w by omega, show o' + 77 + w = o' + (77 + w) by omega, hb (77 + w) (by omega) (by omega), show o + (77 + w) = o + 77 + w by omega]
    exact p1 w w0 w1
  · rw [hs 704 (by omega) (by omega), hb 82 (by omega) (by omega)]; exact p2
  · rw [hs 705 (by omega) (by omega), hb 83 (by omega) (by omega)]; exact p3
  · rw [hs 706 (by omega) (by omega), hb 84 (by omega) (by omega)]; exact p4
theorem tsc_cp {σ : St} {r s : Nat} {K K' : Int → Int} {o o' : Int} (h3 : K' 3 = K 3) (hw : K 3 ≤ 5) (hb : ∀ j, 0 ≤ j → j < 85 → K' (o' + j) = K (o + j)) (h : tsc σ s K o) : tsc (scB σ r s) r K' o' := by
  obtain ⟨p0, p1, p2, p3, p4⟩ := h
  refine ⟨?_, ?_, ?_, ?_, ?_⟩
  · intro k k0 k1
    rw [scB_0, scB_1, cp_lt k0 k1, cp_lt k0 k1, hb k k0 (by omega), show o' + 36 + k = o' + (36 + k) by omega, hb (36 + k) (by omega) (by omega), show o + (36 + k) = o + 36 + k by omega]
    exact p0 k k0 k1
  · intro w w0 w1
    rw [h3] at w1
    rw [scB_2, scB_3, cp_lt w0 (by omega), cp_lt w0 (by omega), show o' + 72 + w = o' + (72 + w) by omega, hb (72 + w) (by omega) (by omega), show o + (72 + w) = o + 72 + w by omega, show o' + 77 + w = o' + (77 + w) by omega, hb (77 + w) (by omega) (by omega), show o + (77 + w) = o + 77 + w by omega]
    exact p1 w w0 w1
  · rw [scB_4, hb 82 (by omega) (by omega)]; exact p2
  · rw [scB_5, hb 83 (by omega) (by omega)]; exact p3
  · rw [scB_6, hb 84 (by omega) (by omega)]; exact p4
theorem plV_lo {K K' : Int → Int} (h : loK K K') (h6 : 0 ≤ K' 6 ∧ K' 6 ≤ 10) (hv : plV K) : plV K' := by
  obtain ⟨p0, p1, p2, p3, p4, p5, p6, p7, p8⟩ := hv
  have e5 : K' 5 = K 5 := h 5 (by omega)
  have ec : ∀ i : Nat, cdK K' i = cdK K i := fun i => by unfold cdK; rw [h _ (by omega)]
  refine ⟨?_, ?_, ?_, ?_, h6, ?_, ?_, ?_, ?_⟩
  · rw [h 1 (by omega), h 2 (by omega)]; exact p0
  · rw [h 3 (by omega)]; exact p1
  · rw [h 4 (by omega)]; exact p2
  · rw [e5]; exact p3
  · rw [h 92 (by omega)]; exact p5
  · intro w w0 w1
    rw [h (93 + w) (by omega)]
    refine ⟨(p6 w w0 w1).1, (p6 w w0 w1).2.1, fun e e0 e1 => ?_⟩
    have := (p6 w w0 w1).2.1
    rw [h (98 + 4 * w + e) (by omega), h (118 + 4 * w + e) (by omega), h 1 (by omega), h 2 (by omega)]
    exact (p6 w w0 w1).2.2 e e0 e1
  · rw [e5]; exact lawG_cd (fun i _ => (ec i).symm) p7
  · rw [h 0 (by omega)]; exact p8
theorem tpl_lo {σ : St} {p : Nat} {K K' : Int → Int} (h : loK K K') (hv : plV K) (ht : tpl σ p K) : tpl σ p K' := by
  obtain ⟨h0, h1, h2, h3, h4, h5, h6, h7, h8, h9, h10⟩ := ht
  have e5 : K' 5 = K 5 := h 5 (by omega)
  refine ⟨?_, ?_, ?_, ?_, ?_, ?_, ?_, ?_, ?_, ?_, ?_⟩
  · rw [h 0 (by omega)]; exact h0
  · rw [h 1 (by omega)]; exact h1
  · rw [h 2 (by omega)]; exact h2
  · rw [h 3 (by omega)]; exact h3
  · rw [h 4 (by omega)]; exact h4
  · rw [e5]; exact h5
  · rw [h 92 (by omega)]; exact h6
  · intro w w0 w1; rw [h _ (by omega)]; exact h7 w w0 w1
  · intro w e w0 w1 e0 e1
    rw [h _ (by omega)] at e1
    have := (hv.2.2.2.2.2.2.1 w w0 w1).2.1
    rw [h _ (by omega), h _ (by omega)]
    exact h8 w e w0 w1 e0 e1
  · rw [h 1 (by omega), h 2 (by omega)]; exact h9
  · intro i i0 i1
    rw [e5] at i1
    have : cdK K' i = cdK K i := by unfold cdK; rw [h _ (by omega)]
    rw [this]
    exact h10 i i0 i1
theorem kpK_V {K : Int → Int} {B : Int} (hv : kV K B) : kV (kpK K) B := by
  obtain ⟨vP, vS, vU⟩ := hv
  have h6 := vP.2.2.2.2.1
  have h3 := vP.2.1
  have hm := wh_mul0 vP.1
  have lo := kpK_lo h6.1 h6.2
  have e6 := kpK_6 h6.1 h6.2
  refine ⟨plV_lo lo (by omega) vP, ?_, ?_⟩
  · exact scV_mv (lo 1 (by omega)) (lo 2 (by omega)) (lo 3 (by omega)) (by omega) (by omega) (fun j j0 j1 => lo _ (by omega)) vS
  · intro i i0 i1
    rw [e6] at i1
    have hsrc : scV K (kpO K i) B := by
      unfold kpO
      split
      · exact vS
      · split
        · exact vU (i + 1) (by omega) (by omega)
        · exact vU i i0 (by omega)
    exact scV_mv (lo 1 (by omega)) (lo 2 (by omega)) (lo 3 (by omega)) (by omega) (by omega) (fun j j0 j1 => kpK_b h6.1 h6.2 i0 i1 j0 j1) hsrc
/-- the class keeps the same -/
theorem stR_tie {σ : St} {K : Int → Int} {B : Int} (ht : tie σ 2 K) (hv : kV K B) : tie (stR σ 2) 2 (kpK K) := by
  obtain ⟨hP, hS, hu, hr, hU⟩ := ht
  obtain ⟨vP, vS, vU⟩ := hv
  have h6 := vP.2.2.2.2.1
  have h3 := vP.2.1
  have lo := kpK_lo h6.1 h6.2
  have e6 := kpK_6 h6.1 h6.2
  have e803 : stR σ 2 803 2 0 = (σ 803 2 0 + 1) % 10 := by
    unfold stR
    rw [upA_t (by omega), upA_s]
  have e804 : stR σ 2 804 2 0 = min (σ 804 2 0 + 1) 10 := by
    unfold stR
    rw [upA_s]
  have eo : ∀ t o, 700 ≤ t → t < 707 → o ≠ pst 2 (σ 803 2 0) → stR σ 2 t o = σ t o := fun t o t0 t1 ho => by
    unfold stR
    rw [upA_t (by omega), upA_t (by omega), scB_o ho]
  refine ⟨?_, ?_, ?_, ?_, ?_⟩
  · refine tpl_lo lo vP (tpl_fr (fun t o t0 t1 => ?_) hP)
    exact stR_t (by omega) (by omega) (by omega)
  · refine tsc_mv (s := 2 + 8) (fun t t0 t1 => eo t _ t0 t1 ?_) (lo 3 (by omega)) (by omega) (fun j j0 j1 => lo _ (by omega)) hS
    unfold pst; omega
  · rw [e804, hu, e6]
  · rw [e803]; omega
  · intro i i0 i1
    rw [e6] at i1
    rw [e803, e6]
    by_cases el : i = min (K 6 + 1) 10 - 1
    · have eidx : ((σ 803 2 0 + 1) % 10 - min (K 6 + 1) 10 + i) % 10 = σ 803 2 0 := by omega
      rw [eidx]
      have hc := tsc_cp (r := pst 2 (σ 803 2 0)) (K' := kpK K) (o' := 138 + 85 * i) (lo 3 (by omega)) (by omega) (fun j j0 j1 => by
        rw [kpK_b h6.1 h6.2 i0 i1 j0 j1]
        unfold kpO
        rw [if_pos el]) hS
      refine tsc_mv (σ := scB σ (pst 2 (σ 803 2 0)) (2 + 8)) (K := kpK K) (o := 138 + 85 * i) (fun t t0 t1 => ?_) rfl (by rw [lo 3 (by omega)]; omega) (fun _ _ _ => rfl) hc
      unfold stR
      rw [upA_t (by omega), upA_t (by omega)]
    · have hsrc : tsc σ (pst 2 (((σ 803 2 0 + 1) % 10 - min (K 6 + 1) 10 + i) % 10)) K (kpO K i) := by
        unfold kpO
        rw [if_neg el]
        by_cases e10 : K 6 = 10
        · rw [if_pos e10]
          have := hU (i + 1) (by omega) (by omega)
          rw [show ((σ 803 2 0 + 1) % 10 - min (K 6 + 1) 10 + i) % 10 = (σ 803 2 0 - K 6 + (i + 1)) % 10 by omega]
          exact this
        · rw [if_neg e10]
          have := hU i i0 (by omega)
          rw [show ((σ 803 2 0 + 1) % 10 - min (K 6 + 1) 10 + i) % 10 = (σ 803 2 0 - K 6 + i) % 10 by omega]
          exact this
      refine tsc_mv (fun t t0 t1 => eo t _ t0 t1 ?_) (lo 3 (by omega)) (by omega) (fun j j0 j1 => kpK_b h6.1 h6.2 i0 i1 j0 j1) hsrc
      unfold pst
      omega
/-- undoing -/
def unK (K : Int → Int) (n : Int) : Int → Int := fun j => if j = 6 then K 6 - n else if 7 ≤ j ∧ j < 92 then K (138 + 85 * (K 6 - n) + (j - 7)) else K j
theorem unK_V {K : Int → Int} {B n : Int} (hv : kV K B) (n0 : 1 ≤ n) (n1 : n ≤ K 6) : kV (unK K n) B := by
  obtain ⟨vP, vS, vU⟩ := hv
  have h6 := vP.2.2.2.2.1
  have h3 := vP.2.1
  have hm := wh_mul0 vP.1
  have eo : ∀ j, j < 6 ∨ 92 ≤ j → unK K n j = K j := fun j hj => by
    unfold unK
    rw [if_neg (by omega), if_neg (by omega)]
  have e6 : unK K n 6 = K 6 - n := by unfold unK; rw [if_pos rfl]
  have e5 : unK K n 5 = K 5 := eo 5 (by omega)
  refine ⟨?_, ?_, ?_⟩
  · obtain ⟨p0, p1, p2, p3, p4, p5, p6, p7, p8⟩ := vP
    refine ⟨?_, ?_, ?_, ?_, by omega, ?_, ?_, ?_, ?_⟩
    · rw [eo 1 (by omega), eo 2 (by omega)]; exact p0
    · rw [eo 3 (by omega)]; exact p1
    · rw [eo 4 (by omega)]; exact p2
    · rw [e5]; exact p3
    · rw [eo 92 (by omega)]; exact p5
    · intro w w0 w1
      rw [eo (93 + w) (by omega)]
      refine ⟨(p6 w w0 w1).1, (p6 w w0 w1).2.1, fun e e0 e1 => ?_⟩
      rw [eo (98 + 4 * w + e) (by omega), eo (118 + 4 * w + e) (by omega), eo 1 (by omega), eo 2 (by omega)]
      exact (p6 w w0 w1).2.2 e e0 e1
    · rw [e5]; exact lawG_cd (fun i _ => by unfold cdK; rw [eo _ (by omega)]) p7
    · rw [eo 0 (by omega)]; exact p8
  · refine scV_mv (o := 138 + 85 * (K 6 - n)) (eo 1 (by omega)) (eo 2 (by omega)) (eo 3 (by omega)) (by omega) (by omega) (fun j j0 j1 => ?_) (vU (K 6 - n) (by omega) (by omega))
    unfold unK
    rw [if_neg (by omega), if_pos (by omega)]
    congr 1; omega
  · intro i i0 i1
    rw [e6] at i1
    exact scV_mv (eo 1 (by omega)) (eo 2 (by omega)) (eo 3 (by omega)) (by omega) (by omega) (fun j j0 j1 => eo _ (by omega)) (vU i i0 (by omega))
theorem stB_tie {σ : St} {K : Int → Int} {B n : Int} (ht : tie σ 2 K) (hv : kV K B) (n0 : 1 ≤ n) (n1 : n ≤ K 6) : tie (stB σ 2 n) 2 (unK K n) := by
  obtain ⟨hP, hS, hu, hr, hU⟩ := ht
  obtain ⟨vP, vS, vU⟩ := hv
  have h6 := vP.2.2.2.2.1
  have h3 := vP.2.1
  have eo : ∀ j, j < 6 ∨ 92 ≤ j → unK K n j = K j := fun j hj => by
    unfold unK
    rw [if_neg (by omega), if_neg (by omega)]
  have e6 : unK K n 6 = K 6 - n := by unfold unK; rw [if_pos rfl]
  have e803 : stB σ 2 n 803 2 0 = (σ 803 2 0 - n) % 10 := by
    unfold stB
    rw [scB_t (by omega), upA_t (by omega), upA_s]
  have e804 : stB σ 2 n 804 2 0 = σ 804 2 0 - n := by
    unfold stB
    rw [scB_t (by omega), upA_s]
  have es : ∀ t o, 700 ≤ t → t < 707 → o ≠ 10 → stB σ 2 n t o = σ t o := fun t o t0 t1 ho => by
    unfold stB
    rw [scB_o ho, upA_t (by omega), upA_t (by omega)]
  have hst : ∀ j, j ≠ 6 → j < 7 ∨ 92 ≤ j → unK K n j = K j := fun j hj h => eo j (by omega)
  refine ⟨?_, ?_, ?_, ?_, ?_⟩
  · have hP2 : tpl (stB σ 2 n) (2 + 1) K := tpl_fr (fun t o t0 t1 => by
      unfold stB
      rw [scB_t (by omega), upA_t (by omega), upA_t (by omega)]) hP
    obtain ⟨q0, q1, q2, q3, q4, q5, q6, q7, q8, q9, q10⟩ := hP2
    refine ⟨?_, ?_, ?_, ?_, ?_, ?_, ?_, ?_, ?_, ?_, ?_⟩
    · rw [eo 0 (by omega)]; exact q0
    · rw [eo 1 (by omega)]; exact q1
    · rw [eo 2 (by omega)]; exact q2
    · rw [eo 3 (by omega)]; exact q3
    · rw [eo 4 (by omega)]; exact q4
    · rw [eo 5 (by omega)]; exact q5
    · rw [eo 92 (by omega)]; exact q6
    · intro w w0 w1; rw [eo _ (by omega)]; exact q7 w w0 w1
    · intro w e w0 w1 e0 e1
      rw [eo _ (by omega)] at e1
      rw [eo _ (by omega), eo _ (by omega)]
      exact q8 w e w0 w1 e0 e1
    · rw [eo 1 (by omega), eo 2 (by omega)]; exact q9
    · intro i i0 i1
      rw [eo 5 (by omega)] at i1
      have : cdK (unK K n) i = cdK K i := by unfold cdK; rw [eo _ (by omega)]
      rw [this]
      exact q10 i i0 i1
  · have hb := hU (K 6 - n) (by omega) (by omega)
    rw [show (σ 803 2 0 - K 6 + (K 6 - n)) % 10 = (σ 803 2 0 - n) % 10 by congr 1; omega] at hb
    have hb2 : tsc (upA (upA σ 803 2 fun _ => (σ 803 2 0 - n) % 10) 804 2 fun _ => σ 804 2 0 - n) (pst 2 ((σ 803 2 0 - n) % 10)) K (138 + 85 * (K 6 - n)) := tsc_mv (fun t t0 t1 => by rw [upA_t (by omega), upA_t (by omega)]) rfl (by omega) (fun _ _ _ => rfl) hb
    exact tsc_cp (eo 3 (by omega)) (by omega) (fun j j0 j1 => by
      unfold unK
      rw [if_neg (by omega), if_pos (by omega)]
      congr 1; omega) hb2
  · rw [e804, hu, e6]
  · rw [e803]; omega
  · intro i i0 i1
    rw [e6] at i1
    rw [e803, e6, show ((σ 803 2 0 - n) % 10 - (K 6 - n) + i) % 10 = (σ 803 2 0 - K 6 + i) % 10 by omega]
    refine tsc_mv (fun t t0 t1 => es t _ t0 t1 ?_) (eo 3 (by omega)) (by omega) (fun j j0 j1 => eo _ (by omega)) (hU i i0 (by omega))
    unfold pst
    omega
