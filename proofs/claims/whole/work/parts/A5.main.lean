/-! ===== the calls that change the park, by the state ===== -/
theorem dD_agr {W H z : Int} {c c' : Int → Int} {N : Nat} (h : wh2 W H) (hc : agr (W * H) c c') (hcs : csIn c (W * H)) (hN : (N : Int) = W * H) (z0 : 0 ≤ z) (z1 : z < W * H) : agr 36 (dD W H c z N) (dD W H c' z N) := spr_dD h hc hcs hN z0 z1
/-- the same park, but for what is kept -/
def mdK (K K' : Int → Int) : Prop := K' 1 = K 1 ∧ K' 2 = K 2 ∧ K' 3 = K 3 ∧ K' 4 = K 4 ∧ ∀ j, 7 ≤ j → j < 93 → K' j = K j
theorem loK_md {K K' : Int → Int} (h : loK K K') : mdK K K' := ⟨h 1 (by omega), h 2 (by omega), h 3 (by omega), h 4 (by omega), fun j j0 j1 => h j (by omega)⟩
theorem mdK_kd {K K' : Int → Int} (h : mdK K K') : agr 36 (kdK K' 7) (kdK K 7) := fun j j0 j1 => h.2.2.2.2 _ (by omega) (by omega)
theorem mdK_pr {K K' : Int → Int} {w : Int} (h : mdK K K') : agr 36 (prK K' w) (prK K w) := fun j j0 j1 => by
  unfold prK
  rw [h.2.2.2.1, h.2.2.2.2 90 (by omega) (by omega), h.2.2.2.2 92 (by omega) (by omega)]
  exact cst_agr (h.2.2.2.2 _ (by omega) (by omega)) (h.2.2.2.2 _ (by omega) (by omega))
theorem mdK_d {K K' : Int → Int} {B w z : Int} (h : mdK K K') (hv : kV K B) (w0 : 0 ≤ w) (w1 : w < K 3) (z0 : 0 ≤ z) (z1 : z < K 1 * K 2) : dK K' w z = dK K w z := by
  obtain ⟨h2, w5, a, _⟩ := kV_w hv w0 w1
  have hm := wh_mul h2
  unfold dK
  have en : nK K' = nK K := by unfold nK; rw [h.1, h.2.1]
  rw [h.1, h.2.1, en, h.2.2.2.2 (79 + w) (by omega) (by omega)]
  exact (dD_agr h2 (fun j j0 j1 => (mdK_pr h j j0 (by omega)).symm) (prK_cs hv.1 hv.2.1) (nK_c hv.1) a.1 a.2 z z0 (by omega)).symm
theorem mdK_why {K K' : Int → Int} {B v : Int} (h : mdK K K') (hv : kV K B) : whyK K' v = whyK K v := by
  have hm := wh_mul0 hv.1.1
  have h3 := hv.1.2.1
  unfold whyK
  rw [h.1, h.2.1, h.2.2.1]
  by_cases e1 : v = -1
  · rw [if_pos e1, if_pos e1]
  · rw [if_neg e1, if_neg e1]
    by_cases e2 : v < 0 ∨ 2400 ≤ v
    · rw [if_pos e2, if_pos e2]
    · rw [if_neg e2, if_neg e2]
      by_cases e3 : ¬ v % 100 < K 1 * K 2
      · rw [if_pos e3, if_pos e3]
      · rw [if_neg e3, if_neg e3]
        by_cases e5 : v / 100 < K 3
        · rw [if_pos e5, if_pos e5, mdK_d h hv (by omega) e5 (by omega) (by omega)]
        · rw [if_neg e5, if_neg e5, hgB_agr (mdK_kd h)]
          have : waK K' (v % 100) = waK K (v % 100) := by
            unfold waK
            rw [h.2.2.1]
            exact wa_cg _ (fun j hj => h.2.2.2.2 _ (by omega) (by omega))
          rw [this, h.2.2.2.2 (7 + v % 100) (by omega) (by omega)]
/-- what calls that change the park leave as it was -/
def fM (σ τ : St) : Prop := ∀ t o, ((300 ≤ t ∧ t < 600) ∨ (700 ≤ t ∧ t < 900 ∧ 190 ≤ o) ∨ 1100 ≤ t) → τ t o = σ t o
theorem fM_r {σ : St} : fM σ σ := fun _ _ _ => rfl
theorem fM_t {σ τ ρ : St} (h1 : fM σ τ) (h2 : fM τ ρ) : fM σ ρ := fun t o h => (h2 t o h).trans (h1 t o h)
theorem sg_fM {σ τ : St} (h : sg σ τ) : fM σ τ := fun t o ht => h t o (by omega)
theorem fS_fM {σ τ : St} (h : fS 10 σ τ) : fM σ τ := fun t o ht => h t o (by omega)
theorem stR_fM {σ : St} (hs : sty σ 2) : fM σ (stR σ 2) := fun t o ht => by
  by_cases e : t < 700 ∨ 706 < t
  · by_cases e3 : t = 803 ∨ t = 804
    · unfold stR
      rw [upA_o (by omega), upA_o (by omega), scB_t (by omega)]
    · exact stR_t e (by omega) (by omega)
  · unfold stR
    rw [upA_t (by omega), upA_t (by omega), scB_o]
    unfold pst
    have := hs.1
    have := hs.2.1
    omega
theorem stB_fM {σ : St} {n : Int} : fM σ (stB σ 2 n) := fun t o ht => by
  unfold stB
  by_cases e : o = 10
  · rw [scB_t (by omega), upA_o (by omega), upA_o (by omega)]
  · rw [scB_o e]
    by_cases e2 : o = 2
    · rw [upA_t (by omega), upA_t (by omega)]
    · rw [upA_o e2, upA_o e2]
theorem tie_fr {σ τ : St} {K : Int → Int} (h : sg σ τ) (hv : 0 ≤ K 6 ∧ K 6 ≤ 10) (h3 : K 3 ≤ 5) (ht : tie σ 2 K) : tie τ 2 K := by
  obtain ⟨hP, hS, hu, hr, hU⟩ := ht
  have e3 : τ 803 2 = σ 803 2 := h 803 2 (by omega)
  refine ⟨tpl_fr (fun t o t0 t1 => h t o (by omega)) hP, tsc_mv (fun t t0 t1 => h t _ (by omega)) rfl h3 (fun _ _ _ => rfl) hS, ?_, ?_, ?_⟩
  · rw [h 804 2 (by omega)]; exact hu
  · rw [e3]; exact hr
  · intro i i0 i1
    rw [e3]
    refine tsc_mv (fun t t0 t1 => h t _ ?_) rfl h3 (fun _ _ _ => rfl) (hU i i0 i1)
    unfold pst
    omega
theorem tie_act {σ τ : St} {K K' : Int → Int} (hv : plV K) (ht : tie σ 2 K) (h : fS 10 σ τ) (hs : tsc τ 10 K' 7) (hk : stK K K') : tie τ 2 K' := by
  obtain ⟨hP, hS, hu, hr, hU⟩ := ht
  have h6 := hv.2.2.2.2.1
  have h3 := hv.2.1
  have e3 : τ 803 2 = σ 803 2 := h 803 2 (by omega)
  have e6 : K' 6 = K 6 := hk 6 (by omega)
  refine ⟨tpl_st hk (tpl_fr (fun t o t0 t1 => h t o (by omega)) hP), hs, ?_, ?_, ?_⟩
  · rw [h 804 2 (by omega), e6]; exact hu
  · rw [e3]; exact hr
  · intro i i0 i1
    rw [e6] at i1
    rw [e3, e6]
    refine tsc_mv (fun t t0 t1 => h t _ ?_) (hk 3 (by omega)) (by omega) (fun j j0 j1 => hk _ (by omega)) (hU i i0 i1)
    unfold pst
    omega
theorem kV_act {K K' : Int → Int} {B B' : Int} (hv : kV K B) (hB : B ≤ B') (hk : stK K K') (hs : scV K' 7 B') : kV K' B' := by
  refine ⟨plV_st hk hv.1, hs, fun i i0 i1 => ?_⟩
  rw [hk 6 (by omega)] at i1
  exact scV_st hk (by omega) hB (hv.2.2 i i0 i1)
/-- a deed is done, and what was is kept -/
theorem pdK_V {K : Int → Int} {B v : Int} (hv : kV K B) (hw : whyK K v = 0) : kV (doK (kpK K) v) (B + 6516) := by
  have hk := kpK_V hv
  have h6 := hv.1.2.2.2.2.1
  have hw2 : whyK (kpK K) v = 0 := by rw [mdK_why (loK_md (kpK_lo h6.1 h6.2)) hv]; exact hw
  have q := doK_V hk (Int.le_refl (B + 6516)) hw2
  exact kV_act hk (by omega) q.1 q.2
theorem c128K {d : Nat} {k v B : Int} {K : Int → Int} {T : Tt} {σ : St} {Q : vmO → vmH → Prop} (ht : tie σ 2 K) (hv : kV K B) (hB : B < 900000000) (v0 : -9223372036854775808 ≤ v) (v1 : v < 9223372036854775808)
    (hQ1 : whyK K v ≠ 0 → Q (.inl (some (.int (i32 0)))) (E T σ))
    (hQ2 : whyK K v = 0 → ∀ τ, fM σ τ → τ 102 179 = σ 102 179 → tie τ 2 (doK (kpK K) v) → Q (.inl (some (.int (i32 1)))) (E T τ)) : Ca (d + 7) k 128 [.ref 0, .long (i64 v)] (E T σ) Q := by
  have h0 := ob_hp; have h2 := ob_st; have h3 := ob_p3; have hn := ob_n10; have hde := ob_de
  have hW := tie_hp ht hv (by omega)
  have hP : tpl σ 3 K := ht.1
  have hS : tsc σ 10 K 7 := ht.2.1
  have h6 := hv.1.2.2.2.2.1
  have hsty := tie_sty ht hv
  have hkp := kpK_V hv
  rw [n128 _ _ _ _ _ _ _ h0]
  simp (disch := (first | assumption | omega | exact Nat.le_of_ble_eq_true rfl | rfl)) only [w128_0, w128_1, w128_4, w128_5, w128_8, w128_11, w128_12, w128_15, w128_18, w128_19, w128_22, w128_25, w128_26, w128_27, w128_28, w128_31, w128_34, w128_35, w128_38, w128_39, w128_42, w128_45, w128_46, w128_49, w128_52, w128_53, w128_54, w128_57, w128_58, Ko_n, Ko_v, vX_i, vX_r, vX_l, vX_j, reduceIte]
  rw [c10 (W := K 1) (H := K 2) h3 hn hW.1 hW.2.1 hW.2.2.2.2.2.2.2.2.2.1.1 v0 v1 hW.2.2.2.2.2.1 hW.2.2.2.2.2.2.1 (fun w hw => by have := hW.2.2.2.2.2.2.2.2.2.2 w hw; have := wh_mul0 hW.2.1; omega), whyE hP hS hv]
  have hwr : -2147483648 ≤ whyK K v ∧ whyK K v < 2147483648 := by unfold whyK; repeat' split <;> omega
  by_cases hw : whyK K v = 0
  · have hw2 : whyK (kpK K) v = 0 := by rw [mdK_why (loK_md (kpK_lo h6.1 h6.2)) hv]; exact hw
    have hb := whyK_0 hw (by have := hv.1.2.1; omega)
    simp (disch := (first | assumption | omega | exact Nat.le_of_ble_eq_true rfl | rfl)) only [w128_0, w128_1, w128_4, w128_5, w128_8, w128_11, w128_12, w128_15, w128_18, w128_19, w128_22, w128_25, w128_26, w128_27, w128_28, w128_31, w128_34, w128_35, w128_38, w128_39, w128_42, w128_45, w128_46, w128_49, w128_52, w128_53, w128_54, w128_57, w128_58, Ko_n, Ko_v, vX_i, vX_r, vX_l, vX_j, reduceIte, Nat.reduceAdd, hw, Int.reduceEq]
    rw [c84 h2 hsty]
    simp (disch := (first | assumption | omega | exact Nat.le_of_ble_eq_true rfl | rfl)) only [w128_0, w128_1, w128_4, w128_5, w128_8, w128_11, w128_12, w128_15, w128_18, w128_19, w128_22, w128_25, w128_26, w128_27, w128_28, w128_31, w128_34, w128_35, w128_38, w128_39, w128_42, w128_45, w128_46, w128_49, w128_52, w128_53, w128_54, w128_57, w128_58, Ko_n, Ko_v, vX_i, vX_r, vX_l, vX_j, reduceIte, Nat.reduceAdd, i64_i]
    have ht2 := stR_tie ht hv
    refine actK hn ht2.1 ht2.2.1 hkp hB hw2 ?_
    intro τ hf hs
    simp (disch := (first | assumption | omega | exact Nat.le_of_ble_eq_true rfl | rfl)) only [w128_0, w128_1, w128_4, w128_5, w128_8, w128_11, w128_12, w128_15, w128_18, w128_19, w128_22, w128_25, w128_26, w128_27, w128_28, w128_31, w128_34, w128_35, w128_38, w128_39, w128_42, w128_45, w128_46, w128_49, w128_52, w128_53, w128_54, w128_57, w128_58, Ko_n, Ko_v, vX_i, vX_r, vX_l, vX_j, reduceIte, Nat.reduceAdd]
    refine hQ2 hw τ (fM_t (stR_fM hsty) (fS_fM hf)) ?_ ?_
    · rw [hf 102 179 (by omega), stR_t (by omega) (by omega) (by omega)]
    exact tie_act hkp.1 ht2 hf hs (doK_V hkp (Int.le_refl (B + 6516)) hw2).1
  · simp (disch := (first | assumption | omega | exact Nat.le_of_ble_eq_true rfl | rfl)) only [w128_0, w128_1, w128_4, w128_5, w128_8, w128_11, w128_12, w128_15, w128_18, w128_19, w128_22, w128_25, w128_26, w128_27, w128_28, w128_31, w128_34, w128_35, w128_38, w128_39, w128_42, w128_45, w128_46, w128_49, w128_52, w128_53, w128_54, w128_57, w128_58, Ko_n, Ko_v, vX_i, vX_r, vX_l, vX_j, reduceIte, Nat.reduceAdd, hw]
    exact hQ1 hw
