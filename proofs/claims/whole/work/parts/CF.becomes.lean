/-! ===== a story becomes as another ===== -/
theorem lwB_x {σ : St} {r o : Nat} : lwB σ r o 301 r = (fun _ => σ 301 o 0) ∧ lwB σ r o 300 r = cp (σ 300 o) (σ 300 r) (σ 301 o 0) := by
  unfold lwB
  rw [upA_s, upA_t (by omega), upA_s]
  exact ⟨rfl, rfl⟩
theorem tpl_B {σ : St} {p o : Nat} {K : Int → Int} (hp : plV K) (h : tpl σ o K) : tpl (plB σ p o) p K := by
  obtain ⟨p0, p1, p2, p3, p4, p5, p6, p7, p8, p9, p10⟩ := h
  have hm := wh_mul0 hp.1
  refine ⟨?_, ?_, ?_, ?_, ?_, ?_, ?_, fun w w0 w1 => ?_, fun w e w0 w1 e0 e1 => ?_, ⟨?_, ?_, ?_, ?_, ?_, fun k e k0 k1 e0 e1 => ?_⟩, fun i i0 i1 => ?_⟩
  · unfold plB; simp (disch := omega) only [upA_s, upA_t, lwB_t]; exact p0
  · unfold plB; simp (disch := omega) only [upA_s, upA_t, lwB_t]; exact p1
  · unfold plB; simp (disch := omega) only [upA_s, upA_t, lwB_t]; exact p2
  · unfold plB; simp (disch := omega) only [upA_s, upA_t, lwB_t]; exact p3
  · unfold plB; simp (disch := omega) only [upA_s, upA_t, lwB_t]; exact p4
  · unfold plB; simp (disch := omega) only [upA_s, upA_t, lwB_x.1]; exact p5
  · unfold plB; simp (disch := omega) only [upA_s, upA_t, lwB_t]; exact p6
  · unfold plB; simp (disch := omega) only [upA_s, upA_t, lwB_t]; unfold cp; rw [if_pos (by omega)]; exact p7 w w0 w1
  · have q := (hp.2.2.2.2.2.2.1 w w0 w1).2.1
    unfold plB; simp (disch := omega) only [upA_s, upA_t, lwB_t]; unfold cp; rw [if_pos (by omega), if_pos (by omega)]; exact p8 w e w0 w1 e0 e1
  · unfold plB; simp (disch := omega) only [upA_s, upA_t, lwB_t]; exact p1
  · unfold plB; simp (disch := omega) only [upA_s, upA_t, lwB_t]; exact p2
  · unfold plB; simp (disch := omega) only [upA_s, upA_t, lwB_t, i64_toInt]; exact p9.2.2.1
  · unfold plB; simp (disch := omega) only [upA_s, upA_t, lwB_t, i64_toInt]; exact p9.2.2.2.1
  · unfold plB; simp (disch := omega) only [upA_s, upA_t, lwB_t, i64_toInt]; exact p9.2.2.2.2.1
  · unfold plB; simp (disch := omega) only [upA_s, upA_t, lwB_t]; unfold cp; rw [if_pos (by omega)]; exact p9.2.2.2.2.2 k e k0 k1 e0 e1
  · unfold plB; simp (disch := omega) only [upA_s, upA_t, lwB_x.2]; unfold cp; rw [if_pos (by omega)]; exact p10 i i0 i1
theorem plB_o {σ : St} {p o t b : Nat} (h1 : b ≠ p) (h2 : b ≠ p + 4) : plB σ p o t b = σ t b := by
  unfold plB lwB
  simp (disch := omega) only [upA_o]
theorem psB_o {σ : St} {a o t b : Nat} : ∀ n : Nat, (∀ i, i < n → b ≠ a + 14 + 5 * i) → psB σ a o n t b = σ t b
  | 0, _ => rfl
  | n + 1, h => by
    simp only [psB]
    rw [scB_o (h n (by omega))]
    exact psB_o n (fun i hi => h i (by omega))
theorem stM_o {σ : St} {a o t b : Nat} (h : b < a ∨ a + 64 ≤ b) : stM σ a o t b = σ t b := by
  unfold stM
  rw [upA_o (by omega), upA_o (by omega), psB_o 10 (fun i hi => by omega), scB_o (by omega), plB_o (by omega) (by omega)]
theorem psB_c {σ : St} {a o : Nat} {K : Int → Int} {u : Int} (hw : K 3 ≤ 5) (hd : a + 64 ≤ o ∨ o + 64 ≤ a) : ∀ (n j : Nat), n ≤ 10 → j < n → tsc σ (o + 14 + 5 * j) K u → tsc (psB σ a o n) (a + 14 + 5 * j) K u
  | 0, j, _, hj, _ => by omega
  | n + 1, j, hn, hj, h => by
    simp only [psB]
    by_cases e : j = n
    · subst e
      refine tsc_cp rfl hw (fun _ _ _ => rfl) (tsc_mv (fun t _ _ => psB_o j (fun i hi => by omega)) rfl hw (fun _ _ _ => rfl) h)
    · refine tsc_mv (fun t _ _ => scB_o (by omega)) rfl hw (fun _ _ _ => rfl) (psB_c hw hd n j (by omega) (by omega) h)
theorem stM_tie {σ : St} {a o : Nat} {K : Int → Int} {B : Int} (hd : a + 64 ≤ o ∨ o + 64 ≤ a) (hv : kV K B) (h : tie σ o K) : tie (stM σ a o) a K := by
  obtain ⟨hP, hS, hu, hr, hU⟩ := h
  have hw : K 3 ≤ 5 := hv.1.2.1.2
  have h3 : stM σ a o 803 a = fun _ => σ 803 o 0 := by unfold stM; rw [upA_t (by omega), upA_s]
  have h4 : stM σ a o 804 a = fun _ => σ 804 o 0 := by unfold stM; rw [upA_s]
  have e7 : ∀ t b, 700 ≤ t → t < 707 → stM σ a o t b = psB (scB (plB σ (a + 1) (o + 1)) (a + 8) (o + 8)) a o 10 t b := fun t b t0 t1 => by unfold stM; rw [upA_t (by omega), upA_t (by omega)]
  refine ⟨?_, ?_, by rw [h4]; exact hu, by rw [h3]; exact hr, fun i i0 i1 => ?_⟩
  · have q := tpl_B (p := a + 1) hv.1 hP
    have e : ∀ t, 300 ≤ t → t < 600 → ∀ b, stM σ a o t b = plB σ (a + 1) (o + 1) t b := fun t t0 t1 b => by
      unfold stM
      rw [upA_t (by omega), upA_t (by omega), psB_t (by omega), scB_t (by omega)]
    exact tpl_fr (fun t o t0 t1 => e t t0 t1 o) q
  · refine tsc_mv (fun t t0 t1 => (e7 t _ t0 t1).trans (psB_o 10 (fun i hi => by omega))) rfl hw (fun _ _ _ => rfl) ?_
    refine tsc_cp rfl hw (fun _ _ _ => rfl) (tsc_mv (fun t _ _ => plB_o (by omega) (by omega)) rfl hw (fun _ _ _ => rfl) hS)
  · rw [h3]
    have hU2 := hU i i0 i1
    unfold pst at hU2 ⊢
    have hj : ((σ 803 o 0 - K 6 + i) % 10).toNat < 10 := by omega
    refine tsc_mv (fun t t0 t1 => e7 t _ t0 t1) rfl hw (fun _ _ _ => rfl) (psB_c hw hd 10 _ (Nat.le_refl _) hj ?_)
    exact tsc_mv (fun t _ _ => (scB_o (by omega)).trans (plB_o (by omega) (by omega))) rfl hw (fun _ _ _ => rfl) hU2
/-- a text's end is seen -/
theorem prk_end {f : Int → Int} {n : Int} {σ : St} {s : Ps} (hF : σ 1205 382 = f) (hn : σ 1207 382 0 = n) (hf : tpOk f n) (h : fst0 n (rdOn f n s)) : flt (prk f n s) = pB (prk f n s) ∧ fpl (prk f n s) = if pB (prk f n s) = 0 then -1 else pP (prk f n s) := by
  have m1 := prk1_M hf h
  have key : ∀ (m : Nat) (s : Ps), mL n s → (pB s = 0 → n - pG s ≤ m) → pB (lpG (fun s => decide (pB s = 0 ∧ pT s ≠ 0)) (lin f n) m s) = 0 → pT (lpG (fun s => decide (pB s = 0 ∧ pT s ≠ 0)) (lin f n) m s) = 0 := by
    intro m
    induction m with
    | zero =>
      intro s hs hm hb
      have hb' : pB s = 0 := hb
      show pT s = 0
      by_cases e2 : pT s = 0
      · exact e2
      · have := hs.1.1.2.2.2.2.1 hb' e2
        have := hm hb'
        have := hs.1.1.2.2.1
        omega
    | succ m ih =>
      intro s hs hm hb
      simp only [lpG] at hb ⊢
      by_cases e : decide (pB s = 0 ∧ pT s ≠ 0) = true
      · rw [if_pos e] at hb ⊢
        have e1 := of_decide_eq_true e
        have lm := lin_M hF hn hf hs
        have := hm e1.1
        exact ih _ lm.1 (fun z => by have := (lm.2 z).2; omega) hb
      · rw [if_neg e] at hb ⊢
        by_cases e2 : pT s = 0
        · exact e2
        · exact absurd (decide_eq_true ⟨hb, e2⟩) e
  have hk := key 901 _ m1 (fun _ => by have := m1.1.1.2.2.1; have := hf.2; omega)
  have hp : prk f n s = lpG (fun s => decide (pB s = 0 ∧ pT s ≠ 0)) (lin f n) 901 (prk1 f n (rdOn f n s)) := rfl
  rw [← hp] at hk
  generalize prk f n s = t at *
  unfold flt fpl
  by_cases e : pB t = 0
  · have := hk e
    rw [if_pos e, if_pos e, if_pos e, if_neg (by omega), if_neg (by omega)]
    exact ⟨e.symm, rfl⟩
  · rw [if_neg e, if_neg e, if_neg e]
    exact ⟨rfl, rfl⟩
def fPk (σ τ : St) : Prop := ∀ t o, (o = 0 ∧ t ≠ 1101 ∧ t ≠ 1102 ∧ t ≠ 1103) ∨ (66 ≤ o ∧ o ≠ 75 ∧ o ≠ 76 ∧ o ≠ 77 ∧ o ≠ 81 ∧ o ≠ 84) → τ t o = σ t o
theorem c115 {d : Nat} {k n : Int} {f : Int → Int} {T : Tt} {σ σ2 : St} {s : Ps} {Q : vmO → vmH → Prop} (hF2 : σ2 1205 382 = f) (hn2 : σ2 1207 382 0 = n) (x0 : -2147483648 ≤ n) (x1 : n < 2147483648) (tp0 : 0 ≤ σ 1101 0 0) (tp1 : σ 1101 0 0 ≤ 900) (hF : σ 1100 0 = f) (hf : ∀ z, 0 ≤ z → z < 900 → 0 ≤ f z ∧ f z ≤ 255) (hb : pB s = 0) (hh : pH s = 0) (hv : 0 ≤ pV s ∧ pV s ≤ 999) (hd : pD s = 0) (hK : ∀ j, 0 ≤ j → j < 1900 → pK s j = 0)
    (hQ1 : ¬ (0 ≤ n ∧ n ≤ σ 1101 0 0) → Q (.inr 1) (E (thr T) σ))
    (hQ2 : 0 ≤ n → n ≤ σ 1101 0 0 → pB (prk f n s) ≠ 0 → ∀ τ, fPk σ τ → (∀ t o, 0 < o → o < 66 → τ t o = σ t o) → τ 1101 0 0 = 0 → τ 1102 0 0 = pB (prk f n s) → τ 1103 0 0 = pP (prk f n s) → Q (.inl (some (.int (i32 (-10 - pB (prk f n s)))))) (E T τ))
    (hQ3 : 0 ≤ n → n ≤ σ 1101 0 0 → pB (prk f n s) = 0 → ∀ τ, fPk σ τ → tie τ 2 (pK (prk f n s)) → kV (pK (prk f n s)) 999 → lwV (pK (prk f n s)) → τ 1101 0 0 = 0 → τ 1102 0 0 = 0 → τ 1103 0 0 = -1 → Q (.inl (some (.int (i32 (pK (prk f n s) 0))))) (E T τ)) : Ca (d + 36) k 115 [.ref 0, .int (i32 n)] (E T σ) Q := by
  have h0 := ob_hp
  have hr := ob_rd
  have h2 := ob_st
  have h3 := ob_p3
  have hfr := ob_fr
  rw [n115 _ _ _ _ _ _ _ h0]
  by_cases hin : 0 ≤ n ∧ n ≤ σ 1101 0 0
  · have hfn : tpOk f n := ⟨hf, by omega, by omega⟩
    have f0 := rd_0 (s := s) hfn hb hh hv hd hK
    have ed := prk_end hF2 hn2 hfn f0
    have pv := fun z => prk_V hF2 hn2 hfn f0 z
    have hin2 := flt_in (prk_lp hF2 hn2 hfn 901 _ (prk1_M hfn f0)).1.1
    have hin3 : 0 ≤ flt (prk f n s) ∧ flt (prk f n s) ≤ 4 := hin2
    simp (disch := (first | assumption | omega | exact Nat.le_of_ble_eq_true rfl | rfl)) only [w115_0, w115_1, w115_4, w115_5, w115_6, w115_9, w115_12, w115_13, w115_16, w115_17, w115_20, w115_21, w115_22, w115_25, w115_26, w115_29, w115_30, w115_33, w115_34, Ko_n, Ko_v, vX_i, vX_r, vX_l, vX_j, reduceIte, show ¬ n < 0 by omega, show ¬ σ 1101 0 0 < n by omega]
    rw [c169 (by omega) (Or.inr rfl), if_neg (by omega)]
    simp (disch := (first | assumption | omega | exact Nat.le_of_ble_eq_true rfl | rfl)) only [w115_0, w115_1, w115_4, w115_5, w115_6, w115_9, w115_12, w115_13, w115_16, w115_17, w115_20, w115_21, w115_22, w115_25, w115_26, w115_29, w115_30, w115_33, w115_34, Ko_n, Ko_v, vX_i, vX_r, vX_l, vX_j, reduceIte, Nat.reduceAdd]
    refine c38 (s := s) hF2 hn2 (by rw [upA_t (by omega)]; exact hF) hfn hb hh hv hd hK fun τ g1 g2 g3 g4 => ?_
    have hq2 := hQ2 hin.1 hin.2
    have hq3 := hQ3 hin.1 hin.2
    clear hQ1 hQ2 hQ3
    generalize prk f n s = t at *
    have e5 := g1.2.2.2.2.2.1
    have e6 := g1.2.2.2.2.2.2.1
    rw [ed.1] at e5 hin3
    rw [ed.2] at e6
    have fr : ∀ t o, ((o = 0 ∧ t ≠ 1101) ∨ (o ≠ 0 ∧ o ≠ 75 ∧ o ≠ 76 ∧ o ≠ 77 ∧ o ≠ 81 ∧ o ≠ 84)) → τ t o = σ t o := fun t o ho => by
      rw [g4 t o (by omega) (by omega) (by omega) (by omega) (by omega)]
      rcases ho with ho | ho
      · rw [upA_t ho.2]
      · rw [upA_o ho.1]
    have h11 : τ 1101 0 0 = 0 := by rw [g4 1101 0 (by omega) (by omega) (by omega) (by omega) (by omega), upA_s]
    by_cases e : pB t = 0
    · obtain ⟨v1, v2, v3, v4⟩ := pv e
      rw [if_pos e] at e6
      rw [e] at e5
      have hfl : flt t = 0 := by rw [ed.1]; exact e
      have hdc := g2.2.2.2.2.2 hfl
      simp (disch := (first | assumption | omega | exact Nat.le_of_ble_eq_true rfl | rfl)) only [w115_37, w115_38, w115_39, w115_42, w115_45, w115_48, w115_49, w115_50, w115_53, w115_56, w115_59, w115_60, w115_63, w115_66, w115_68, w115_69, w115_72, w115_73, w115_74, w115_75, w115_78, w115_79, w115_82, w115_85, w115_88, w115_89, w115_92, w115_95, w115_98, Ko_n, Ko_v, vX_i, vX_r, vX_l, vX_j, reduceIte, Nat.reduceAdd, e5, e6, upA_t, upA_s]
      have hmy := g2.2.2.2.1
      rw [c86 (a := 2) (o := 76) h2 hfr (by show 0 ≤ (upA (upA τ 1102 0 fun _ => 0) 1103 0 fun _ => -1) 301 81 0; rw [upA_t (by omega), upA_t (by omega)]; exact hmy.1) (by show (upA (upA τ 1102 0 fun _ => 0) 1103 0 fun _ => -1) 301 81 0 ≤ 900; rw [upA_t (by omega), upA_t (by omega)]; exact hmy.2)]
      have t76 : tie (upA (upA τ 1102 0 fun _ => 0) 1103 0 fun _ => -1) 76 (pK t) := by
        refine ⟨tpl_fr (fun t o t0 t1 => by rw [upA_t (by omega), upA_t (by omega)]) hdc.1, tsc_mv (fun t t0 t1 => by rw [upA_t (by omega), upA_t (by omega)]) rfl v1.1.2.1.2 (fun _ _ _ => rfl) hdc.2, ?_, ?_, fun i i0 i1 => by rw [v2] at i1; omega⟩
        · rw [upA_t (by omega), upA_t (by omega), v2]; exact g3.2
        · rw [upA_t (by omega), upA_t (by omega), g3.1]; omega
      have t2 := stM_tie (a := 2) (o := 76) (Or.inl (by omega)) v1 t76
      have r0 : stM (upA (upA τ 1102 0 fun _ => 0) 1103 0 fun _ => -1) 2 76 400 3 0 = pK t 0 := t2.1.1
      simp (disch := (first | assumption | omega | exact Nat.le_of_ble_eq_true rfl | rfl)) only [w115_37, w115_38, w115_39, w115_42, w115_45, w115_48, w115_49, w115_50, w115_53, w115_56, w115_59, w115_60, w115_63, w115_66, w115_68, w115_69, w115_72, w115_73, w115_74, w115_75, w115_78, w115_79, w115_82, w115_85, w115_88, w115_89, w115_92, w115_95, w115_98, Ko_n, Ko_v, vX_i, vX_r, vX_l, vX_j, reduceIte, Nat.reduceAdd, r0]
      refine hq3 e _ (fun t o ho => ?_) t2 v1 v3 ?_ ?_ ?_
      · rw [stM_o (by omega)]
        rcases ho with ho | ho
        · rw [upA_t ho.2.2.2, upA_t ho.2.2.1]; exact fr t o (Or.inl ⟨ho.1, ho.2.1⟩)
        · rw [upA_o (by omega), upA_o (by omega)]; exact fr t o (Or.inr ⟨by omega, ho.2.1, ho.2.2.1, ho.2.2.2.1, ho.2.2.2.2.1, ho.2.2.2.2.2⟩)
      · rw [stM_o (by omega), upA_t (by omega), upA_t (by omega)]; exact h11
      · rw [stM_o (by omega), upA_t (by omega), upA_s]
      · rw [stM_o (by omega), upA_s]
    · rw [if_neg e] at e6
      simp (disch := (first | assumption | omega | exact Nat.le_of_ble_eq_true rfl | rfl)) only [w115_37, w115_38, w115_39, w115_42, w115_45, w115_48, w115_49, w115_50, w115_53, w115_56, w115_59, w115_60, w115_63, w115_66, w115_68, w115_69, w115_72, w115_73, w115_74, w115_75, w115_78, w115_79, w115_82, w115_85, w115_88, w115_89, w115_92, w115_95, w115_98, Ko_n, Ko_v, vX_i, vX_r, vX_l, vX_j, reduceIte, Nat.reduceAdd, e5, e6, upA_t, upA_s, e]
      refine hq2 e _ (fun t o ho => ?_) (fun t o o0 o1 => ?_) ?_ ?_ ?_
      · rcases ho with ho | ho
        · rw [upA_t ho.2.2.2, upA_t ho.2.2.1]; exact fr t o (Or.inl ⟨ho.1, ho.2.1⟩)
        · rw [upA_o (by omega), upA_o (by omega)]; exact fr t o (Or.inr ⟨by omega, ho.2.1, ho.2.2.1, ho.2.2.2.1, ho.2.2.2.2.1, ho.2.2.2.2.2⟩)
      · rw [upA_o (by omega), upA_o (by omega)]; exact fr t o (Or.inr ⟨by omega, by omega, by omega, by omega, by omega, by omega⟩)
      · rw [upA_t (by omega), upA_t (by omega)]; exact h11
      · rw [upA_t (by omega), upA_s]
      · rw [upA_s]
  · by_cases a : n < 0
    · simp (disch := (first | assumption | omega | exact Nat.le_of_ble_eq_true rfl | rfl)) only [w115_0, w115_1, w115_4, w115_5, w115_6, w115_9, w115_12, w115_13, w115_16, w115_17, w115_20, w115_21, w115_22, w115_25, w115_26, w115_29, w115_30, w115_33, w115_34, Ko_n, Ko_v, vX_i, vX_r, vX_l, vX_j, reduceIte, a]
      rw [c169 (by omega) (Or.inl rfl), if_pos rfl, Ko_x rfl]
      exact hQ1 hin
    · simp (disch := (first | assumption | omega | exact Nat.le_of_ble_eq_true rfl | rfl)) only [w115_0, w115_1, w115_4, w115_5, w115_6, w115_9, w115_12, w115_13, w115_16, w115_17, w115_20, w115_21, w115_22, w115_25, w115_26, w115_29, w115_30, w115_33, w115_34, Ko_n, Ko_v, vX_i, vX_r, vX_l, vX_j, reduceIte, a, show σ 1101 0 0 < n by omega]
      rw [c169 (by omega) (Or.inl rfl), if_pos rfl, Ko_x rfl]
      exact hQ1 hin
