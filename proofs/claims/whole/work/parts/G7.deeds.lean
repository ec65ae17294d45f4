/-! ===== deeds: the law's wrappers and the reference ===== -/
def dM (σ τ : St) (kk : Int) (c1 c2 c3 : Prop) (K' : Int → Int) (v : Int64) : Prop := (τ = σ ∧ ((¬ c1 ∧ kk = 1) ∨ (c1 ∧ ¬ c2 ∧ kk = 2) ∨ (c1 ∧ c2 ∧ ¬ c3 ∧ kk = 3))) ∨ ((c1 ∧ c2 ∧ c3) ∧ kk = 0 ∧ tie τ 2 K' ∧ fI σ τ ∧ (∀ t o, 1200 ≤ t → t < 1300 → τ t o = σ t o) ∧ i64 (τ 1300 405 0) = v)
theorem dM_1 {σ : St} {c1 c2 c3 : Prop} {K' : Int → Int} {v : Int64} (h : ¬ c1) : dM σ σ 1 c1 c2 c3 K' v := Or.inl ⟨rfl, Or.inl ⟨h, rfl⟩⟩
theorem dM_2 {σ : St} {c1 c2 c3 : Prop} {K' : Int → Int} {v : Int64} (h1 : c1) (h : ¬ c2) : dM σ σ 2 c1 c2 c3 K' v := Or.inl ⟨rfl, Or.inr (Or.inl ⟨h1, h, rfl⟩)⟩
theorem dM_3 {σ : St} {c1 c2 c3 : Prop} {K' : Int → Int} {v : Int64} (h1 : c1) (h2 : c2) (h : ¬ c3) : dM σ σ 3 c1 c2 c3 K' v := Or.inl ⟨rfl, Or.inr (Or.inr ⟨h1, h2, h, rfl⟩)⟩
theorem tie_o {σ : St} {a : Nat} {K : Int → Int} {f : Int → Int} (h3 : K 3 ≤ 5) (ht : tie σ a K) : tie (upA σ 1300 405 f) a K := tie_fr2 (fun t o h _ => upA_t (by omega)) h3 ht
theorem dM_0 {σ τ : St} {c1 c2 c3 : Prop} {K' : Int → Int} {v : Int64} {f : Int → Int} (h1 : c1) (h2 : c2) (h3 : c3) (hf : fM σ τ) (ht : tie τ 2 K') (k3 : K' 3 ≤ 5) : dM σ (upA τ 1300 405 (fu f 0 v.toInt)) 0 c1 c2 c3 K' v := by
  refine Or.inr ⟨⟨h1, h2, h3⟩, rfl, tie_o k3 ht, fI_t (fI_fM hf) fI_o, fun t o t0 t1 => ?_, ?_⟩
  · rw [upA_t (by omega)]; exact hf t o (by omega)
  · rw [upA_s, fu_s, i64_toInt]
theorem rD_1 {σ τ ρ : St} {B kk u : Int} {c1 c2 c3 : Prop} {K' : Int → Int} {v b : Int64} (hI : Inv B σ) (hm : dM σ τ kk c1 c2 c3 K' v) (hu : (¬ c1 ∧ u = 1) ∨ (c1 ∧ ¬ c2 ∧ u = 2) ∨ (c1 ∧ c2 ∧ ¬ c3 ∧ u = 3)) (f : fT τ ρ) (hK : ρ 1200 382 = σ 1200 382) (ht : ρ 1204 382 0 = u) : rM ρ B kk b := by
  rcases hm with ⟨e, hk⟩ | ⟨⟨a1, a2, a3⟩, _⟩
  · have k : kk = u := by
      rcases hk with ⟨a, e⟩ | ⟨a, a2, e⟩ | ⟨a, a2, a3, e⟩ <;> rcases hu with ⟨x, y⟩ | ⟨x, x2, y⟩ | ⟨x, x2, x3, y⟩
      · rw [e, y]
      · exact absurd x a
      · exact absurd x a
      · exact absurd a x
      · rw [e, y]
      · exact absurd x2 a2
      · exact absurd a x
      · exact absurd a2 x2
      · rw [e, y]
    rw [e] at f
    refine ⟨Inv_le (Inv_r hI f hK) (by omega), by rw [k]; exact ht, fun e => ?_⟩
    rcases hu with ⟨_, y⟩ | ⟨_, _, y⟩ | ⟨_, _, _, y⟩ <;> omega
  · rcases hu with ⟨x, _⟩ | ⟨_, x, _⟩ | ⟨_, _, x, _⟩
    · exact absurd a1 x
    · exact absurd a2 x
    · exact absurd a3 x
theorem rD_0 {σ τ ρ : St} {B kk : Int} {c1 c2 c3 : Prop} {K' : Int → Int} {v : Int64} (hI : Inv B σ) (hm : dM σ τ kk c1 c2 c3 K' v) (h1 : c1) (h2 : c2) (h3 : c3) (f : fT τ ρ) (hK : ρ 1200 382 = K') (ho : okK K' (B + 300000)) (ht : ρ 1204 382 0 = 0) : rM ρ B kk v := by
  rcases hm with ⟨e, hk⟩ | ⟨_, k0, tk, fi, _, o⟩
  · rcases hk with ⟨x, _⟩ | ⟨_, x, _⟩ | ⟨_, _, x, _⟩
    · exact absurd h1 x
    · exact absurd h2 x
    · exact absurd h3 x
  · refine ⟨Inv_K hI (by omega) (fI_t fi (fI_fT f)) ?_ (by rw [hK]; exact ho), by rw [k0]; exact ht, fun _ => ?_⟩
    · rw [hK]
      exact tie_fT f ho.1.1.2.1.2 tk
    · rw [f 1300 405 (by omega)]; exact o
/-- the state the class's deed left, for the reference -/
theorem dM_K {σ τ : St} {kk : Int} {c1 c2 c3 : Prop} {K' : Int → Int} {v : Int64} (hm : dM σ τ kk c1 c2 c3 K' v) : ∀ t o, 1200 ≤ t → t < 1300 → τ t o = σ t o := by
  rcases hm with ⟨e, _⟩ | ⟨_, _, _, _, h, _⟩
  · intro t o _ _; rw [e]
  · exact h
theorem kp_ok {K : Int → Int} {B : Int} (h : okK K B) : okK (kpK K) B := ⟨kpK_V h.1, (lw_kp h.1 h.2.1 h.2.2).1, (lw_kp h.1 h.2.1 h.2.2).2⟩
theorem st_ok {K K' : Int → Int} {B B' : Int} (h : okK K B) (hB : B ≤ B') (hk : stK K K') (hs : scV K' 7 B') : okK K' B' := ⟨kV_act h.1 hB hk hs, (lw_st hk h.2.1 h.2.2).1, (lw_st hk h.2.1 h.2.2).2⟩
def wkC (K : Int → Int) (w z : Int) : Int := if dK K w z < far then dK K w z else -1
def wkN (K : Int → Int) (w z : Int) : Int → Int := if dK K w z < far then goK (kpK K) w z (dK K w z) else K
theorem wkN_ok {K : Int → Int} {B w z : Int} (h : okK K B) (w' : wzI K w z) : okK (wkN K w z) (B + 300000) := by
  unfold wkN
  by_cases e : dK K w z < far
  · rw [if_pos e]
    have a := dK_no4 h.1 w'.1.1 w'.1.2 w'.2.1 w'.2.2 e
    have h5 := (kV_w h.1 w'.1.1 w'.1.2).2.1
    have hm := wh_mul0 h.1.1.1
    have lo := kpK_lo h.1.1.2.2.2.2.1.1 h.1.1.2.2.2.2.1.2
    have kp := kp_ok h
    have z1 := w'.2
    refine st_ok kp (by omega) (goK_st w'.1.1 h5) (goK_V kp.1.1 w'.1.1 h5 w'.2.1 (by rw [lo 1 (by omega), lo 2 (by omega)]; exact w'.2.2) (by rw [lo _ (by omega)]; exact a.1) a.2.1 (by omega) kp.1.2.1)
  · rw [if_neg e]; exact okK_le (by omega) h
theorem l325 {d : Nat} {B w z : Int} {K : Int → Int} {T : Tt} {σ : St} {Q : vmO → vmH → Prop} (hI : Inv B σ) (hB : B < 790000000) (hK : σ 1200 382 = K) (lo0 : -2147483648 ≤ w) (hi0 : w < 2147483648) (lo1 : -2147483648 ≤ z) (hi1 : z < 2147483648) (hQ : ∀ kk T' τ, dM σ τ kk (wzI K w z) True True (wkN K w z) (i64 ((i32 (wkC K w z)).toInt)) → (T' = T ∨ T' = thr T) → Q (.inl (some (.int (i32 kk)))) (E T' τ)) : Ca (d + 40) 4 325 [.ref 0, .int (i32 w), .int (i32 z), .ref 405] (E T σ) Q := by
  have ht : tie σ 2 K := by rw [← hK]; exact hI.1.1
  have ok : okK K B := by rw [← hK]; exact hI.1.2
  have hv := ok.1
  have cE : wkC K w z = if dK K w z < far then dK K w z else -1 := rfl
  have nE : wkN K w z = if dK K w z < far then goK (kpK K) w z (dK K w z) else K := rfl
  rw [n325 _ _ _ _ _ _ _ _ (by omega)]
  simp (disch := (first | assumption | omega | exact Nat.le_of_ble_eq_true rfl | rfl)) only [w325_0, w325_1, w325_2, w325_3, w325_4, w325_5, Ko_n, Ko_v, vX_i, vX_r, vX_l, vX_j, reduceIte]
  refine c121K ht hv (by omega) lo0 hi0 lo1 hi1 (fun h => ?_) (fun w0 w1 z0 z1 h => ?_) (fun w0 w1 z0 z1 h τ hs tk => ?_)
  · rw [Ko_c (v := 1) rfl rfl]; exact hQ 1 _ _ (dM_1 h) (Or.inr rfl)
  · rw [if_neg h] at cE nE
    have k3 := (wkN_ok ok ⟨⟨w0, w1⟩, z0, z1⟩).1.1.2.1.2
    rw [cE, nE] at hQ
    rw [nE] at k3
    simp (disch := (first | assumption | omega | exact Nat.le_of_ble_eq_true rfl | rfl)) only [w325_8, w325_9, w325_10, w325_17, w325_18, Ko_n, Ko_v, vX_i, vX_r, vX_l, vX_j, reduceIte]
    exact hQ 0 _ _ (dM_0 ⟨⟨w0, w1⟩, z0, z1⟩ trivial trivial fM_r ht k3) (Or.inl rfl)
  · rw [if_pos h] at cE nE
    have k3 := (wkN_ok ok ⟨⟨w0, w1⟩, z0, z1⟩).1.1.2.1.2
    rw [cE, nE] at hQ
    rw [nE] at k3
    have hb1 := Int32.le_toInt (i32 (dK K w z))
    have hb2 := Int32.toInt_lt (i32 (dK K w z))
    rw [← i32_toInt (i32 (dK K w z))]
    generalize (i32 (dK K w z)).toInt = u at hb1 hb2 hQ ⊢
    simp (disch := (first | assumption | omega | exact Nat.le_of_ble_eq_true rfl | rfl)) only [w325_8, w325_9, w325_10, w325_17, w325_18, Ko_n, Ko_v, vX_i, vX_r, vX_l, vX_j, reduceIte]
    exact hQ 0 _ _ (dM_0 ⟨⟨w0, w1⟩, z0, z1⟩ trivial trivial hs tk k3) (Or.inl rfl)
theorem r244 {d : Nat} {k B kk w z : Int} {K : Int → Int} {T : Tt} {σ τ : St} {Q : vmO → vmH → Prop} (hI : Inv B σ) (hB : B < 790000000) (hK : σ 1200 382 = K) (lo0 : -2147483648 ≤ w) (hi0 : w < 2147483648) (lo1 : -2147483648 ≤ z) (hi1 : z < 2147483648) (hm : dM σ τ kk (wzI K w z) True True (wkN K w z) (i64 ((i32 (wkC K w z)).toInt))) (hQ : ∀ b ρ, rM ρ B kk (i64 ((i32 b).toInt)) → Q (.inl (some (.int (i32 b)))) (E T ρ)) : Ca (d + 40) k 244 [.ref 382, .int (i32 w), .int (i32 z)] (E T τ) Q := by
  have ok : okK K B := by rw [← hK]; exact hI.1.2
  have hv := ok.1
  have e : τ 1200 382 = K := by rw [dM_K hm 1200 382 (by omega) (by omega)]; exact hK
  refine c244 e hv (by omega) lo0 hi0 lo1 hi1 (fun h ρ f g1 g2 => hQ _ _ (rD_1 hI hm (Or.inl ⟨h, rfl⟩) f (g1.trans hK.symm) g2)) (fun h1 h2 ρ f g1 g2 => hQ _ _ ?_) (fun h1 h2 ρ f g1 g2 => hQ _ _ ?_)
  · have nE : wkN K w z = K := if_neg h2
    have cE : wkC K w z = -1 := if_neg h2
    have q := rD_0 hI hm h1 trivial trivial f (g1.trans nE.symm) (wkN_ok ok h1) g2
    rw [cE] at q
    exact q
  · have nE : wkN K w z = goK (kpK K) w z (dK K w z) := if_pos h2
    have cE : wkC K w z = dK K w z := if_pos h2
    have q := rD_0 hI hm h1 trivial trivial f (g1.trans nE.symm) (wkN_ok ok h1) g2
    rw [cE] at q
    exact q
