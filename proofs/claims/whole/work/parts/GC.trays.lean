/-! ===== tray, write, copy: through the law ===== -/
/-- a store that has other trays only -/
theorem Inv_T {σ ρ : St} {B : Int} (hI : Inv B σ) (hf : ∀ t o, t < 1300 → ¬ (1107 ≤ t ∧ t ≤ 1109 ∧ o = 0) → t ≠ 1204 → ¬ (1237 ≤ t ∧ t ≤ 1239) → ρ t o = σ t o) (h1 : hpT ρ) (h2 : ρ 1107 0 = ρ 1239 382) (h3 : ρ 1108 0 = ρ 1237 382) (h4 : ρ 1109 0 = ρ 1238 382) : Inv B ρ := by
  obtain ⟨⟨a1, a2⟩, ⟨b1, b2, b3, b4⟩, ⟨c1, c2, c3, c4⟩, _, ee⟩ := hI
  have f : ∀ t o, t < 1300 → (t < 1107 ∨ (1109 < t ∧ t ≠ 1204 ∧ ¬ (1237 ≤ t ∧ t ≤ 1239))) → ρ t o = σ t o := fun t o h h' => hf t o h (by omega) (by omega) (by omega)
  refine ⟨⟨?_, ?_⟩, ⟨?_, ?_, ?_, ?_⟩, ⟨?_, ?_, ?_, ?_⟩, ⟨h1, h2, h3, h4⟩, ?_⟩
  · rw [f 1200 382 (by omega) (by omega)]
    exact tie_lo (fun t o h => f t o (by omega) (by omega)) a2.1.1.2.1.2 a1
  · rw [f 1200 382 (by omega) (by omega)]; exact a2
  · rw [f 1100 0 (by omega) (by omega), f 1205 382 (by omega) (by omega)]; exact b1
  · rw [f 1101 0 (by omega) (by omega), f 1206 382 (by omega) (by omega)]; exact b2
  · rw [f 1206 382 (by omega) (by omega)]; exact b3
  · rw [f 1205 382 (by omega) (by omega)]; exact b4
  · rw [f 1102 0 (by omega) (by omega), f 1214 382 (by omega) (by omega)]; exact c1
  · rw [f 1103 0 (by omega) (by omega), f 1215 382 (by omega) (by omega)]; exact c2
  · rw [f 1211 382 (by omega) (by omega)]; exact c3
  · rw [f 1211 382 (by omega) (by omega)]; exact c4
  · exact im_fr (Int.le_refl B) (fun t o h => f t o (by omega) (by omega)) ee
def tyM (σ τ : St) (kk t s m : Int) : Prop := (¬ (0 ≤ t ∧ t < 4) ∧ kk = 1 ∧ τ = σ) ∨ ((0 ≤ t ∧ t < 4) ∧ ¬ ((0 ≤ s ∧ s ≤ 3) ∧ 0 ≤ m ∧ m ≤ 40) ∧ kk = 2 ∧ τ = σ) ∨ ((0 ≤ t ∧ t < 4) ∧ ((0 ≤ s ∧ s ≤ 3) ∧ 0 ≤ m ∧ m ≤ 40) ∧ kk = 0 ∧ τ = tyS σ t s m)
theorem l358 {d : Nat} {t s m : Int} {T : Tt} {σ : St} {Q : vmO → vmH → Prop} (lo0 : -2147483648 ≤ t) (hi0 : t < 2147483648) (lo1 : -2147483648 ≤ s) (hi1 : s < 2147483648) (lo2 : -2147483648 ≤ m) (hi2 : m < 2147483648) (hQ : ∀ kk T' τ, tyM σ τ kk t s m → (T' = T ∨ T' = thr T) → Q (.inl (some (.int (i32 kk)))) (E T' τ)) : Ca (d + 40) 4 358 [.ref 0, .int (i32 t), .int (i32 s), .int (i32 m)] (E T σ) Q := by
  rw [n358 _ _ _ _ _ _ _ _ (by omega)]
  simp (disch := (first | assumption | omega | exact Nat.le_of_ble_eq_true rfl | rfl)) only [w358_0, w358_1, w358_2, w358_3, w358_4, Ko_n, Ko_v, vX_i, vX_r, vX_l, vX_j, reduceIte]
  refine c156 lo0 hi0 lo1 hi1 lo2 hi2 (fun h => ?_) (fun a b h => ?_) (fun a b c e f g => ?_)
  · rw [Ko_c (v := 1) rfl rfl]; exact hQ 1 _ _ (Or.inl ⟨h, rfl, rfl⟩) (Or.inr rfl)
  · rw [Ko_c (v := 2) rfl rfl]; exact hQ 2 _ _ (Or.inr (Or.inl ⟨⟨a, b⟩, h, rfl, rfl⟩)) (Or.inr rfl)
  · simp (disch := (first | assumption | omega | exact Nat.le_of_ble_eq_true rfl | rfl)) only [w358_7, w358_18, w358_19, Ko_n, Ko_v, vX_i, vX_r, vX_l, vX_j, reduceIte]
    exact hQ 0 _ _ (Or.inr (Or.inr ⟨⟨a, b⟩, ⟨⟨c, e⟩, f, g⟩, rfl, rfl⟩)) (Or.inl rfl)
theorem r299 {d : Nat} {k B kk t s m : Int} {T : Tt} {σ τ : St} {Q : vmO → vmH → Prop} (hI : Inv B σ) (lo0 : -2147483648 ≤ t) (hi0 : t < 2147483648) (lo1 : -2147483648 ≤ s) (hi1 : s < 2147483648) (lo2 : -2147483648 ≤ m) (hi2 : m < 2147483648) (hm : tyM σ τ kk t s m) (hQ : ∀ ρ, Inv B ρ → ρ 1204 382 0 = kk → Q (.inl none) (E T ρ)) : Ca (d + 40) k 299 [.ref 382, .int (i32 t), .int (i32 s), .int (i32 m)] (E T τ) Q := by
  have hT := hI.2.2.2.1
  refine c299 lo0 hi0 lo1 hi1 lo2 hi2 (fun h => ?_) (fun h1 h => ?_) (fun h1 h2 => ?_)
  · rcases hm with ⟨_, hk, e⟩ | ⟨h', _⟩ | ⟨h', _⟩
    · rw [e]; exact hQ _ (Inv_4 hI) (by rw [upA_s, hk])
    · exact absurd h' h
    · exact absurd h' h
  · rcases hm with ⟨h', _⟩ | ⟨_, _, hk, e⟩ | ⟨_, h', _⟩
    · exact absurd h1 h'
    · rw [e]; exact hQ _ (Inv_4 hI) (by rw [upA_s, hk])
    · exact absurd h' h
  · rcases hm with ⟨h', _⟩ | ⟨_, h', _⟩ | ⟨_, _, hk, e⟩
    · exact absurd h1 h'
    · exact absurd h2 h'
    · rw [e]
      refine hQ _ (Inv_T hI (fun t' o h a b c => ?_) (fun j j0 j1 => ?_) ?_ ?_ ?_) ?_
      · unfold tySR tyS
        simp (disch := omega) only [upA_t]
        by_cases h7 : 1107 ≤ t' ∧ t' ≤ 1109
        · rw [upA_o (by omega), upA_o (by omega), upA_o (by omega)]
        · simp (disch := omega) only [upA_t]
      · unfold tySR tyS
        simp (disch := omega) only [upA_t, upA_s]
        have a := hT.1 j j0 j1
        by_cases ej : j = t
        · rw [ej, fu_s, fu_s]; omega
        · rw [fu_n ej, fu_n ej]; exact a
      · unfold tySR tyS
        simp (disch := omega) only [upA_t, upA_s]
        rw [hT.2.1]
      · unfold tySR tyS
        simp (disch := omega) only [upA_t, upA_s]
        rw [hT.2.2.1]
      · unfold tySR tyS
        simp (disch := omega) only [upA_t, upA_s]
        rw [hT.2.2.2]
      · unfold tySR
        simp (disch := omega) only [upA_t, upA_s]
        exact hk.symm
def wtM (σ τ : St) (kk t p : Int) (v : Int64) : Prop := (¬ (0 ≤ t ∧ t < 4) ∧ kk = 1 ∧ τ = σ) ∨ ((0 ≤ t ∧ t < 4) ∧ σ 1108 0 t = -1 ∧ kk = 2 ∧ τ = σ) ∨ ((0 ≤ t ∧ t < 4) ∧ σ 1108 0 t ≠ -1 ∧ ¬ (0 ≤ p ∧ p < σ 1109 0 t) ∧ kk = 3 ∧ τ = σ) ∨ ((0 ≤ t ∧ t < 4) ∧ σ 1108 0 t ≠ -1 ∧ (0 ≤ p ∧ p < σ 1109 0 t) ∧ kk = 0 ∧ ∃ f, τ = upA (upA σ 1107 0 (fu (σ 1107 0) (40 * t + p) (ctV (σ 1108 0 t) v).toInt)) 1300 405 (fu f 0 (ctV (σ 1108 0 t) v).toInt))
theorem l359 {d : Nat} {B t p : Int} {v : Int64} {T : Tt} {σ : St} {Q : vmO → vmH → Prop} (hI : Inv B σ) (lo0 : -2147483648 ≤ t) (hi0 : t < 2147483648) (lo1 : -2147483648 ≤ p) (hi1 : p < 2147483648) (hQ : ∀ kk T' τ, wtM σ τ kk t p v → (T' = T ∨ T' = thr T) → Q (.inl (some (.int (i32 kk)))) (E T' τ)) : Ca (d + 40) 4 359 [.ref 0, .int (i32 t), .int (i32 p), .long v, .ref 405] (E T σ) Q := by
  rw [n359 _ _ _ _ _ _ _ _ _ (by omega)]
  simp (disch := (first | assumption | omega | exact Nat.le_of_ble_eq_true rfl | rfl)) only [w359_0, w359_2, w359_3, w359_4, w359_5, w359_6, w359_7, Ko_n, Ko_v, vX_i, vX_r, vX_l, vX_j, reduceIte]
  refine c157 hI.2.2.2.1.1 lo0 hi0 lo1 hi1 (fun h => ?_) (fun a b h => ?_) (fun a b c h => ?_) (fun a b c e f => ?_)
  · rw [Ko_c (v := 1) rfl rfl]; exact hQ 1 _ _ (Or.inl ⟨h, rfl, rfl⟩) (Or.inr rfl)
  · rw [Ko_c (v := 2) rfl rfl]; exact hQ 2 _ _ (Or.inr (Or.inl ⟨⟨a, b⟩, h, rfl, rfl⟩)) (Or.inr rfl)
  · rw [Ko_c (v := 3) rfl rfl]; exact hQ 3 _ _ (Or.inr (Or.inr (Or.inl ⟨⟨a, b⟩, c, h, rfl, rfl⟩))) (Or.inr rfl)
  · simp (disch := (first | assumption | omega | exact Nat.le_of_ble_eq_true rfl | rfl)) only [w359_10, w359_11, w359_26, w359_27, Ko_n, Ko_v, vX_i, vX_r, vX_l, vX_j, reduceIte]
    exact hQ 0 _ _ (Or.inr (Or.inr (Or.inr ⟨⟨a, b⟩, c, ⟨e, f⟩, rfl, _, rfl⟩))) (Or.inl rfl)
theorem r301 {d : Nat} {k B kk t p : Int} {v : Int64} {T : Tt} {σ τ : St} {Q : vmO → vmH → Prop} (hI : Inv B σ) (lo0 : -2147483648 ≤ t) (hi0 : t < 2147483648) (lo1 : -2147483648 ≤ p) (hi1 : p < 2147483648) (hm : wtM σ τ kk t p v) (hQ : ∀ b ρ, rM ρ B kk b → Q (.inl (some (.long b))) (E T ρ)) : Ca (d + 40) k 301 [.ref 382, .int (i32 t), .int (i32 p), .long v] (E T τ) Q := by
  have hT := hI.2.2.2.1
  have fr : ∀ t, 1200 ≤ t → t < 1300 → τ t 382 = σ t 382 := by
    rcases hm with ⟨_, _, e⟩ | ⟨_, _, _, e⟩ | ⟨_, _, _, _, e⟩ | ⟨_, _, _, _, f, e⟩
    · intro _ _ _; rw [e]
    · intro _ _ _; rw [e]
    · intro _ _ _; rw [e]
    · intro t a b; rw [e]; simp (disch := omega) only [upA_t]
  have e7 : τ 1237 382 = σ 1108 0 := by rw [fr 1237 (by omega) (by omega)]; exact hT.2.2.1.symm
  have e8 : τ 1238 382 = σ 1109 0 := by rw [fr 1238 (by omega) (by omega)]; exact hT.2.2.2.symm
  have e9 : τ 1239 382 = σ 1107 0 := by rw [fr 1239 (by omega) (by omega)]; exact hT.2.1.symm
  have hR : hpR τ := fun j j0 j1 => by rw [e7, e8]; exact hT.1 j j0 j1
  refine c301 hR lo0 hi0 lo1 hi1 (fun h => ?_) (fun h1 h2 h => ?_) (fun h1 h2 h3 => ?_)
  · unfold tfR at h ⊢
    rw [e7] at h ⊢
    rcases hm with ⟨h', hk, e⟩ | ⟨h', h2', hk, e⟩ | ⟨h', h2', _⟩ | ⟨h', h2', _⟩
    · rw [if_neg h', e]; exact hQ _ _ ⟨Inv_le (Inv_4 hI) (by omega), by rw [upA_s, hk], fun x => by omega⟩
    · rw [if_pos h', if_pos h2', e]; exact hQ _ _ ⟨Inv_le (Inv_4 hI) (by omega), by rw [upA_s, hk], fun x => by omega⟩
    · rw [if_pos h', if_neg h2'] at h; exact absurd rfl h
    · rw [if_pos h', if_neg h2'] at h; exact absurd rfl h
  · rw [e7] at h2
    rw [e8] at h
    rcases hm with ⟨h', _⟩ | ⟨_, h', _⟩ | ⟨_, _, _, hk, e⟩ | ⟨_, _, h', _⟩
    · exact absurd h1 h'
    · exact absurd h' h2
    · rw [e]; exact hQ _ _ ⟨Inv_le (Inv_4 hI) (by omega), by rw [upA_s, hk], fun x => by omega⟩
    · exact absurd h' h
  · rw [e7] at h2
    rw [e8] at h3
    rcases hm with ⟨h', _⟩ | ⟨_, h', _⟩ | ⟨_, _, h', _⟩ | ⟨_, _, _, hk, f, e⟩
    · exact absurd h1 h'
    · exact absurd h' h2
    · exact absurd h3 h'
    · rw [e7, e9]
      rw [e]
      refine hQ _ _ ⟨Inv_le (Inv_T hI (fun t' o h a b c => ?_) (fun j j0 j1 => ?_) ?_ ?_ ?_) (by omega), ?_, fun _ => ?_⟩
      · simp (disch := omega) only [upA_t]
        by_cases h7 : t' = 1107
        · rw [upA_o (by omega)]
        · rw [upA_t h7]
      · simp (disch := omega) only [upA_t]; exact hT.1 j j0 j1
      · simp (disch := omega) only [upA_t, upA_s]
      · simp (disch := omega) only [upA_t]; exact hT.2.2.1
      · simp (disch := omega) only [upA_t]; exact hT.2.2.2
      · simp (disch := omega) only [upA_t, upA_s]; exact hk.symm
      · simp (disch := omega) only [upA_t, upA_s]
        rw [fu_s, i64_toInt]
def cyM (σ τ : St) (K : Int → Int) (kk t : Int) : Prop := (¬ (0 ≤ t ∧ t < 4) ∧ kk = 1 ∧ τ = σ) ∨ ((0 ≤ t ∧ t < 4) ∧ σ 1108 0 t = -1 ∧ kk = 2 ∧ τ = σ) ∨ ((0 ≤ t ∧ t < 4) ∧ σ 1108 0 t ≠ -1 ∧ kk = 0 ∧ ∃ f, τ = upA (upA σ 1107 0 (trR (tkK K 7) (σ 1107 0) t (min (σ 1109 0 t) (K 1 * K 2)))) 1300 405 (fu f 0 (i64 (min (σ 1109 0 t) (K 1 * K 2))).toInt))
theorem trR_cg {g g' f : Int → Int} {t n : Int} (h : ∀ j, 0 ≤ j → j < n → g j = g' j) : trR g f t n = trR g' f t n := by
  funext j
  unfold trR
  by_cases e : 40 * t ≤ j ∧ j < 40 * t + n
  · rw [if_pos e, if_pos e]; exact h _ (by omega) (by omega)
  · rw [if_neg e, if_neg e]
theorem l360 {d : Nat} {B t : Int} {K : Int → Int} {T : Tt} {σ : St} {Q : vmO → vmH → Prop} (hI : Inv B σ) (hB : B < 790000000) (hK : σ 1200 382 = K) (lo0 : -2147483648 ≤ t) (hi0 : t < 2147483648) (hQ : ∀ kk T' τ, cyM σ τ K kk t → (T' = T ∨ T' = thr T) → Q (.inl (some (.int (i32 kk)))) (E T' τ)) : Ca (d + 40) 4 360 [.ref 0, .int (i32 t), .ref 405] (E T σ) Q := by
  have ht : tie σ 2 K := by rw [← hK]; exact hI.1.1
  have hv : kV K B := by rw [← hK]; exact hI.1.2.1
  have hT := hI.2.2.2.1
  have hm := wh_mul0 hv.1.1
  have hN := nK_c hv.1
  rw [n360 _ _ _ _ _ _ _ (by omega)]
  simp (disch := (first | assumption | omega | exact Nat.le_of_ble_eq_true rfl | rfl)) only [w360_0, w360_1, w360_2, w360_3, w360_4, Ko_n, Ko_v, vX_i, vX_r, vX_l, vX_j, reduceIte]
  refine c159 (N := nK K) hT.1 (by rw [ht.1.2.1, ht.1.2.2.1, hN]) (by omega) (tsc_sc ht.2.1 hv.2.1 (by omega)).2.1 lo0 hi0 (fun h => ?_) (fun a b h => ?_) (fun a b c => ?_)
  · rw [Ko_c (v := 1) rfl rfl]; exact hQ 1 _ _ (Or.inl ⟨h, rfl, rfl⟩) (Or.inr rfl)
  · rw [Ko_c (v := 2) rfl rfl]; exact hQ 2 _ _ (Or.inr (Or.inl ⟨⟨a, b⟩, h, rfl, rfl⟩)) (Or.inr rfl)
  · have tb := (hT.1 t a b).2.2
    rw [hN, trR_cg (g' := tkK K 7) (fun j j0 j1 => tsc_t ht.2.1 j j0 (by omega))]
    simp (disch := (first | assumption | omega | exact Nat.le_of_ble_eq_true rfl | rfl)) only [w360_7, w360_8, w360_9, w360_18, w360_19, Ko_n, Ko_v, vX_i, vX_r, vX_l, vX_j, reduceIte]
    exact hQ 0 _ _ (Or.inr (Or.inr ⟨⟨a, b⟩, c, rfl, _, rfl⟩)) (Or.inl rfl)
theorem r302 {d : Nat} {k B kk t : Int} {K : Int → Int} {T : Tt} {σ τ : St} {Q : vmO → vmH → Prop} (hI : Inv B σ) (hK : σ 1200 382 = K) (lo0 : -2147483648 ≤ t) (hi0 : t < 2147483648) (hm : cyM σ τ K kk t) (hQ : ∀ b ρ, rM ρ B kk (i64 ((i32 b).toInt)) → Q (.inl (some (.int (i32 b)))) (E T ρ)) : Ca (d + 40) k 302 [.ref 382, .int (i32 t)] (E T τ) Q := by
  have hT := hI.2.2.2.1
  have hv : kV K B := by rw [← hK]; exact hI.1.2.1
  have hmm := wh_mul0 hv.1.1
  have fr : ∀ t, 1200 ≤ t → t < 1300 → τ t 382 = σ t 382 := by
    rcases hm with ⟨_, _, e⟩ | ⟨_, _, _, e⟩ | ⟨_, _, _, f, e⟩
    · intro _ _ _; rw [e]
    · intro _ _ _; rw [e]
    · intro t a b; rw [e]; simp (disch := omega) only [upA_t]
  have e7 : τ 1237 382 = σ 1108 0 := by rw [fr 1237 (by omega) (by omega)]; exact hT.2.2.1.symm
  have e8 : τ 1238 382 = σ 1109 0 := by rw [fr 1238 (by omega) (by omega)]; exact hT.2.2.2.symm
  have e9 : τ 1239 382 = σ 1107 0 := by rw [fr 1239 (by omega) (by omega)]; exact hT.2.1.symm
  have hR : hpR τ := fun j j0 j1 => by rw [e7, e8]; exact hT.1 j j0 j1
  refine c302 (by rw [fr 1200 (by omega) (by omega)]; exact hK) hv hR lo0 hi0 (fun h => ?_) (fun h1 h2 => ?_)
  · unfold tfR at h ⊢
    rw [e7] at h ⊢
    rcases hm with ⟨h', hk, e⟩ | ⟨h', h2', hk, e⟩ | ⟨h', h2', _⟩
    · rw [if_neg h', e]; exact hQ _ _ ⟨Inv_le (Inv_4 hI) (by omega), by rw [upA_s, hk], fun x => by omega⟩
    · rw [if_pos h', if_pos h2', e]; exact hQ _ _ ⟨Inv_le (Inv_4 hI) (by omega), by rw [upA_s, hk], fun x => by omega⟩
    · rw [if_pos h', if_neg h2'] at h; exact absurd rfl h
  · rw [e7] at h2
    rcases hm with ⟨h', _⟩ | ⟨_, h', _⟩ | ⟨_, _, hk, f, e⟩
    · exact absurd h1 h'
    · exact absurd h' h2
    · have tb := (hT.1 t h1.1 h1.2).2.2
      rw [e8, e9, e]
      refine hQ _ _ ⟨Inv_le (Inv_T hI (fun t' o h a b c => ?_) (fun j j0 j1 => ?_) ?_ ?_ ?_) (by omega), ?_, fun _ => ?_⟩
      · simp (disch := omega) only [upA_t]
        by_cases h7 : t' = 1107
        · rw [upA_o (by omega)]
        · rw [upA_t h7]
      · simp (disch := omega) only [upA_t]; exact hT.1 j j0 j1
      · simp (disch := omega) only [upA_t, upA_s]
      · simp (disch := omega) only [upA_t]; exact hT.2.2.1
      · simp (disch := omega) only [upA_t]; exact hT.2.2.2
      · simp (disch := omega) only [upA_t, upA_s]; exact hk.symm
      · simp (disch := omega) only [upA_t, upA_s]
        rw [fu_s, i64_toInt, show (i32 (min (σ 1109 0 t) (K 1 * K 2))).toInt = min (σ 1109 0 t) (K 1 * K 2) from Int32.toInt_ofInt_of_le (by omega) (by omega)]
