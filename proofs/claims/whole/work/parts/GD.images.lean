/-! ===== image, restore: through the law ===== -/
theorem img_d {i j : Int} (i0 : 0 ≤ i) (i1 : i < 3) (j0 : 0 ≤ j) (j1 : j < 3) (h : i ≠ j) : img i + 64 ≤ img j ∨ img j + 64 ≤ img i := by
  unfold img
  omega
def iaM (σ τ : St) (kk i : Int) : Prop := (¬ (0 ≤ i ∧ i < 3) ∧ kk = 1 ∧ τ = σ) ∨ ((0 ≤ i ∧ i < 3) ∧ kk = 0 ∧ τ = upA (stM σ (img i) 2) 805 (img i) fun _ => 1)
theorem l361 {d : Nat} {B i : Int} {T : Tt} {σ : St} {Q : vmO → vmH → Prop} (hI : Inv B σ) (lo0 : -2147483648 ≤ i) (hi0 : i < 2147483648) (hQ : ∀ kk T' τ, iaM σ τ kk i → (T' = T ∨ T' = thr T) → Q (.inl (some (.int (i32 kk)))) (E T' τ)) : Ca (d + 40) 4 361 [.ref 0, .int (i32 i)] (E T σ) Q := by
  have ht := hI.1.1
  have v5 := hI.1.2.1.1.2.2.2.1
  have e5 : σ 301 7 0 = σ 1200 382 5 := ht.1.2.2.2.2.2.1
  rw [n361 _ _ _ _ _ _ (by omega)]
  simp (disch := (first | assumption | omega | exact Nat.le_of_ble_eq_true rfl | rfl)) only [w361_0, w361_1, w361_2, Ko_n, Ko_v, vX_i, vX_r, vX_l, vX_j, reduceIte]
  refine c160 (by omega) (by omega) lo0 hi0 (fun h => ?_) (fun a b => ?_)
  · rw [Ko_c (v := 1) rfl rfl]; exact hQ 1 _ _ (Or.inl ⟨h, rfl, rfl⟩) (Or.inr rfl)
  · simp (disch := (first | assumption | omega | exact Nat.le_of_ble_eq_true rfl | rfl)) only [w361_5, w361_11, w361_12, Ko_n, Ko_v, vX_i, vX_r, vX_l, vX_j, reduceIte]
    exact hQ 0 _ _ (Or.inr ⟨⟨a, b⟩, rfl, rfl⟩) (Or.inl rfl)
theorem r303 {d : Nat} {k B kk i : Int} {T : Tt} {σ τ : St} {Q : vmO → vmH → Prop} (hI : Inv B σ) (lo0 : -2147483648 ≤ i) (hi0 : i < 2147483648) (hm : iaM σ τ kk i) (hQ : ∀ ρ, Inv B ρ → ρ 1204 382 0 = kk → Q (.inl none) (E T ρ)) : Ca (d + 40) k 303 [.ref 382, .int (i32 i)] (E T τ) Q := by
  have hI' := hI
  obtain ⟨⟨a1, a2⟩, ⟨b1, b2, b3, b4⟩, ⟨c1, c2, c3, c4⟩, ⟨d1, d2, d3, d4⟩, ee⟩ := hI
  refine c303 rfl lo0 hi0 (fun h => ?_) (fun h => ?_)
  · rcases hm with ⟨_, hk, e⟩ | ⟨h', _⟩
    · rw [e]; exact hQ _ (Inv_4 hI') (by rw [upA_s, hk])
    · exact absurd h' h
  · rcases hm with ⟨h', _⟩ | ⟨_, hk, e⟩
    · exact absurd h h'
    · have ii := img_in h.1 h.2
      have fo : ∀ t o, (o < img i ∨ img i + 64 ≤ o) → τ t o = σ t o := fun t o ho => by
        rw [e, upA_o (by omega), stM_o (by omega)]
      have f0 : ∀ t, τ t 0 = σ t 0 := fun t => fo t 0 (by omega)
      have f3 : ∀ t, τ t 382 = σ t 382 := fun t => fo t 382 (by omega)
      have k3 : σ 1200 382 3 ≤ 5 := a2.1.1.2.1.2
      have ti : tie τ (img i) (σ 1200 382) := by
        rw [e]
        have s := stM_tie (a := img i) (o := 2) (Or.inr (by omega)) a2.1 a1
        obtain ⟨hP, hS, hu, hr, hU⟩ := s
        refine ⟨tpl_fr (fun t o t0 t1 => upA_t (by omega)) hP, tsc_mv (fun t t0 t1 => upA_t (by omega)) rfl k3 (fun _ _ _ => rfl) hS, ?_, ?_, ?_⟩
        · rw [upA_t (by omega)]; exact hu
        · rw [upA_t (by omega)]; exact hr
        · intro j j0 j1
          rw [upA_t (by omega)]
          exact tsc_mv (fun t t0 t1 => upA_t (by omega)) rfl k3 (fun _ _ _ => rfl) (hU j j0 j1)
      have t5 : τ 805 (img i) 0 = 1 := by rw [e, upA_s]
      refine hQ _ ⟨⟨?_, ?_⟩, ⟨?_, ?_, ?_, ?_⟩, ⟨?_, ?_, ?_, ?_⟩, ⟨?_, ?_, ?_, ?_⟩, ?_⟩ ?_
      · simp (disch := omega) only [upA_t]
        rw [f3 1200]
        exact tie_fr3 (fun t o h _ _ => by simp (disch := omega) only [upA_t]; exact fo t o (by omega)) k3 a1
      · simp (disch := omega) only [upA_t]; rw [f3]; exact a2
      · simp (disch := omega) only [upA_t]; rw [f0, f3]; exact b1
      · simp (disch := omega) only [upA_t]; rw [f0, f3]; exact b2
      · simp (disch := omega) only [upA_t]; rw [f3]; exact b3
      · simp (disch := omega) only [upA_t]; rw [f3]; exact b4
      · simp (disch := omega) only [upA_t]; rw [f0, f3]; exact c1
      · simp (disch := omega) only [upA_t]; rw [f0, f3]; exact c2
      · simp (disch := omega) only [upA_t]; rw [f3]; exact c3
      · simp (disch := omega) only [upA_t]; rw [f3]; exact c4
      · intro j j0 j1; simp (disch := omega) only [upA_t]; rw [f0, f0]; exact d1 j j0 j1
      · simp (disch := omega) only [upA_t]; rw [f0, f3]; exact d2
      · simp (disch := omega) only [upA_t]; rw [f0, f3]; exact d3
      · simp (disch := omega) only [upA_t]; rw [f0, f3]; exact d4
      · intro j j0 j1
        have jj := img_in j0 j1
        simp (disch := omega) only [upA_t, upA_s]
        by_cases ej : j = i
        · rw [ej, fu_s]
          refine ⟨t5, Or.inr ⟨rfl, ?_, ?_⟩⟩
          · refine tie_19 (K := σ 1200 382) (fun x x0 x1 => ?_) a2.1.1 (tie_lo (fun t o h => by simp (disch := omega) only [upA_t]) k3 ti)
            unfold imK
            rw [upA_s]
            unfold imR
            rw [if_pos (by omega), f3]
            congr 1
            omega
          · refine okK_19 (K := σ 1200 382) (fun x x0 x1 => ?_) a2
            unfold imK
            rw [upA_s]
            unfold imR
            rw [if_pos (by omega), f3]
            congr 1
            omega
        · have dd := img_d j0 j1 h.1 h.2 ej
          have a := ee j j0 j1
          rw [fu_n ej, fo 805 (img j) (by omega), f3]
          refine ⟨a.1, ?_⟩
          rcases a.2 with a | ⟨a, b, c⟩
          · exact Or.inl a
          · have lo : lo19 (imK σ j) (imK (upA (upA (upA τ 1204 382 fun _ => 0) 1203 382 (fu (τ 1203 382) i 1)) 1202 382 (imR (τ 1200 382) (τ 1202 382) i 1900)) j) := fun x x0 x1 => by
              unfold imK
              rw [upA_s]
              unfold imR
              rw [if_neg (by omega), f3]
            refine Or.inr ⟨a, ?_, okK_19 lo c⟩
            exact tie_19 lo c.1.1 (tie_fr3 (fun t o h _ _ => by simp (disch := omega) only [upA_t]; exact fo t o (by omega)) c.1.1.2.1.2 b)
      · simp (disch := omega) only [upA_t, upA_s]; exact hk.symm
def reM (σ τ : St) (kk i : Int) : Prop := (¬ (0 ≤ i ∧ i < 3) ∧ kk = 1 ∧ τ = σ) ∨ ((0 ≤ i ∧ i < 3) ∧ σ 1203 382 i = 0 ∧ kk = 2 ∧ τ = σ) ∨ ((0 ≤ i ∧ i < 3) ∧ σ 1203 382 i = 1 ∧ kk = 0 ∧ τ = stM σ 2 (img i))
theorem l362 {d : Nat} {B i : Int} {T : Tt} {σ : St} {Q : vmO → vmH → Prop} (hI : Inv B σ) (lo0 : -2147483648 ≤ i) (hi0 : i < 2147483648) (hQ : ∀ kk T' τ, reM σ τ kk i → (T' = T ∨ T' = thr T) → Q (.inl (some (.int (i32 kk)))) (E T' τ)) : Ca (d + 40) 4 362 [.ref 0, .int (i32 i)] (E T σ) Q := by
  have ee := hI.2.2.2.2
  rw [n362 _ _ _ _ _ _ (by omega)]
  simp (disch := (first | assumption | omega | exact Nat.le_of_ble_eq_true rfl | rfl)) only [w362_0, w362_1, w362_2, Ko_n, Ko_v, vX_i, vX_r, vX_l, vX_j, reduceIte]
  refine c161 (fun j j0 j1 => ?_) lo0 hi0 (fun h => ?_) (fun a b h => ?_) (fun a b h => ?_)
  · have a := ee j j0 j1
    rw [a.1]
    rcases a.2 with a | ⟨a, b, c⟩
    · exact Or.inl a
    · have e5 : σ 301 (img j + 5) 0 = imK σ j 5 := b.1.2.2.2.2.2.1
      have v5 := c.1.1.2.2.2.1
      exact Or.inr ⟨a, by omega, by omega⟩
  · rw [Ko_c (v := 1) rfl rfl]; exact hQ 1 _ _ (Or.inl ⟨h, rfl, rfl⟩) (Or.inr rfl)
  · rw [Ko_c (v := 2) rfl rfl]; exact hQ 2 _ _ (Or.inr (Or.inl ⟨⟨a, b⟩, by rw [← (ee i a b).1]; exact h, rfl, rfl⟩)) (Or.inr rfl)
  · simp (disch := (first | assumption | omega | exact Nat.le_of_ble_eq_true rfl | rfl)) only [w362_5, w362_14, w362_15, Ko_n, Ko_v, vX_i, vX_r, vX_l, vX_j, reduceIte]
    exact hQ 0 _ _ (Or.inr (Or.inr ⟨⟨a, b⟩, by rw [← (ee i a b).1]; exact h, rfl, rfl⟩)) (Or.inl rfl)
theorem r304 {d : Nat} {k B kk i : Int} {T : Tt} {σ τ : St} {Q : vmO → vmH → Prop} (hI : Inv B σ) (lo0 : -2147483648 ≤ i) (hi0 : i < 2147483648) (hm : reM σ τ kk i) (hQ : ∀ ρ, Inv B ρ → ρ 1204 382 0 = kk → Q (.inl none) (E T ρ)) : Ca (d + 40) k 304 [.ref 382, .int (i32 i)] (E T τ) Q := by
  have hI' := hI
  obtain ⟨⟨a1, a2⟩, ⟨b1, b2, b3, b4⟩, ⟨c1, c2, c3, c4⟩, ⟨d1, d2, d3, d4⟩, ee⟩ := hI
  have fo : ∀ t o, (o < 2 ∨ 66 ≤ o) → τ t o = σ t o := by
    rcases hm with ⟨_, _, e⟩ | ⟨_, _, _, e⟩ | ⟨_, _, _, e⟩
    · intro _ _ _; rw [e]
    · intro _ _ _; rw [e]
    · intro t o ho; rw [e, stM_o (by omega)]
  have f0 : ∀ t, τ t 0 = σ t 0 := fun t => fo t 0 (by omega)
  have f3 : ∀ t, τ t 382 = σ t 382 := fun t => fo t 382 (by omega)
  refine c304 rfl (fun j j0 j1 => ?_) lo0 hi0 (fun h => ?_) (fun h h1 => ?_) (fun h h1 => ?_)
  · rw [f3]
    rcases (ee j j0 j1).2 with a | a
    · exact Or.inl a
    · exact Or.inr a.1
  · rcases hm with ⟨_, hk, e⟩ | ⟨h', _⟩ | ⟨h', _⟩
    · rw [e]; exact hQ _ (Inv_4 hI') (by rw [upA_s, hk])
    · exact absurd h' h
    · exact absurd h' h
  · rw [f3] at h1
    rcases hm with ⟨h', _⟩ | ⟨_, _, hk, e⟩ | ⟨_, h', _⟩
    · exact absurd h h'
    · rw [e]; exact hQ _ (Inv_4 hI') (by rw [upA_s, hk])
    · omega
  · rw [f3] at h1
    rcases hm with ⟨h', _⟩ | ⟨_, h', _⟩ | ⟨_, _, hk, e⟩
    · exact absurd h h'
    · omega
    · have ii := img_in h.1 h.2
      obtain ⟨_, im⟩ := ee i h.1 h.2
      rcases im with im | ⟨_, ti, oki⟩
      · omega
      · have lo : lo19 (imK σ i) (rsR (τ 1200 382) (τ 1202 382) i 1900) := fun x x0 x1 => by
          unfold rsR imK
          rw [if_pos ⟨x0, x1⟩, f3]
        have t2 : tie τ 2 (imK σ i) := by
          rw [e]
          exact stM_tie (a := 2) (o := img i) (Or.inl (by omega)) oki.1 ti
        refine hQ _ ⟨⟨?_, ?_⟩, ⟨?_, ?_, ?_, ?_⟩, ⟨?_, ?_, ?_, ?_⟩, ⟨?_, ?_, ?_, ?_⟩, ?_⟩ ?_
        · rw [upA_s]
          exact tie_19 lo oki.1.1 (tie_lo (fun t o h => by simp (disch := omega) only [upA_t]) oki.1.1.2.1.2 t2)
        · rw [upA_s]; exact okK_19 lo oki
        · simp (disch := omega) only [upA_t]; rw [f0, f3]; exact b1
        · simp (disch := omega) only [upA_t]; rw [f0, f3]; exact b2
        · simp (disch := omega) only [upA_t]; rw [f3]; exact b3
        · simp (disch := omega) only [upA_t]; rw [f3]; exact b4
        · simp (disch := omega) only [upA_t]; rw [f0, f3]; exact c1
        · simp (disch := omega) only [upA_t]; rw [f0, f3]; exact c2
        · simp (disch := omega) only [upA_t]; rw [f3]; exact c3
        · simp (disch := omega) only [upA_t]; rw [f3]; exact c4
        · intro j j0 j1; simp (disch := omega) only [upA_t]; rw [f0, f0]; exact d1 j j0 j1
        · simp (disch := omega) only [upA_t]; rw [f0, f3]; exact d2
        · simp (disch := omega) only [upA_t]; rw [f0, f3]; exact d3
        · simp (disch := omega) only [upA_t]; rw [f0, f3]; exact d4
        · intro j j0 j1
          have jj := img_in j0 j1
          have a := ee j j0 j1
          simp (disch := omega) only [upA_t]
          rw [fo 805 (img j) (by omega), f3]
          refine ⟨a.1, ?_⟩
          rcases a.2 with a | ⟨a, b, c⟩
          · exact Or.inl a
          · have ie : imK (upA (upA τ 1204 382 fun _ => 0) 1200 382 (rsR (τ 1200 382) (τ 1202 382) i 1900)) j = imK σ j := by
              refine imK_e ?_
              simp (disch := omega) only [upA_t]
              exact f3 1202
            rw [ie]
            exact Or.inr ⟨a, tie_fr2 (fun t o h h' => by simp (disch := omega) only [upA_t]; exact fo t o (by omega)) c.1.1.2.1.2 b, c⟩
        · simp (disch := omega) only [upA_t, upA_s]; exact hk.symm
