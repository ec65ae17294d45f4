/-! ===== park: through the law ===== -/
theorem tie_fr3 {σ τ : St} {a : Nat} {K : Int → Int} (h : ∀ t o, t < 1000 → a ≤ o → o < a + 64 → τ t o = σ t o) (h3 : K 3 ≤ 5) (ht : tie σ a K) : tie τ a K := by
  obtain ⟨hP, hS, hu, hr, hU⟩ := ht
  have e3 : τ 803 a = σ 803 a := h 803 a (by omega) (by omega) (by omega)
  refine ⟨?_, tsc_mv (fun t t0 t1 => h t _ (by omega) (by omega) (by omega)) rfl h3 (fun _ _ _ => rfl) hS, ?_, ?_, ?_⟩
  · obtain ⟨h0, h1, h2, h3, h4, h5, h6, h7, h8, h9, h10⟩ := hP
    have hs : ∀ t, t < 1000 → τ t (a + 1) = σ t (a + 1) := fun t ht => h t _ ht (by omega) (by omega)
    have hs4 : ∀ t, t < 1000 → τ t (a + 1 + 4) = σ t (a + 1 + 4) := fun t ht => h t _ ht (by omega) (by omega)
    refine ⟨?_, ?_, ?_, ?_, ?_, ?_, ?_, ?_, ?_, ?_, ?_⟩
    · rw [hs _ (by omega)]; exact h0
    · rw [hs _ (by omega)]; exact h1
    · rw [hs _ (by omega)]; exact h2
    · rw [hs _ (by omega)]; exact h3
    · rw [hs _ (by omega)]; exact h4
    · rw [hs4 _ (by omega)]; exact h5
    · rw [hs _ (by omega)]; exact h6
    · rw [hs _ (by omega)]; exact h7
    · rw [hs _ (by omega), hs _ (by omega)]; exact h8
    · exact geo_t h9 (hs _ (by omega)) (hs _ (by omega)) (hs _ (by omega)) (hs _ (by omega)) (hs _ (by omega)) (hs _ (by omega))
    · rw [hs4 _ (by omega)]; exact h10
  · rw [h 804 a (by omega) (by omega) (by omega)]; exact hu
  · rw [e3]; exact hr
  · intro i i0 i1
    rw [e3]
    refine tsc_mv (fun t t0 t1 => h t _ (by omega) ?_ ?_) rfl h3 (fun _ _ _ => rfl) (hU i i0 i1)
    · unfold pst; omega
    · unfold pst; omega
def pkT (σ : St) (n : Int) : Ps := prk (σ 1205 382) n (s0P σ)
def pkF (σ τ : St) : Prop := ∀ t o, (o = 0 ∧ t ≠ 1101 ∧ t ≠ 1102 ∧ t ≠ 1103) ∨ (66 ≤ o ∧ o ≠ 75 ∧ o ≠ 76 ∧ o ≠ 77 ∧ o ≠ 81 ∧ o ≠ 84 ∧ t ≠ 1300) → τ t o = σ t o
def pkM (σ τ : St) (kk n : Int) : Prop := (¬ (0 ≤ n ∧ n ≤ σ 1206 382 0) ∧ kk = 1 ∧ τ = σ) ∨ ((0 ≤ n ∧ n ≤ σ 1206 382 0) ∧ kk = 0 ∧ pkF σ τ ∧ τ 1101 0 0 = 0 ∧ ((pB (pkT σ n) ≠ 0 ∧ (∀ t o, 0 < o → o < 66 → τ t o = σ t o) ∧ τ 1102 0 0 = pB (pkT σ n) ∧ τ 1103 0 0 = pP (pkT σ n) ∧ i64 (τ 1300 405 0) = i64 ((i32 (-10 - pB (pkT σ n))).toInt)) ∨ (pB (pkT σ n) = 0 ∧ tie τ 2 (pK (pkT σ n)) ∧ okK (pK (pkT σ n)) 999 ∧ τ 1102 0 0 = 0 ∧ τ 1103 0 0 = -1 ∧ i64 (τ 1300 405 0) = i64 ((i32 (pK (pkT σ n) 0)).toInt))))
theorem l322 {d : Nat} {B n : Int} {T : Tt} {σ : St} {Q : vmO → vmH → Prop} (hI : Inv B σ) (lo0 : -2147483648 ≤ n) (hi0 : n < 2147483648) (hQ : ∀ kk T' τ, pkM σ τ kk n → (T' = T ∨ T' = thr T) → Q (.inl (some (.int (i32 kk)))) (E T' τ)) : Ca (d + 40) 4 322 [.ref 0, .int (i32 n), .ref 405] (E T σ) Q := by
  obtain ⟨_, ⟨b1, b2, b3, b4⟩, ⟨c1, c2, c3, c4⟩, _⟩ := hI
  have hF2 : (upA σ 1207 382 fun _ => n) 1205 382 = σ 1205 382 := upA_t (by omega)
  have hn2 : (upA σ 1207 382 fun _ => n) 1207 382 0 = n := by rw [upA_s]
  have hz : ∀ j, 0 ≤ j → j < 1900 → pK (s0P σ) j = 0 := fun j j0 j1 => by
    show fil (σ 1201 382) 1900 0 j = 0
    unfold fil
    rw [if_pos ⟨j0, j1⟩]
  rw [n322 _ _ _ _ _ _ _ (by omega)]
  simp (disch := (first | assumption | omega | exact Nat.le_of_ble_eq_true rfl | rfl)) only [w322_0, w322_1, w322_2, w322_3, w322_4, Ko_n, Ko_v, vX_i, vX_r, vX_l, vX_j, reduceIte]
  refine c115 (s := s0P σ) hF2 hn2 lo0 hi0 (by omega) (by omega) b1 b4 rfl rfl ⟨c3, c4⟩ rfl hz (fun h => ?_) (fun a b e τ f g h1 h2 h3 => ?_) (fun a b e τ f tk v l h1 h2 h3 => ?_)
  · rw [Ko_c (v := 1) rfl rfl]; exact hQ 1 _ _ (Or.inl ⟨by rw [← b2]; exact h, rfl, rfl⟩) (Or.inr rfl)
  · have hb1 := Int32.le_toInt (i32 (-10 - pB (prk (σ 1205 382) n (s0P σ))))
    have hb2 := Int32.toInt_lt (i32 (-10 - pB (prk (σ 1205 382) n (s0P σ))))
    rw [← i32_toInt (i32 (-10 - pB (prk (σ 1205 382) n (s0P σ))))]
    generalize hu : (i32 (-10 - pB (prk (σ 1205 382) n (s0P σ)))).toInt = u at hb1 hb2 ⊢
    simp (disch := (first | assumption | omega | exact Nat.le_of_ble_eq_true rfl | rfl)) only [w322_7, w322_8, w322_9, w322_15, w322_16, Ko_n, Ko_v, vX_i, vX_r, vX_l, vX_j, reduceIte]
    refine hQ 0 _ _ (Or.inr ⟨⟨a, by rw [← b2]; exact b⟩, rfl, fun t o h => ?_, ?_, Or.inl ⟨e, fun t o o0 o1 => ?_, ?_, ?_, ?_⟩⟩) (Or.inl rfl)
    · by_cases e405 : o = 405
      · rw [upA_t (by omega)]; exact f t o (by omega)
      · rw [upA_o (by omega)]; exact f t o (by omega)
    · rw [upA_t (by omega)]; exact h1
    · rw [upA_o (by omega)]; exact g t o o0 o1
    · rw [upA_t (by omega)]; exact h2
    · rw [upA_t (by omega)]; exact h3
    · rw [upA_s, fu_s, i64_toInt]; unfold pkT; rw [hu]
  · have tp : tpOk (σ 1205 382) n := ⟨b4, a, by omega⟩
    have rw' := prk_RW hF2 hn2 tp (rd_0 (s := s0P σ) tp rfl rfl ⟨c3, c4⟩ rfl hz)
    have hb1 := Int32.le_toInt (i32 (pK (prk (σ 1205 382) n (s0P σ)) 0))
    have hb2 := Int32.toInt_lt (i32 (pK (prk (σ 1205 382) n (s0P σ)) 0))
    rw [← i32_toInt (i32 (pK (prk (σ 1205 382) n (s0P σ)) 0))]
    generalize hu : (i32 (pK (prk (σ 1205 382) n (s0P σ)) 0)).toInt = u at hb1 hb2 ⊢
    simp (disch := (first | assumption | omega | exact Nat.le_of_ble_eq_true rfl | rfl)) only [w322_7, w322_8, w322_9, w322_15, w322_16, Ko_n, Ko_v, vX_i, vX_r, vX_l, vX_j, reduceIte]
    refine hQ 0 _ _ (Or.inr ⟨⟨a, by rw [← b2]; exact b⟩, rfl, fun t o h => ?_, ?_, Or.inr ⟨e, ?_, ⟨v, l, rw'⟩, ?_, ?_, ?_⟩⟩) (Or.inl rfl)
    · by_cases e405 : o = 405
      · rw [upA_t (by omega)]; exact f t o (by omega)
      · rw [upA_o (by omega)]; exact f t o (by omega)
    · rw [upA_t (by omega)]; exact h1
    · exact tie_o v.1.2.1.2 tk
    · rw [upA_t (by omega)]; exact h2
    · rw [upA_t (by omega)]; exact h3
    · rw [upA_s, fu_s, i64_toInt]; unfold pkT; rw [hu]
theorem r208 {d : Nat} {k B kk n : Int} {T : Tt} {σ τ : St} {Q : vmO → vmH → Prop} (hI : Inv B σ) (hB : 999 ≤ B) (lo0 : -2147483648 ≤ n) (hi0 : n < 2147483648) (hm : pkM σ τ kk n) (hQ : ∀ b ρ, rM ρ B kk (i64 ((i32 b).toInt)) → Q (.inl (some (.int (i32 b)))) (E T ρ)) : Ca (d + 40) k 208 [.ref 382, .int (i32 n)] (E T τ) Q := by
  have hI' := hI
  obtain ⟨⟨a1, a2⟩, ⟨b1, b2, b3, b4⟩, ⟨c1, c2, c3, c4⟩, ⟨d1, d2, d3, d4⟩, ee⟩ := hI
  rcases hm with ⟨h, hk, ht⟩ | ⟨h, hk, hf, h11, hr⟩
  · rw [ht]
    refine c208 lo0 hi0 b3.1 b3.2 ⟨c3, c4⟩ b4 (fun _ => hQ _ _ ⟨Inv_le (Inv_4 hI') (by omega), by rw [upA_s, hk], fun e => by omega⟩) (fun x y => absurd ⟨x, y⟩ h)
  · have f38 : ∀ t, t ≠ 1300 → τ t 382 = σ t 382 := fun t ht => hf t 382 (Or.inr ⟨by omega, by omega, by omega, by omega, by omega, by omega, ht⟩)
    have sE : s0P τ = s0P σ := by unfold s0P; rw [f38 _ (by omega), f38 _ (by omega), f38 _ (by omega), f38 _ (by omega), f38 _ (by omega)]
    refine c208 lo0 hi0 (by rw [f38 _ (by omega)]; exact b3.1) (by rw [f38 _ (by omega)]; exact b3.2) (by rw [f38 _ (by omega)]; exact ⟨c3, c4⟩) (by rw [f38 _ (by omega)]; exact b4) (fun h' => absurd (by rw [f38 _ (by omega)]; exact h) h') (fun x y ρ g1 g2 g3 g4 g5 g6 g7 => ?_)
    rw [f38 1205 (by omega), f38 1200 (by omega), sE] at g7
    rw [f38 1205 (by omega), sE] at g4 g5 ⊢
    change ρ 1214 382 0 = pB (pkT σ n) at g4
    change ρ 1215 382 0 = (if pB (pkT σ n) = 0 then -1 else pP (pkT σ n)) at g5
    change ρ 1200 382 = (if pB (pkT σ n) = 0 then cp (pK (pkT σ n)) (σ 1200 382) 1900 else σ 1200 382) at g7
    show Q (.inl (some (.int (i32 (if pB (pkT σ n) = 0 then pK (pkT σ n) 0 else -10 - pB (pkT σ n)))))) (E T ρ)
    generalize pkT σ n = t at g4 g5 g7 hr ⊢
    have fl : ∀ t o, t < 1200 → ρ t o = τ t o := fun t o h => g1 t o (by omega)
    have fC : ∀ t o, t < 1200 → ((o = 0 ∧ t ≠ 1101 ∧ t ≠ 1102 ∧ t ≠ 1103) ∨ (66 ≤ o ∧ o ≠ 75 ∧ o ≠ 76 ∧ o ≠ 77 ∧ o ≠ 81 ∧ o ≠ 84)) → ρ t o = σ t o := fun t o h ho => by rw [fl t o h]; exact hf t o (by omega)
    have fR : ∀ t, (t = 1202 ∨ t = 1203 ∨ t = 1205 ∨ (1217 ≤ t ∧ t < 1300)) → ρ t 382 = σ t 382 := fun t h => by rw [g1 t 382 (by omega), f38 t (by omega)]
    have rest : tie ρ 2 (ρ 1200 382) → okK (ρ 1200 382) (B + 300000) → ρ 1102 0 0 = ρ 1214 382 0 → ρ 1103 0 0 = ρ 1215 382 0 → Inv (B + 300000) ρ := by
      intro t1 t2 t3 t4
      refine ⟨⟨t1, t2⟩, ⟨?_, ?_, ?_, ?_⟩, ⟨t3, t4, g6.1, g6.2⟩, ⟨?_, ?_, ?_, ?_⟩, ?_⟩
      · rw [fC 1100 0 (by omega) (by omega), fR 1205 (by omega)]; exact b1
      · rw [fl 1101 0 (by omega), h11, g3]
      · rw [g3]; omega
      · rw [fR 1205 (by omega)]; exact b4
      · intro j j0 j1
        rw [fC 1108 0 (by omega) (by omega), fC 1109 0 (by omega) (by omega)]
        exact d1 j j0 j1
      · rw [fC 1107 0 (by omega) (by omega), fR 1239 (by omega)]; exact d2
      · rw [fC 1108 0 (by omega) (by omega), fR 1237 (by omega)]; exact d3
      · rw [fC 1109 0 (by omega) (by omega), fR 1238 (by omega)]; exact d4
      · intro i i0 i1
        have ii := img_in i0 i1
        have a := ee i i0 i1
        rw [fC 805 (img i) (by omega) (by omega), fR 1203 (by omega), imK_e (fR 1202 (by omega))]
        refine ⟨a.1, ?_⟩
        rcases a.2 with a | ⟨a, b, c⟩
        · exact Or.inl a
        · exact Or.inr ⟨a, tie_fr2 (fun t o ht ho => fC t o (by omega) (by omega)) c.1.1.2.1.2 b, okK_le (by omega) c⟩
    rcases hr with ⟨p0, fl2, p2, p3, p4⟩ | ⟨p0, tk, ok, p2, p3, p4⟩
    · rw [if_neg p0] at g5 g7 ⊢
      refine hQ _ _ ⟨rest ?_ ?_ ?_ ?_, by rw [g2, hk], fun _ => ?_⟩
      · rw [g7]
        exact tie_fr3 (fun t o ht o0 o1 => by rw [fl t o (by omega)]; exact fl2 t o (by omega) (by omega)) a2.1.1.2.1.2 a1
      · rw [g7]; exact okK_le (by omega) a2
      · rw [fl 1102 0 (by omega), g4]; exact p2
      · rw [fl 1103 0 (by omega), g5]; exact p3
      · rw [g1 1300 405 (by omega)]; exact p4
    · rw [if_pos p0] at g5 g7 ⊢
      refine hQ _ _ ⟨rest ?_ ?_ ?_ ?_, by rw [g2, hk], fun _ => ?_⟩
      · rw [g7]
        exact tie_19 cp_19 ok.1.1 (tie_fr3 (fun t o ht _ _ => fl t o (by omega)) ok.1.1.2.1.2 tk)
      · rw [g7]; exact okK_le (by omega) (okK_19 cp_19 ok)
      · rw [fl 1102 0 (by omega), g4, p0]; exact p2
      · rw [fl 1103 0 (by omega), g5]; exact p3
      · rw [g1 1300 405 (by omega)]; exact p4
