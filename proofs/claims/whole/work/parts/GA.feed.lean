/-! ===== feed, judge: through the law ===== -/
theorem tie_lo {σ τ : St} {a : Nat} {K : Int → Int} (h : ∀ t o, t < 1000 → τ t o = σ t o) (h3 : K 3 ≤ 5) (ht : tie σ a K) : tie τ a K := tie_fr2 (fun t o ht _ => h t o (by omega)) h3 ht
def fdM (σ τ : St) (a b c e g v : Int) : Prop := (¬ σ 1206 382 0 + 20 ≤ 900 ∧ v = -1 ∧ τ = σ) ∨ (σ 1206 382 0 + 20 ≤ 900 ∧ v = σ 1206 382 0 + 20 ∧ τ = upA (upA σ 1100 0 (fdT a b c e g (σ 1205 382) (σ 1206 382 0))) 1101 0 fun _ => σ 1206 382 0 + 20)
theorem f113 {d : Nat} {k B a b c e g : Int} {T : Tt} {σ : St} {Q : vmO → vmH → Prop} (hI : Inv B σ) (hQ : ∀ v τ, fdM σ τ a b c e g v → (-1 ≤ v ∧ v ≤ 900) → Q (.inl (some (.int (i32 v)))) (E T τ)) : Ca (d + 40) k 113 [.ref 0, .int (i32 a), .int (i32 b), .int (i32 c), .int (i32 e), .int (i32 g)] (E T σ) Q := by
  obtain ⟨_, ⟨b1, b2, b3, b4⟩, _⟩ := hI
  rw [c113 (by omega) (by omega), b1, b2]
  by_cases h : σ 1206 382 0 + 20 ≤ 900
  · rw [if_pos h]; exact hQ _ _ (Or.inr ⟨h, rfl, rfl⟩) (by omega)
  · rw [if_neg h]; exact hQ _ _ (Or.inl ⟨h, rfl, rfl⟩) (by omega)
theorem g179 {d : Nat} {k B a b c e g v : Int} {T : Tt} {σ τ : St} {Q : vmO → vmH → Prop} (hI : Inv B σ) (hm : fdM σ τ a b c e g v) (hQ : ∀ ρ, Inv B ρ → Q (.inl (some (.int (i32 v)))) (E T ρ)) : Ca (d + 40) k 179 [.ref 382, .int (i32 a), .int (i32 b), .int (i32 c), .int (i32 e), .int (i32 g)] (E T τ) Q := by
  have hI' := hI
  obtain ⟨⟨a1, a2⟩, ⟨b1, b2, b3, b4⟩, ⟨c1, c2, c3, c4⟩, ⟨d1, d2, d3, d4⟩, ee⟩ := hI
  rcases hm with ⟨h, hv, ht⟩ | ⟨h, hv, ht⟩
  · rw [hv] at hQ
    rw [ht]
    refine c179 rfl rfl b3.1 b3.2 (fun _ => ?_) (fun h' => absurd h' h)
    refine hQ _ (Inv_r hI' (fT_u fT_r (by omega)) (by rw [upA_t (by omega)]))
  · rw [hv] at hQ
    rw [ht]
    refine c179 (n := σ 1206 382 0) (f := σ 1205 382) (by simp (disch := omega) only [upA_t]) (by simp (disch := omega) only [upA_t]) b3.1 b3.2 (fun h' => absurd h h') (fun _ => ?_)
    refine hQ _ ⟨⟨?_, ?_⟩, ⟨?_, ?_, ?_, ?_⟩, ⟨?_, ?_, ?_, ?_⟩, ⟨?_, ?_, ?_, ?_⟩, ?_⟩
    · simp (disch := omega) only [upA_t]
      exact tie_lo (fun t o h => by simp (disch := omega) only [upA_t]) a2.1.1.2.1.2 a1
    · simp (disch := omega) only [upA_t]
      exact a2
    · simp (disch := omega) only [upA_t, upA_s]
    · simp (disch := omega) only [upA_t, upA_s]
    · simp (disch := omega) only [upA_t, upA_s]; omega
    · simp (disch := omega) only [upA_t, upA_s]; exact fdT_in b4
    · simp (disch := omega) only [upA_t, upA_s]; exact c1
    · simp (disch := omega) only [upA_t, upA_s]; exact c2
    · simp (disch := omega) only [upA_t, upA_s]; exact c3
    · simp (disch := omega) only [upA_t, upA_s]; exact c4
    · intro j j0 j1; simp (disch := omega) only [upA_t, upA_s]; exact d1 j j0 j1
    · simp (disch := omega) only [upA_t, upA_s]; exact d2
    · simp (disch := omega) only [upA_t, upA_s]; exact d3
    · simp (disch := omega) only [upA_t, upA_s]; exact d4
    · exact im_fr (Int.le_refl B) (fun t o h => by simp (disch := omega) only [upA_t]) ee
theorem Inv_4 {σ : St} {B v : Int} (hI : Inv B σ) : Inv B (upA σ 1204 382 fun _ => v) := Inv_r hI (fT_u fT_r (by omega)) (by rw [upA_t (by omega)])
theorem l330 {d : Nat} {B t wh : Int} {K : Int → Int} {T : Tt} {σ : St} {Q : vmO → vmH → Prop} (hI : Inv B σ) (hB : B < 790000000) (hK : σ 1200 382 = K) (lo0 : -2147483648 ≤ t) (hi0 : t < 2147483648) (lo1 : -2147483648 ≤ wh) (hi1 : wh < 2147483648) (hQ : ∀ kk T' τ, dM σ τ kk (0 ≤ t ∧ t < 4) (σ 1108 0 t ≠ -1) (0 ≤ wh ∧ wh ≤ 3) K (i64 ((i32 (jdA (jdK (tyF σ t) (σ 1109 0 t).toNat K 0) wh)).toInt)) → (T' = T ∨ T' = thr T) → Q (.inl (some (.int (i32 kk)))) (E T' τ)) : Ca (d + 40) 4 330 [.ref 0, .int (i32 t), .int (i32 wh), .ref 405] (E T σ) Q := by
  have ht : tie σ 2 K := by rw [← hK]; exact hI.1.1
  have ok : okK K B := by rw [← hK]; exact hI.1.2
  have hv := ok.1
  have hT := hI.2.2.2.1
  have v6 := hv.1.2.2.2.2.1
  rw [n330 _ _ _ _ _ _ _ _ (by omega)]
  simp (disch := (first | assumption | omega | exact Nat.le_of_ble_eq_true rfl | rfl)) only [w330_0, w330_1, w330_2, w330_3, w330_4, w330_5, Ko_n, Ko_v, vX_i, vX_r, vX_l, vX_j, reduceIte]
  refine c126K hT.1 ht hv (by omega) lo0 hi0 lo1 hi1 (fun h => ?_) (fun a b h => ?_) (fun a b c h => ?_) (fun a b c x y τ hs => ?_)
  · rw [Ko_c (v := 1) rfl rfl]; exact hQ 1 _ _ (dM_1 h) (Or.inr rfl)
  · rw [Ko_c (v := 2) rfl rfl]; exact hQ 2 _ _ (dM_2 ⟨a, b⟩ (fun x => x h)) (Or.inr rfl)
  · rw [Ko_c (v := 3) rfl rfl]; exact hQ 3 _ _ (dM_3 ⟨a, b⟩ c h) (Or.inr rfl)
  · have hb1 := Int32.le_toInt (i32 (jdA (jdK (tyF σ t) (σ 1109 0 t).toNat K 0) wh))
    have hb2 := Int32.toInt_lt (i32 (jdA (jdK (tyF σ t) (σ 1109 0 t).toNat K 0) wh))
    rw [← i32_toInt (i32 (jdA (jdK (tyF σ t) (σ 1109 0 t).toNat K 0) wh))]
    generalize (i32 (jdA (jdK (tyF σ t) (σ 1109 0 t).toNat K 0) wh)).toInt = u at hb1 hb2 hQ ⊢
    simp (disch := (first | assumption | omega | exact Nat.le_of_ble_eq_true rfl | rfl)) only [w330_8, w330_9, w330_10, w330_25, w330_26, Ko_n, Ko_v, vX_i, vX_r, vX_l, vX_j, reduceIte]
    exact hQ 0 _ _ (dM_0 ⟨a, b⟩ c ⟨x, y⟩ (sg_fM hs) (tie_fr hs v6 hv.1.2.1.2 ht) hv.1.2.1.2) (Or.inl rfl)
theorem r254 {d : Nat} {k B kk t wh : Int} {K : Int → Int} {T : Tt} {σ τ : St} {Q : vmO → vmH → Prop} (hI : Inv B σ) (hB : B < 790000000) (hK : σ 1200 382 = K) (lo0 : -2147483648 ≤ t) (hi0 : t < 2147483648) (lo1 : -2147483648 ≤ wh) (hi1 : wh < 2147483648) (hm : dM σ τ kk (0 ≤ t ∧ t < 4) (σ 1108 0 t ≠ -1) (0 ≤ wh ∧ wh ≤ 3) K (i64 ((i32 (jdA (jdK (tyF σ t) (σ 1109 0 t).toNat K 0) wh)).toInt))) (hQ : ∀ b ρ, rM ρ B kk (i64 ((i32 b).toInt)) → Q (.inl (some (.int (i32 b)))) (E T ρ)) : Ca (d + 40) k 254 [.ref 382, .int (i32 t), .int (i32 wh)] (E T τ) Q := by
  have ok : okK K B := by rw [← hK]; exact hI.1.2
  have hv := ok.1
  have hT := hI.2.2.2.1
  have e : τ 1200 382 = K := by rw [dM_K hm 1200 382 (by omega) (by omega)]; exact hK
  have e8 : τ 1237 382 = σ 1108 0 := by rw [dM_K hm 1237 382 (by omega) (by omega)]; exact hT.2.2.1.symm
  have e9 : τ 1238 382 = σ 1109 0 := by rw [dM_K hm 1238 382 (by omega) (by omega)]; exact hT.2.2.2.symm
  have e7 : τ 1239 382 = σ 1107 0 := by rw [dM_K hm 1239 382 (by omega) (by omega)]; exact hT.2.1.symm
  have fE : tyR τ t = tyF σ t := by unfold tyR tyF; rw [e7]
  refine c254 e hv (by omega) ok.2.1 ok.2.2 (fun j j0 j1 => by rw [e8]; exact ⟨(hT.1 j j0 j1).1, (hT.1 j j0 j1).2.1⟩) (fun j j0 j1 => by rw [e9]; exact (hT.1 j j0 j1).2.2) lo0 hi0 lo1 hi1 (fun u u0 hu ρ f g1 g2 => hQ _ _ (rD_1 hI hm ?_ f (g1.trans hK.symm) g2)) (fun a b c x y ρ f g1 g2 => hQ _ _ ?_)
  · unfold tfR at hu
    rw [e8] at hu
    by_cases a : 0 ≤ t ∧ t < 4
    · simp only [if_pos a] at hu
      by_cases b : σ 1108 0 t = -1
      · simp only [if_pos b, Int.reduceEq, if_false] at hu; exact Or.inr (Or.inl ⟨a, fun x => x b, hu⟩)
      · simp only [if_neg b, if_true] at hu
        by_cases c : 0 ≤ wh ∧ wh ≤ 3
        · rw [if_pos c] at hu; exact absurd hu u0
        · rw [if_neg c] at hu; exact Or.inr (Or.inr ⟨a, b, c, hu⟩)
    · simp only [if_neg a, Int.reduceEq, if_false] at hu; exact Or.inl ⟨a, hu⟩
  · rw [e8] at c
    rw [fE, e9]
    exact rD_0 hI hm ⟨a, b⟩ c ⟨x, y⟩ f g1 (okK_le (by omega) ok) g2
