/-! ===== the reference: meet ===== -/
theorem bth_in {z x y : Int} (hz : z = 0 ∨ z = 1) (x0 : 0 ≤ x) (x1 : x ≤ 6516) (y0 : 0 ≤ y) (y1 : y ≤ 6516) : 0 ≤ bth z x y ∧ bth z x y ≤ 13032 := by
  unfold bth
  by_cases e : z = 0
  · rw [if_pos e]; omega
  · rw [if_neg e]; omega
theorem mtI_b {f g : Int → Int} {z : Int} (hz : z = 0 ∨ z = 1) (n : Nat) (hf : ∀ j : Nat, j < n → (0 ≤ f j ∧ f j ≤ 6516) ∨ f j = far) (hg : ∀ j : Nat, j < n → (0 ≤ g j ∧ g j ≤ 6516) ∨ g j = far) : (0 ≤ (mtI f g z n).1 ∧ (mtI f g z n).1 ≤ 13032 ∧ (0 ≤ (mtI f g z n).2 ∧ (mtI f g z n).2 < n)) ∨ ((mtI f g z n).1 = far ∧ (mtI f g z n).2 = -1) := by
  have hfar : far = 1000000000 := rfl
  induction n with
  | zero => exact Or.inr ⟨rfl, rfl⟩
  | succ n ih =>
    have i := ih (fun v hv => hf v (by omega)) (fun v hv => hg v (by omega))
    have a := hf n (by omega)
    have b := hg n (by omega)
    rw [show mtI f g z (n + 1) = if f n < far ∧ g n < far ∧ bth z (f n) (g n) < (mtI f g z n).1 then (bth z (f n) (g n), (n : Int)) else mtI f g z n from rfl]
    by_cases e : f n < far ∧ g n < far ∧ bth z (f n) (g n) < (mtI f g z n).1
    · rw [if_pos e]
      have := bth_in hz (x := f n) (y := g n) (by omega) (by omega) (by omega) (by omega)
      exact Or.inl ⟨this.1, this.2, by dsimp only; omega⟩
    · rw [if_neg e]
      rcases i with i | i
      · exact Or.inl ⟨i.1, i.2.1, i.2.2.1, by omega⟩
      · exact Or.inr i
def mtR (K : Int → Int) (w v z y : Int) : Int := if y = 0 then (mtI (dK K w) (dK K v) z (nK K)).2 else if (mtI (dK K w) (dK K v) z (nK K)).1 < far then (mtI (dK K w) (dK K v) z (nK K)).1 else -1
theorem c276 {d : Nat} {k w v z y B : Int} {K : Int → Int} {T : Tt} {σ : St} {Q : vmO → vmH → Prop} (hK : σ 1200 382 = K) (hv : kV K B) (hB : B < 900000000) (x0 : -2147483648 ≤ w) (x1 : w < 2147483648) (x2 : -2147483648 ≤ v) (x3 : v < 2147483648) (hz : z = 0 ∨ z = 1) (y0 : -2147483648 ≤ y) (y1 : y < 2147483648)
    (hQ1 : ∀ u, ((¬ ((0 ≤ w ∧ w < K 3) ∧ 0 ≤ v ∧ v < K 3) ∧ u = 1) ∨ (((0 ≤ w ∧ w < K 3) ∧ 0 ≤ v ∧ v < K 3) ∧ ¬ (w ≠ v ∧ 0 ≤ y ∧ y ≤ 1) ∧ u = 2)) → ∀ τ, fT σ τ → τ 1200 382 = K → τ 1204 382 0 = u → Q (.inl (some (.int (i32 0)))) (E T τ))
    (hQ2 : ((0 ≤ w ∧ w < K 3) ∧ 0 ≤ v ∧ v < K 3) → (w ≠ v ∧ 0 ≤ y ∧ y ≤ 1) → ∀ τ, fT σ τ → τ 1200 382 = K → τ 1204 382 0 = 0 → Q (.inl (some (.int (i32 (mtR K w v z y))))) (E T τ)) : Ca (d + 6) k 276 [.ref 382, .int (i32 w), .int (i32 v), .int (i32 z), .int (i32 y)] (E T σ) Q := by
  have h0 := ob_md
  have hfar : far = 1000000000 := rfl
  have hhi : hiR = 536870912 := rfl
  have hn := nK_c hv.1
  have k3 := hv.1.2.1
  have kU : ∀ u, (upA σ 1204 382 fun _ => u) 1200 382 = K := fun u => by rw [upA_t (by omega)]; exact hK
  have fU : ∀ u, fT σ (upA σ 1204 382 fun _ => u) := fun u => fT_u fT_r (by omega)
  have sU : ∀ u, (upA σ 1204 382 fun _ => u) 1204 382 0 = u := fun u => by rw [upA_s]
  have bad1 : ¬ ((0 ≤ w ∧ w < K 3) ∧ 0 ≤ v ∧ v < K 3) → Wp (d + 6) M_X12_meet 19 [.ref 382, .int (i32 w), .int (i32 v), .int (i32 z), .int (i32 y), vmJ, vmJ, vmJ, vmJ] [.ref 382] (E T σ) Q := by
    intro a
    simp (disch := (first | assumption | omega | exact Nat.le_of_ble_eq_true rfl | rfl)) only [w276_19, w276_20, w276_23, w276_24, w276_25, w276_28, w276_30, w276_31, w276_32, w276_33, w276_36, w276_39, w276_40, w276_43, w276_44, w276_47, w276_48, w276_51, w276_54, w276_55, Ko_n, Ko_v, vX_i, vX_r, vX_l, vX_j, reduceIte, upA_s, show ¬ (1 : Int) ≤ 0 by omega]
    exact hQ1 1 (Or.inl ⟨a, rfl⟩) _ (fU _) (kU _) (sU _)
  have bad2 : ((0 ≤ w ∧ w < K 3) ∧ 0 ≤ v ∧ v < K 3) → ¬ (w ≠ v ∧ 0 ≤ y ∧ y ≤ 1) → Wp (d + 6) M_X12_meet 39 [.ref 382, .int (i32 w), .int (i32 v), .int (i32 z), .int (i32 y), vmJ, vmJ, vmJ, vmJ] [.ref 382] (E T σ) Q := by
    intro a b
    simp (disch := (first | assumption | omega | exact Nat.le_of_ble_eq_true rfl | rfl)) only [w276_39, w276_40, w276_43, w276_44, w276_47, w276_48, w276_51, w276_54, w276_55, Ko_n, Ko_v, vX_i, vX_r, vX_l, vX_j, reduceIte, upA_s, show ¬ (2 : Int) ≤ 0 by omega]
    exact hQ1 2 (Or.inr ⟨a, b, rfl⟩) _ (fU _) (kU _) (sU _)
  rw [n276 _ _ _ _ _ _ _ _ _ _ h0]
  simp (disch := (first | assumption | omega | exact Nat.le_of_ble_eq_true rfl | rfl)) only [w276_0, w276_1, w276_2, w276_3, w276_4, Ko_n, Ko_v, vX_i, vX_r, vX_l, vX_j, reduceIte]
  rw [c215 hK hv (by omega) (by omega)]
  by_cases a1 : 0 ≤ w ∧ w < K 3
  · rw [if_pos a1]
    simp (disch := (first | assumption | omega | exact Nat.le_of_ble_eq_true rfl | rfl)) only [w276_7, w276_10, w276_11, w276_12, w276_13, Ko_n, Ko_v, vX_i, vX_r, vX_l, vX_j, reduceIte, Int.reduceEq]
    rw [c215 hK hv (by omega) (by omega)]
    by_cases a2 : 0 ≤ v ∧ v < K 3
    · rw [if_pos a2]
      obtain ⟨q2, q5, q6, q7⟩ := kV_w hv a1.1 a1.2
      have hm := wh_mul q2
      by_cases b1 : w = v
      · have bd := bad2 ⟨a1, a2⟩ (fun h => h.1 b1)
        rw [b1] at bd ⊢
        simp (disch := (first | assumption | omega | exact Nat.le_of_ble_eq_true rfl | rfl)) only [w276_16, w276_19, w276_20, w276_23, w276_24, w276_25, w276_28, w276_30, w276_31, w276_32, w276_33, w276_36, Ko_n, Ko_v, vX_i, vX_r, vX_l, vX_j, reduceIte, Int.reduceEq, not_false_eq_true]
        exact bd
      · simp (disch := (first | assumption | omega | exact Nat.le_of_ble_eq_true rfl | rfl)) only [w276_16, w276_19, w276_20, w276_23, w276_24, w276_25, w276_28, w276_30, w276_31, w276_32, w276_33, Ko_n, Ko_v, vX_i, vX_r, vX_l, vX_j, reduceIte, Int.reduceEq, not_false_eq_true, b1]
        rw [c176 (by omega) (by omega) (by omega) (by omega) (by omega) (by omega) (by omega)]
        by_cases b2 : 0 ≤ y ∧ y ≤ 1
        · rw [if_pos b2]
          have hq := hQ2 ⟨a1, a2⟩ ⟨b1, b2⟩
          have fB : ∀ j : Nat, (j : Int) < K 1 * K 2 → (0 ≤ dK K w j ∧ dK K w j ≤ 6516) ∨ dK K w j = far := fun j hj => dK_b hv a1.1 a1.2 (by omega) hj
          have gB : ∀ j : Nat, (j : Int) < K 1 * K 2 → (0 ≤ dK K v j ∧ dK K v j ≤ 6516) ∨ dK K v j = far := fun j hj => dK_b hv a2.1 a2.2 (by omega) hj
          have loop : ∀ (m n : Nat) (τ : St) (l8 : Value), n + m = nK K → fq (upA σ 1204 382 fun _ => 0) τ → τ 1200 382 = K → laidW τ K w → (∀ j : Int, 0 ≤ j → j < K 1 * K 2 → τ 1226 382 j = rf (dK K v j)) → Wp (d + 6) M_X12_meet 109 [.ref 382, .int (i32 w), .int (i32 v), .int (i32 z), .int (i32 y), .int (i32 (mtI (dK K w) (dK K v) z n).2), .int (i32 (rf (mtI (dK K w) (dK K v) z n).1)), .int (i32 n), l8] [] (E T τ) Q := by
            intro m
            induction m with
            | zero =>
              intro n τ l8 hn2 h1 h2 h3 h4
              have hn2 : n = nK K := by omega
              subst hn2
              have ft := fT_q h1
              have hq' := hq τ ft.1 h2 ft.2
              unfold mtR at hq'
              have mb := mtI_b hz (nK K) (fun j hj => fB j (by omega)) (fun j hj => gB j (by omega))
              rw [w276_109]
              simp (disch := (first | assumption | omega | exact Nat.le_of_ble_eq_true rfl | rfl)) only [w276_111, w276_112, Ko_n, Ko_v, vX_i, vX_r, vX_l, vX_j, reduceIte]
              rw [c210 h2]
              simp (disch := (first | assumption | omega | exact Nat.le_of_ble_eq_true rfl | rfl)) only [w276_115, w276_118, w276_119, w276_122, w276_124, w276_125, w276_128, w276_131, w276_132, w276_135, w276_137, w276_138, w276_141, w276_144, w276_147, w276_148, w276_151, w276_152, w276_155, w276_157, w276_158, w276_159, w276_162, w276_164, w276_165, w276_168, w276_171, w276_172, w276_175, w276_177, w276_178, w276_179, w276_182, w276_184, w276_185, w276_186, w276_188, w276_190, w276_192, w276_195, w276_198, w276_200, w276_202, w276_204, w276_206, w276_209, w276_212, Ko_n, Ko_v, vX_i, vX_r, vX_l, vX_j, reduceIte, hn, Int.le_refl]
              rcases mb with ⟨m1, m2, m3, m4⟩ | ⟨m1, m2⟩
              · by_cases e : y = 0
                · rw [if_pos e] at hq'
                  simp (disch := (first | assumption | omega | exact Nat.le_of_ble_eq_true rfl | rfl)) only [w276_214, w276_215, w276_218, w276_220, w276_223, w276_225, w276_228, w276_230, Ko_n, Ko_v, vX_i, vX_r, vX_l, vX_j, reduceIte, show ¬ (mtI (dK K w) (dK K v) z (nK K)).2 = -1 by omega, e, not_true]
                  exact hq'
                · rw [if_neg e, if_pos (by omega)] at hq'
                  have r : rf (mtI (dK K w) (dK K v) z (nK K)).1 = (mtI (dK K w) (dK K v) z (nK K)).1 := if_pos (by omega)
                  rw [r]
                  simp (disch := (first | assumption | omega | exact Nat.le_of_ble_eq_true rfl | rfl)) only [w276_214, w276_215, w276_218, w276_220, w276_223, w276_225, w276_228, w276_230, Ko_n, Ko_v, vX_i, vX_r, vX_l, vX_j, reduceIte, show ¬ (mtI (dK K w) (dK K v) z (nK K)).2 = -1 by omega, e, not_false_eq_true]
                  exact hq'
              · rw [m2]
                have e2 : (if y = 0 then (mtI (dK K w) (dK K v) z (nK K)).2 else if (mtI (dK K w) (dK K v) z (nK K)).1 < far then (mtI (dK K w) (dK K v) z (nK K)).1 else -1) = -1 := by
                  by_cases e : y = 0
                  · rw [if_pos e]; exact m2
                  · rw [if_neg e, if_neg (by omega)]
                rw [e2] at hq'
                simp (disch := (first | assumption | omega | exact Nat.le_of_ble_eq_true rfl | rfl)) only [w276_214, w276_215, w276_218, w276_220, w276_223, w276_225, w276_228, w276_230, Ko_n, Ko_v, vX_i, vX_r, vX_l, vX_j, reduceIte]
                exact hq'
            | succ m ih =>
              intro n τ l8 hn2 h1 h2 h3 h4
              have hd := h3.2 n (by omega) (by omega)
              have ht := h4 n (by omega) (by omega)
              have gx := rf_in (fB n (by omega))
              have gy := rf_in (gB n (by omega))
              have mb := mtI_b hz n (fun j hj => fB j (by omega)) (fun j hj => gB j (by omega))
              have ih' := ih (n + 1) τ
              rw [show mtI (dK K w) (dK K v) z (n + 1) = if dK K w n < far ∧ dK K v n < far ∧ bth z (dK K w n) (dK K v n) < (mtI (dK K w) (dK K v) z n).1 then (bth z (dK K w n) (dK K v n), (n : Int)) else mtI (dK K w) (dK K v) z n from rfl, show ((n + 1 : Nat) : Int) = (n : Int) + 1 by omega] at ih'
              have rM : ((mtI (dK K w) (dK K v) z n).1 ≤ 13032 ∧ rf (mtI (dK K w) (dK K v) z n).1 = (mtI (dK K w) (dK K v) z n).1) ∨ ((mtI (dK K w) (dK K v) z n).1 = far ∧ rf (mtI (dK K w) (dK K v) z n).1 = hiR) := by
                rcases mb with m1 | m1
                · exact Or.inl ⟨m1.2.1, if_pos (by omega)⟩
                · exact Or.inr ⟨m1.1, by rw [m1.1]; rfl⟩
              have rM0 : 0 ≤ rf (mtI (dK K w) (dK K v) z n).1 ∧ rf (mtI (dK K w) (dK K v) z n).1 ≤ hiR := by omega
              rw [w276_109]
              simp (disch := (first | assumption | omega | exact Nat.le_of_ble_eq_true rfl | rfl)) only [w276_111, w276_112, Ko_n, Ko_v, vX_i, vX_r, vX_l, vX_j, reduceIte]
              rw [c210 h2]
              by_cases e1 : dK K w n < far
              · by_cases e2 : dK K v n < far
                · have r1 : rf (dK K w n) = dK K w n := by omega
                  have r2 : rf (dK K v n) = dK K v n := by omega
                  rw [r1] at hd
                  rw [r2] at ht
                  have bi := bth_in hz (x := dK K w n) (y := dK K v n) (by omega) (by omega) (by omega) (by omega)
                  have rest : ∀ l8, Wp (d + 6) M_X12_meet 186 [.ref 382, .int (i32 w), .int (i32 v), .int (i32 z), .int (i32 y), .int (i32 (mtI (dK K w) (dK K v) z n).2), .int (i32 (rf (mtI (dK K w) (dK K v) z n).1)), .int (i32 n), l8] [.int (i32 (bth z (dK K w n) (dK K v n)))] (E T τ) Q := by
                    intro l8
                    by_cases e3 : bth z (dK K w n) (dK K v n) < (mtI (dK K w) (dK K v) z n).1
                    · rw [if_pos ⟨e1, e2, e3⟩] at ih'
                      have r3 : rf (bth z (dK K w n) (dK K v n)) = bth z (dK K w n) (dK K v n) := if_pos (by omega)
                      dsimp only at ih'
                      rw [r3] at ih'
                      simp (disch := (first | assumption | omega | exact Nat.le_of_ble_eq_true rfl | rfl)) only [w276_186, w276_188, w276_190, w276_192, w276_195, w276_198, w276_200, w276_202, w276_204, w276_206, w276_209, Ko_n, Ko_v, vX_i, vX_r, vX_l, vX_j, reduceIte, show bth z (dK K w n) (dK K v n) < rf (mtI (dK K w) (dK K v) z n).1 by omega]
                      exact ih' _ (by omega) h1 h2 h3 h4
                    · rw [if_neg (fun h => e3 h.2.2)] at ih'
                      simp (disch := (first | assumption | omega | exact Nat.le_of_ble_eq_true rfl | rfl)) only [w276_186, w276_188, w276_190, w276_192, w276_195, w276_198, w276_200, w276_202, w276_204, w276_206, w276_209, Ko_n, Ko_v, vX_i, vX_r, vX_l, vX_j, reduceIte, show ¬ bth z (dK K w n) (dK K v n) < rf (mtI (dK K w) (dK K v) z n).1 by omega]
                      exact ih' _ (by omega) h1 h2 h3 h4
                  rcases hz with rfl | rfl
                  · have bz : bth 0 (dK K w n) (dK K v n) = dK K w n + dK K v n := if_pos rfl
                    rw [bz] at rest
                    simp (disch := (first | assumption | omega | exact Nat.le_of_ble_eq_true rfl | rfl)) only [w276_115, w276_118, w276_119, w276_122, w276_124, w276_125, w276_128, w276_131, w276_132, w276_135, w276_137, w276_138, w276_141, w276_144, w276_147, w276_148, w276_151, w276_152, w276_155, w276_157, w276_158, w276_159, w276_162, w276_164, w276_165, w276_168, w276_171, w276_172, w276_175, w276_177, w276_178, w276_179, w276_182, w276_184, w276_185, Ko_n, Ko_v, vX_i, vX_r, vX_l, vX_j, reduceIte, show ¬ K 1 * K 2 ≤ (n : Int) by omega, hd, ht, show ¬ dK K w n = 536870912 by omega, show ¬ dK K v n = 536870912 by omega, not_false_eq_true]
                    exact rest _
                  · have bz : bth 1 (dK K w n) (dK K v n) = max (dK K w n) (dK K v n) := if_neg (by omega)
                    rw [bz] at rest
                    simp (disch := (first | assumption | omega | exact Nat.le_of_ble_eq_true rfl | rfl)) only [w276_115, w276_118, w276_119, w276_122, w276_124, w276_125, w276_128, w276_131, w276_132, w276_135, w276_137, w276_138, w276_141, w276_144, w276_147, w276_148, w276_151, w276_152, w276_155, w276_157, w276_158, w276_159, w276_162, w276_164, w276_165, w276_168, w276_171, w276_172, w276_175, w276_177, w276_178, w276_179, w276_182, w276_184, w276_185, Ko_n, Ko_v, vX_i, vX_r, vX_l, vX_j, reduceIte, show ¬ K 1 * K 2 ≤ (n : Int) by omega, hd, ht, show ¬ dK K w n = 536870912 by omega, show ¬ dK K v n = 536870912 by omega, not_false_eq_true, Int.reduceEq, vmCat]
                    exact rest _
                · rw [if_neg (fun h => e2 h.2.1)] at ih'
                  have r1 : rf (dK K w n) = dK K w n := by omega
                  have r2 : rf (dK K v n) = 536870912 := by omega
                  rw [r1] at hd
                  rw [r2] at ht
                  simp (disch := (first | assumption | omega | exact Nat.le_of_ble_eq_true rfl | rfl)) only [w276_115, w276_118, w276_119, w276_122, w276_124, w276_125, w276_128, w276_131, w276_132, w276_135, w276_137, w276_138, w276_141, w276_144, Ko_n, Ko_v, vX_i, vX_r, vX_l, vX_j, reduceIte, show ¬ K 1 * K 2 ≤ (n : Int) by omega, hd, ht, show ¬ dK K w n = 536870912 by omega, not_true]
                  simp (disch := (first | assumption | omega | exact Nat.le_of_ble_eq_true rfl | rfl)) only [w276_206, w276_209, Ko_n, Ko_v, vX_i, vX_r, vX_l, vX_j, reduceIte]
                  exact ih' _ (by omega) h1 h2 h3 h4
              · rw [if_neg (fun h => e1 h.1)] at ih'
                have r1 : rf (dK K w n) = 536870912 := by omega
                rw [r1] at hd
                simp (disch := (first | assumption | omega | exact Nat.le_of_ble_eq_true rfl | rfl)) only [w276_115, w276_118, w276_119, w276_122, w276_124, w276_125, w276_128, w276_131, w276_132, w276_135, w276_137, w276_138, w276_141, w276_144, Ko_n, Ko_v, vX_i, vX_r, vX_l, vX_j, reduceIte, show ¬ K 1 * K 2 ≤ (n : Int) by omega, hd]
                simp (disch := (first | assumption | omega | exact Nat.le_of_ble_eq_true rfl | rfl)) only [w276_206, w276_209, Ko_n, Ko_v, vX_i, vX_r, vX_l, vX_j, reduceIte]
                exact ih' _ (by omega) h1 h2 h3 h4
          have copy : ∀ (m n : Nat) (τ : St), n + m = nK K → fq (upA σ 1204 382 fun _ => 0) τ → τ 1200 382 = K → laidW τ K v → (∀ j : Int, 0 ≤ j → j < n → τ 1226 382 j = rf (dK K v j)) → Wp (d + 6) M_X12_meet 64 [.ref 382, .int (i32 w), .int (i32 v), .int (i32 z), .int (i32 y), .int (i32 n), vmJ, vmJ, vmJ] [] (E T τ) Q := by
            intro m
            induction m with
            | zero =>
              intro n τ hn2 h1 h2 h3 h4
              have hn2 : n = nK K := by omega
              subst hn2
              rw [w276_64]
              simp (disch := (first | assumption | omega | exact Nat.le_of_ble_eq_true rfl | rfl)) only [w276_66, w276_67, Ko_n, Ko_v, vX_i, vX_r, vX_l, vX_j, reduceIte]
              rw [c210 h2]
              simp (disch := (first | assumption | omega | exact Nat.le_of_ble_eq_true rfl | rfl)) only [w276_70, w276_73, w276_74, w276_77, w276_79, w276_80, w276_83, w276_85, w276_86, w276_87, w276_90, w276_93, w276_94, w276_95, Ko_n, Ko_v, vX_i, vX_r, vX_l, vX_j, reduceIte, hn, Int.le_refl]
              refine c234x h2 hv hB a1.1 a1.2 fun ρ g1 g2 g3 => ?_
              have l0 := loop (nK K) 0 ρ vmJ (by omega) (fq_t h1 (fr34_q g1 (by rw [h2, g2]))) g2 g3 (fun j j0 j1 => by rw [g1 1226 382 (by omega) (by omega)]; exact h4 j j0 (by omega))
              rw [show mtI (dK K w) (dK K v) z 0 = (far, -1) from rfl, show rf ((far, (-1 : Int))).1 = 536870912 from rfl] at l0
              simp (disch := (first | assumption | omega | exact Nat.le_of_ble_eq_true rfl | rfl)) only [w276_98, w276_99, w276_101, w276_104, w276_106, w276_107, Ko_n, Ko_v, vX_i, vX_r, vX_l, vX_j, reduceIte]
              exact l0
            | succ m ih =>
              intro n τ hn2 h1 h2 h3 h4
              have hd := h3.2 n (by omega) (by omega)
              rw [w276_64]
              simp (disch := (first | assumption | omega | exact Nat.le_of_ble_eq_true rfl | rfl)) only [w276_66, w276_67, Ko_n, Ko_v, vX_i, vX_r, vX_l, vX_j, reduceIte]
              rw [c210 h2]
              simp (disch := (first | assumption | omega | exact Nat.le_of_ble_eq_true rfl | rfl)) only [w276_70, w276_73, w276_74, w276_77, w276_79, w276_80, w276_83, w276_85, w276_86, w276_87, w276_90, Ko_n, Ko_v, vX_i, vX_r, vX_l, vX_j, reduceIte, show ¬ K 1 * K 2 ≤ (n : Int) by omega, hd]
              refine ih (n + 1) _ (by omega) (fq_u h1 (by omega)) (by rw [upA_t (by omega)]; exact h2) ⟨fun j j0 j1 => by rw [upA_t (by omega)]; exact h3.1 j j0 j1, fun j j0 j1 => by rw [upA_t (by omega)]; exact h3.2 j j0 j1⟩ (fun j j0 j1 => ?_)
              rw [upA_s]
              by_cases e : j = n
              · rw [e, fu_s]
              · rw [fu_n e]; exact h4 j j0 (by omega)
          simp (disch := (first | assumption | omega | exact Nat.le_of_ble_eq_true rfl | rfl)) only [w276_36, w276_39, w276_40, w276_43, w276_44, w276_47, w276_48, w276_51, w276_54, w276_55, w276_56, w276_57, w276_58, Ko_n, Ko_v, vX_i, vX_r, vX_l, vX_j, reduceIte, Int.reduceEq, not_false_eq_true, upA_s, Int.le_refl]
          refine c234 (kU 0) hv hB a2.1 a2.2 fun τ h1 h2 h3 => ?_
          simp (disch := (first | assumption | omega | exact Nat.le_of_ble_eq_true rfl | rfl)) only [w276_61, w276_62, Ko_n, Ko_v, vX_i, vX_r, vX_l, vX_j, reduceIte]
          exact copy (nK K) 0 τ (by omega) h1 h2 h3 (fun j j0 j1 => by omega)
        · rw [if_neg b2]
          simp (disch := (first | assumption | omega | exact Nat.le_of_ble_eq_true rfl | rfl)) only [w276_36, Ko_n, Ko_v, vX_i, vX_r, vX_l, vX_j, reduceIte, not_true]
          exact bad2 ⟨a1, a2⟩ (fun h => b2 h.2)
    · rw [if_neg a2]
      simp (disch := (first | assumption | omega | exact Nat.le_of_ble_eq_true rfl | rfl)) only [w276_16, Ko_n, Ko_v, vX_i, vX_r, vX_l, vX_j, reduceIte, not_true]
      exact bad1 (fun h => a2 h.2)
  · rw [if_neg a1]
    simp (disch := (first | assumption | omega | exact Nat.le_of_ble_eq_true rfl | rfl)) only [w276_7, w276_10, w276_11, w276_12, w276_13, w276_16, Ko_n, Ko_v, vX_i, vX_r, vX_l, vX_j, reduceIte]
    exact bad1 (fun h => a1 h.1)
