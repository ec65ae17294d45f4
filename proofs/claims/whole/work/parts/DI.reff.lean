/-! ===== the reference: farthest, own ===== -/
/-- where the reference stands while it looks for the farthest -/
def ftP (f : Int → Int) (a : Int) (n : Nat) (b : Int) : Prop := ((ftI f a n).1 = -1 ∧ b = a ∧ (n : Int) ≤ a) ∨ ((ftI f a n).1 = 0 ∧ (0 ≤ (ftI f a n).2 ∧ (ftI f a n).2 < n) ∧ f (ftI f a n).2 = 0 ∧ b = min (ftI f a n).2 a ∧ (a < n → (ftI f a n).2 ≤ a)) ∨ (0 < (ftI f a n).1 ∧ b = (ftI f a n).2 ∧ (0 ≤ (ftI f a n).2 ∧ (ftI f a n).2 < n) ∧ f (ftI f a n).2 = (ftI f a n).1 ∧ (ftI f a n).1 ≤ 6516)
theorem ftP_b {f : Int → Int} {a b : Int} {n : Nat} (ha : f a = 0) (h : ftP f a n b) : f b = max (ftI f a n).1 0 := by
  rcases h with h | h | h
  · rw [h.2.1, ha, h.1]; rfl
  · rw [h.1]
    have : b = (ftI f a n).2 ∨ b = a := by have := h.2.2.2.1; omega
    rcases this with e | e
    · rw [e, h.2.2.1]; rfl
    · rw [e, ha]; rfl
  · rw [h.2.1, h.2.2.2.1]
    have := h.1
    omega
theorem ftP_s {f : Int → Int} {a b : Int} {n : Nat} (a0 : 0 ≤ a) (ha : f a = 0) (hn : (0 ≤ f n ∧ f n ≤ 6516) ∨ f n = far) (h : ftP f a n b) : ftP f a (n + 1) (if f n < far ∧ (f b < f n ∨ (f n = f b ∧ (n : Int) < b)) then n else b) := by
  have hfar : far = 1000000000 := rfl
  have hb := ftP_b ha h
  have es : ftI f a (n + 1) = if f n < far ∧ (ftI f a n).1 < f n then (f n, (n : Int)) else ftI f a n := rfl
  by_cases e : f n < far
  · by_cases g : (ftI f a n).1 < f n
    · have es' : ftI f a (n + 1) = (f n, (n : Int)) := by rw [es, if_pos ⟨e, g⟩]
      unfold ftP
      rw [es']
      dsimp only
      by_cases z : f n = 0
      · refine Or.inr (Or.inl ⟨z, by omega, z, ?_, ?_⟩)
        · rcases h with h | h | h
          · by_cases w : (n : Int) < b
            · rw [if_pos ⟨e, Or.inr ⟨by omega, w⟩⟩]; omega
            · rw [if_neg (by omega)]; omega
          · omega
          · omega
        · intro w
          rcases h with h | h | h <;> omega
      · refine Or.inr (Or.inr ⟨by omega, ?_, by omega, rfl, by omega⟩)
        rw [if_pos ⟨e, Or.inl (by omega)⟩]
    · have es' : ftI f a (n + 1) = ftI f a n := by rw [es, if_neg (fun w => g w.2)]
      have nb : ¬ (f n < far ∧ (f b < f n ∨ (f n = f b ∧ (n : Int) < b))) := by
        rcases h with h | h | h <;> omega
      unfold ftP
      rw [es', if_neg nb]
      rcases h with h | h | h
      · omega
      · refine Or.inr (Or.inl ⟨h.1, by omega, h.2.2.1, h.2.2.2.1, fun w => ?_⟩)
        by_cases w2 : a < n
        · exact h.2.2.2.2 w2
        · omega
      · exact Or.inr (Or.inr ⟨h.1, h.2.1, by omega, h.2.2.2.1, h.2.2.2.2⟩)
  · have es' : ftI f a (n + 1) = ftI f a n := by rw [es, if_neg (fun w => e w.1)]
    have na : (n : Int) ≠ a := fun w => by rw [w, ha] at e; omega
    unfold ftP
    rw [es', if_neg (fun w => e w.1)]
    rcases h with h | h | h
    · exact Or.inl ⟨h.1, h.2.1, by omega⟩
    · exact Or.inr (Or.inl ⟨h.1, by omega, h.2.2.1, h.2.2.2.1, fun w => h.2.2.2.2 (by omega)⟩)
    · exact Or.inr (Or.inr ⟨h.1, h.2.1, by omega, h.2.2.2.1, h.2.2.2.2⟩)
theorem ftP_e {f : Int → Int} {a b : Int} {n : Nat} (h1 : a < n) (h : ftP f a n b) : b = (ftI f a n).2 := by
  rcases h with h | h | h
  · omega
  · have := h.2.2.2.2 h1
    omega
  · exact h.2.1
theorem dK_0 {K : Int → Int} {B w : Int} (hv : kV K B) (w0 : 0 ≤ w) (w1 : w < K 3) : dK K w (K (79 + w)) = 0 := by
  obtain ⟨h2, h5, h6, h7⟩ := kV_w hv w0 w1
  have hm := wh_mul h2
  exact dD_0 h2 (prK_cs hv.1 hv.2.1) (nK_c hv.1) h6.1 h6.2 (fun e => h7 ((prK_w hv.2.1 h6.1 (by omega)).mp e))
theorem c271 {d : Nat} {k w B : Int} {K : Int → Int} {T : Tt} {σ : St} {Q : vmO → vmH → Prop} (hK : σ 1200 382 = K) (hv : kV K B) (hB : B < 900000000) (x0 : -2147483648 ≤ w) (x1 : w < 2147483648)
    (hQ1 : ¬ (0 ≤ w ∧ w < K 3) → ∀ τ, fT σ τ → τ 1200 382 = K → τ 1204 382 0 = 1 → Q (.inl (some (.int (i32 0)))) (E T τ))
    (hQ2 : (0 ≤ w ∧ w < K 3) → ∀ τ, fT σ τ → τ 1200 382 = K → τ 1204 382 0 = 0 → Q (.inl (some (.int (i32 (ftI (dK K w) (K (79 + w)) (nK K)).2)))) (E T τ)) : Ca (d + 6) k 271 [.ref 382, .int (i32 w)] (E T σ) Q := by
  have h0 := ob_md
  have hfar : far = 1000000000 := rfl
  have hhi : hiR = 536870912 := rfl
  have hn := nK_c hv.1
  have k3 := hv.1.2.1
  have kU : ∀ u, (upA σ 1204 382 fun _ => u) 1200 382 = K := fun u => by rw [upA_t (by omega)]; exact hK
  have fU : ∀ u, fT σ (upA σ 1204 382 fun _ => u) := fun u => fT_u fT_r (by omega)
  have sU : ∀ u, (upA σ 1204 382 fun _ => u) 1204 382 0 = u := fun u => by rw [upA_s]
  rw [n271 _ _ _ _ _ _ _ h0]
  simp (disch := (first | assumption | omega | exact Nat.le_of_ble_eq_true rfl | rfl)) only [w271_0, w271_1, w271_2, w271_5, w271_6, w271_7, w271_8, Ko_n, Ko_v, vX_i, vX_r, vX_l, vX_j, reduceIte]
  rw [c215 (kU 0) hv (by omega) (by omega)]
  by_cases a : 0 ≤ w ∧ w < K 3
  · rw [if_pos a]
    obtain ⟨q2, q5, q6, q7⟩ := kV_w hv a.1 a.2
    have hm := wh_mul q2
    have hq := hQ2 a
    have ha := dK_0 hv a.1 a.2
    simp (disch := (first | assumption | omega | exact Nat.le_of_ble_eq_true rfl | rfl)) only [w271_11, w271_14, w271_15, w271_16, w271_19, w271_20, w271_21, w271_22, Ko_n, Ko_v, vX_i, vX_r, vX_l, vX_j, reduceIte, Int.reduceEq, not_false_eq_true]
    refine c234 (kU 0) hv hB a.1 a.2 fun τ h1 h2 h3 => ?_
    have ft := fT_q h1
    have loop : ∀ (m n : Nat) (b : Int), n + m = nK K → (0 ≤ b ∧ b < K 1 * K 2) → ftP (dK K w) (K (79 + w)) n b → Wp (d + 6) M_X12_farthest 37 [.ref 382, .int (i32 w), .int (i32 b), .int (i32 n)] [] (E T τ) Q := by
      intro m
      induction m with
      | zero =>
        intro n b hn2 hb hp
        have hn2 : n = nK K := by omega
        subst hn2
        have he := ftP_e (by omega) hp
        rw [w271_37]
        simp (disch := (first | assumption | omega | exact Nat.le_of_ble_eq_true rfl | rfl)) only [w271_38, w271_39, Ko_n, Ko_v, vX_i, vX_r, vX_l, vX_j, reduceIte]
        rw [c210 h2]
        simp (disch := (first | assumption | omega | exact Nat.le_of_ble_eq_true rfl | rfl)) only [w271_42, w271_45, w271_46, w271_49, w271_50, w271_51, w271_54, w271_57, w271_58, w271_61, w271_62, w271_63, w271_64, w271_67, w271_68, w271_69, w271_72, w271_73, w271_76, w271_77, w271_78, w271_79, w271_82, w271_83, w271_84, w271_87, w271_88, w271_89, w271_92, w271_93, w271_94, w271_97, w271_100, w271_101, Ko_n, Ko_v, vX_i, vX_r, vX_l, vX_j, reduceIte, hn, Int.le_refl]
        rw [he]
        exact hq τ ft.1 h2 ft.2
      | succ m ih =>
        intro n b hn2 hb hp
        have hd := h3.2 n (by omega) (by omega)
        have hdb := h3.2 b hb.1 hb.2
        have bn := dK_b hv a.1 a.2 (z := n) (by omega) (by omega)
        have bb := dK_b hv a.1 a.2 hb.1 hb.2
        have vb := ftP_b ha hp
        have hs := ftP_s q6.1 ha bn hp
        have gn := rf_in bn
        have gb := rf_in bb
        have fb : dK K w b < far := by
          rcases hp with h | h | h <;> omega
        rw [w271_37]
        simp (disch := (first | assumption | omega | exact Nat.le_of_ble_eq_true rfl | rfl)) only [w271_38, w271_39, Ko_n, Ko_v, vX_i, vX_r, vX_l, vX_j, reduceIte]
        rw [c210 h2]
        by_cases e : dK K w n < far
        · have r1 : rf (dK K w n) = dK K w n := by omega
          have r2 : rf (dK K w b) = dK K w b := by omega
          rw [r1] at hd
          rw [r2] at hdb
          by_cases g : dK K w b < dK K w n
          · rw [if_pos ⟨e, Or.inl g⟩] at hs
            simp (disch := (first | assumption | omega | exact Nat.le_of_ble_eq_true rfl | rfl)) only [w271_42, w271_45, w271_46, w271_49, w271_50, w271_51, w271_54, w271_57, w271_58, w271_61, w271_62, w271_63, w271_64, w271_67, w271_68, w271_69, w271_72, w271_73, w271_76, w271_77, w271_78, w271_79, w271_82, w271_83, w271_84, w271_87, w271_88, w271_89, w271_92, w271_93, w271_94, w271_97, Ko_n, Ko_v, vX_i, vX_r, vX_l, vX_j, reduceIte, show ¬ K 1 * K 2 ≤ (n : Int) by omega, hd, hdb, show ¬ (536870912 : Int) ≤ dK K w n by omega, g]
            exact ih (n + 1) n (by omega) (by omega) hs
          · by_cases g2 : dK K w n = dK K w b
            · by_cases g3 : (n : Int) < b
              · rw [if_pos ⟨e, Or.inr ⟨g2, g3⟩⟩] at hs
                simp (disch := (first | assumption | omega | exact Nat.le_of_ble_eq_true rfl | rfl)) only [w271_42, w271_45, w271_46, w271_49, w271_50, w271_51, w271_54, w271_57, w271_58, w271_61, w271_62, w271_63, w271_64, w271_67, w271_68, w271_69, w271_72, w271_73, w271_76, w271_77, w271_78, w271_79, w271_82, w271_83, w271_84, w271_87, w271_88, w271_89, w271_92, w271_93, w271_94, w271_97, Ko_n, Ko_v, vX_i, vX_r, vX_l, vX_j, reduceIte, show ¬ K 1 * K 2 ≤ (n : Int) by omega, hd, hdb, show ¬ (536870912 : Int) ≤ dK K w n by omega, g, g2, not_true, show ¬ b ≤ (n : Int) by omega, Int.lt_irrefl, show ¬ (536870912 : Int) ≤ dK K w b by omega]
                exact ih (n + 1) n (by omega) (by omega) hs
              · rw [if_neg (by omega)] at hs
                simp (disch := (first | assumption | omega | exact Nat.le_of_ble_eq_true rfl | rfl)) only [w271_42, w271_45, w271_46, w271_49, w271_50, w271_51, w271_54, w271_57, w271_58, w271_61, w271_62, w271_63, w271_64, w271_67, w271_68, w271_69, w271_72, w271_73, w271_76, w271_77, w271_78, w271_79, w271_82, w271_83, w271_84, w271_87, w271_88, w271_89, w271_92, w271_93, w271_94, w271_97, Ko_n, Ko_v, vX_i, vX_r, vX_l, vX_j, reduceIte, show ¬ K 1 * K 2 ≤ (n : Int) by omega, hd, hdb, show ¬ (536870912 : Int) ≤ dK K w n by omega, g, g2, not_true, show b ≤ (n : Int) by omega, Int.lt_irrefl, show ¬ (536870912 : Int) ≤ dK K w b by omega]
                exact ih (n + 1) b (by omega) hb hs
            · rw [if_neg (by omega)] at hs
              simp (disch := (first | assumption | omega | exact Nat.le_of_ble_eq_true rfl | rfl)) only [w271_42, w271_45, w271_46, w271_49, w271_50, w271_51, w271_54, w271_57, w271_58, w271_61, w271_62, w271_63, w271_64, w271_67, w271_68, w271_69, w271_72, w271_73, w271_76, w271_77, w271_78, w271_79, w271_82, w271_83, w271_84, w271_87, w271_88, w271_89, w271_92, w271_93, w271_94, w271_97, Ko_n, Ko_v, vX_i, vX_r, vX_l, vX_j, reduceIte, show ¬ K 1 * K 2 ≤ (n : Int) by omega, hd, hdb, show ¬ (536870912 : Int) ≤ dK K w n by omega, g, g2, not_false_eq_true]
              exact ih (n + 1) b (by omega) hb hs
        · have r1 : rf (dK K w n) = 536870912 := by omega
          rw [r1] at hd
          rw [if_neg (fun w => e w.1)] at hs
          simp (disch := (first | assumption | omega | exact Nat.le_of_ble_eq_true rfl | rfl)) only [w271_42, w271_45, w271_46, w271_49, w271_50, w271_51, w271_54, w271_57, w271_58, w271_61, w271_62, w271_63, w271_64, w271_67, w271_68, w271_69, w271_72, w271_73, w271_76, w271_77, w271_78, w271_79, w271_82, w271_83, w271_84, w271_87, w271_88, w271_89, w271_92, w271_93, w271_94, w271_97, Ko_n, Ko_v, vX_i, vX_r, vX_l, vX_j, reduceIte, show ¬ K 1 * K 2 ≤ (n : Int) by omega, hd, Int.le_refl]
          exact ih (n + 1) b (by omega) hb hs
    simp (disch := (first | assumption | omega | exact Nat.le_of_ble_eq_true rfl | rfl)) only [w271_25, w271_26, w271_29, w271_31, w271_32, w271_33, w271_34, w271_35, w271_36, Ko_n, Ko_v, vX_i, vX_r, vX_l, vX_j, reduceIte, h2]
    exact loop (nK K) 0 (K (79 + w)) (by omega) q6 (Or.inl ⟨rfl, rfl, by omega⟩)
  · rw [if_neg a]
    simp (disch := (first | assumption | omega | exact Nat.le_of_ble_eq_true rfl | rfl)) only [w271_11, w271_14, w271_15, w271_16, Ko_n, Ko_v, vX_i, vX_r, vX_l, vX_j, reduceIte, not_true]
    rw [c175]
    simp (disch := (first | assumption | omega | exact Nat.le_of_ble_eq_true rfl | rfl)) only [w271_19, Ko_n, Ko_v, vX_i, vX_r, vX_l, vX_j, reduceIte, upA_upA]
    exact hQ1 a _ (fU _) (kU _) (sU _)
