/-! ===== the reference: own, meet ===== -/
/-- laysFor changes but prices and distances -/
def fr34 (σ τ : St) : Prop := ∀ t o, t ≠ 1219 → t ≠ 1220 → τ t o = σ t o
theorem fr34_q {σ τ : St} (h : fr34 σ τ) (hK : σ 1200 382 = τ 1200 382) : fq σ τ := fun t o ht => h t o (by omega) (by omega)
theorem c234x {d : Nat} {k w B : Int} {K : Int → Int} {T : Tt} {σ : St} {Q : vmO → vmH → Prop} (hK : σ 1200 382 = K) (hv : kV K B) (hB : B < 900000000) (w0 : 0 ≤ w) (w1 : w < K 3) (hQ : ∀ τ, fr34 σ τ → τ 1200 382 = K → laidW τ K w → Q (.inl none) (E T τ)) : Ca (d + 5) k 234 [.ref 382, .int (i32 w)] (E T σ) Q := by
  have h0 := ob_md
  obtain ⟨h2, h5, h6, h7⟩ := kV_w hv w0 w1
  have hm := wh_mul h2
  rw [n234 _ _ _ _ _ _ _ h0]
  simp (disch := (first | assumption | omega | exact Nat.le_of_ble_eq_true rfl | rfl)) only [w234_0, w234_1, w234_2, w234_5, w234_6, w234_7, w234_10, w234_12, w234_13, w234_14, w234_15, w234_18, Ko_n, Ko_v, vX_i, vX_r, vX_l, vX_j, reduceIte]
  rw [c231 hK hv hB (by omega) (by omega)]
  have hK2 : (upA σ 1219 382 (cp (prR K w) (σ 1219 382) (K 1 * K 2))) 1200 382 = K := by rw [upA_t (by omega)]; exact hK
  simp (disch := (first | assumption | omega | exact Nat.le_of_ble_eq_true rfl | rfl)) only [w234_0, w234_1, w234_2, w234_5, w234_6, w234_7, w234_10, w234_12, w234_13, w234_14, w234_15, w234_18, Ko_n, Ko_v, vX_i, vX_r, vX_l, vX_j, reduceIte, upA_t, hK]
  have hP : ∀ z, 0 ≤ z → z < K 1 * K 2 → (upA σ 1219 382 (cp (prR K w) (σ 1219 382) (K 1 * K 2))) 1219 382 z = rp (prK K w z) := fun z z0 z1 => by
    rw [upA_s]
    unfold cp
    rw [if_pos ⟨z0, z1⟩]
    exact prR_rp hv.2.1 (by omega) z0 (by omega)
  refine c232 (N := nK K) hK2 h2 (nK_c hv.1) (prK_cs hv.1 hv.2.1) hP h6.1 h6.2 (fun e => h7 ((prK_w hv.2.1 h6.1 (by omega)).mp e)) fun D hD => ?_
  simp (disch := (first | assumption | omega | exact Nat.le_of_ble_eq_true rfl | rfl)) only [w234_0, w234_1, w234_2, w234_5, w234_6, w234_7, w234_10, w234_12, w234_13, w234_14, w234_15, w234_18, Ko_n, Ko_v, vX_i, vX_r, vX_l, vX_j, reduceIte]
  refine hQ _ (fun t o h1 h2 => by rw [upA_t (by omega), upA_t (by omega)]) (by rw [upA_t (by omega)]; exact hK2) ⟨fun z z0 z1 => ?_, fun z z0 z1 => ?_⟩
  · rw [upA_t (by omega)]; exact hP z z0 z1
  · rw [upA_s]; exact hD z z0 z1
theorem rf_min {x y : Int} (hx : (0 ≤ x ∧ x ≤ 6516) ∨ x = far) (hy : (0 ≤ y ∧ y ≤ 6516) ∨ y = far) : min (rf x) (rf y) = rf (min x y) ∧ ((0 ≤ min x y ∧ min x y ≤ 6516) ∨ min x y = far) ∧ (rf x < rf y ↔ x < y) := by
  have hfar : far = 1000000000 := rfl
  have hhi : hiR = 536870912 := rfl
  have a := rf_in hx
  have b := rf_in hy
  by_cases e : x ≤ y
  · rw [show min x y = x by omega]
    exact ⟨by omega, hx, by omega⟩
  · rw [show min x y = y by omega]
    exact ⟨by omega, hy, by omega⟩
theorem owI_b {f : Int → Int → Int} {w k : Int} (n : Nat) (h : ∀ v : Nat, v < n → (0 ≤ f v k ∧ f v k ≤ 6516) ∨ f v k = far) : (0 ≤ owI f w n k ∧ owI f w n k ≤ 6516) ∨ owI f w n k = far := by
  induction n with
  | zero => exact Or.inr rfl
  | succ n ih =>
    have i := ih (fun v hv => h v (by omega))
    have j := h n (by omega)
    rw [show owI f w (n + 1) k = if (n : Int) = w then owI f w n k else min (owI f w n k) (f n k) from rfl]
    by_cases e : (n : Int) = w
    · rw [if_pos e]; exact i
    · rw [if_neg e]; exact (rf_min i j).2.1
theorem c278 {d : Nat} {k w B : Int} {K : Int → Int} {T : Tt} {σ : St} {Q : vmO → vmH → Prop} (hK : σ 1200 382 = K) (hv : kV K B) (hB : B < 900000000) (x0 : -2147483648 ≤ w) (x1 : w < 2147483648)
    (hQ1 : ¬ (0 ≤ w ∧ w < K 3) → ∀ τ, fT σ τ → τ 1200 382 = K → τ 1204 382 0 = 1 → Q (.inl (some (.long (i64 0)))) (E T τ))
    (hQ2 : (0 ≤ w ∧ w < K 3) → ∀ τ, fT σ τ → τ 1200 382 = K → τ 1204 382 0 = 0 → Q (.inl (some (.long (bs (owB (dK K w) (owI (dK K) w (K 3).toNat) (nK K)))))) (E T τ)) : Ca (d + 6) k 278 [.ref 382, .int (i32 w)] (E T σ) Q := by
  have h0 := ob_md
  have hfar : far = 1000000000 := rfl
  have hhi : hiR = 536870912 := rfl
  have hn := nK_c hv.1
  have k3 := hv.1.2.1
  have kU : ∀ u, (upA σ 1204 382 fun _ => u) 1200 382 = K := fun u => by rw [upA_t (by omega)]; exact hK
  have fU : ∀ u, fT σ (upA σ 1204 382 fun _ => u) := fun u => fT_u fT_r (by omega)
  have sU : ∀ u, (upA σ 1204 382 fun _ => u) 1204 382 0 = u := fun u => by rw [upA_s]
  rw [n278 _ _ _ _ _ _ _ h0]
  simp (disch := (first | assumption | omega | exact Nat.le_of_ble_eq_true rfl | rfl)) only [w278_0, w278_1, w278_2, w278_5, w278_6, w278_7, w278_8, Ko_n, Ko_v, vX_i, vX_r, vX_l, vX_j, reduceIte]
  rw [c215 (kU 0) hv (by omega) (by omega)]
  by_cases a : 0 ≤ w ∧ w < K 3
  · rw [if_pos a]
    obtain ⟨q2, q5, q6, q7⟩ := kV_w hv a.1 a.2
    have hm := wh_mul q2
    have hq := hQ2 a
    have dOk : ∀ (v : Nat) (z : Int), (v : Int) < K 3 → 0 ≤ z → z < K 1 * K 2 → (0 ≤ dK K v z ∧ dK K v z ≤ 6516) ∨ dK K v z = far := fun v z hv1 z0 z1 => dK_b hv (by omega) hv1 z0 z1
    have oOk : ∀ (n : Nat) (z : Int), (n : Int) ≤ K 3 → 0 ≤ z → z < K 1 * K 2 → (0 ≤ owI (dK K) w n z ∧ owI (dK K) w n z ≤ 6516) ∨ owI (dK K) w n z = far := fun n z hn z0 z1 => owI_b n fun v hv1 => dOk v z (by omega) z0 z1
    -- the last: what is own
    have last : ∀ (m n : Nat) (τ : St), n + m = nK K → fq (upA σ 1204 382 fun _ => 0) τ → τ 1200 382 = K → laidW τ K w → (∀ z, 0 ≤ z → z < K 1 * K 2 → τ 1226 382 z = rf (owI (dK K) w (K 3).toNat z)) → Wp (d + 6) M_X12_own 124 [.ref 382, .int (i32 w), .long (bsN (owB (dK K w) (owI (dK K) w (K 3).toNat) (nK K)) n), vmJ, .int (i32 n)] [] (E T τ) Q := by
      intro m
      induction m with
      | zero =>
        intro n τ hn2 h1 h2 h3 h4
        have hn2 : n = nK K := by omega
        subst hn2
        have ft := fT_q h1
        rw [w278_124]
        simp (disch := (first | assumption | omega | exact Nat.le_of_ble_eq_true rfl | rfl)) only [w278_126, w278_127, Ko_n, Ko_v, vX_i, vX_r, vX_l, vX_j, reduceIte]
        rw [c210 h2]
        simp (disch := (first | assumption | omega | exact Nat.le_of_ble_eq_true rfl | rfl)) only [w278_130, w278_133, w278_134, w278_135, w278_138, w278_140, w278_141, w278_142, w278_145, w278_147, w278_148, w278_151, w278_152, w278_154, w278_155, w278_158, w278_159, w278_160, w278_161, w278_164, w278_167, w278_168, Ko_n, Ko_v, vX_i, vX_r, vX_l, vX_j, reduceIte, hn, Int.le_refl]
        rw [← hn, bsN_e (p := owB (dK K w) (owI (dK K) w (K 3).toNat) (nK K)) (n := ((nK K : Nat) : Int)) (fun k h _ => decide_eq_false (by omega))]
        exact hq τ ft.1 h2 ft.2
      | succ m ih =>
        intro n τ hn2 h1 h2 h3 h4
        have ih' := ih (n + 1) τ (by omega) h1 h2 h3 h4
        rw [show ((n + 1 : Nat) : Int) = (n : Int) + 1 by omega] at ih'
        have hd := h3.2 n (by omega) (by omega)
        have ht := h4 n (by omega) (by omega)
        have hx := dK_b hv a.1 a.2 (z := n) (by omega) (by omega)
        have hy := oOk (K 3).toNat n (by omega) (by omega) (by omega)
        have gx := rf_in hx
        have gy := rf_in hy
        have cm := (rf_min hx hy).2.2
        rw [w278_124]
        simp (disch := (first | assumption | omega | exact Nat.le_of_ble_eq_true rfl | rfl)) only [w278_126, w278_127, Ko_n, Ko_v, vX_i, vX_r, vX_l, vX_j, reduceIte]
        rw [c210 h2]
        by_cases e : dK K w n < owI (dK K) w (K 3).toNat n
        · have ep : owB (dK K w) (owI (dK K) w (K 3).toNat) (nK K) n = true := decide_eq_true ⟨by omega, by omega, e⟩
          rw [← bsN_t (by omega) (by omega) ep] at ih'
          simp (disch := (first | assumption | omega | exact Nat.le_of_ble_eq_true rfl | rfl)) only [w278_130, w278_133, w278_134, w278_135, w278_138, w278_140, w278_141, w278_142, w278_145, w278_147, w278_148, w278_151, w278_152, w278_154, w278_155, w278_158, w278_159, w278_160, w278_161, w278_164, Ko_n, Ko_v, vX_i, vX_r, vX_l, vX_j, reduceIte, show ¬ K 1 * K 2 ≤ (n : Int) by omega, hd, ht, show ¬ rf (owI (dK K) w (K 3).toNat n) ≤ rf (dK K w n) by omega]
          exact ih'
        · have ep : owB (dK K w) (owI (dK K) w (K 3).toNat) (nK K) n = false := decide_eq_false (fun h => e h.2.2)
          rw [← bsN_f ep] at ih'
          simp (disch := (first | assumption | omega | exact Nat.le_of_ble_eq_true rfl | rfl)) only [w278_130, w278_133, w278_134, w278_135, w278_138, w278_140, w278_141, w278_142, w278_145, w278_147, w278_148, w278_151, w278_152, w278_154, w278_155, w278_158, w278_159, w278_160, w278_161, w278_164, Ko_n, Ko_v, vX_i, vX_r, vX_l, vX_j, reduceIte, show ¬ K 1 * K 2 ≤ (n : Int) by omega, hd, ht, show rf (owI (dK K) w (K 3).toNat n) ≤ rf (dK K w n) by omega]
          exact ih'
    -- one walker's
    have inner : ∀ (m n v : Nat) (τ : St), n + m = nK K → (v : Int) < K 3 → (v : Int) ≠ w → fq (upA σ 1204 382 fun _ => 0) τ → τ 1200 382 = K → laidW τ K v → (∀ z : Int, 0 ≤ z → z < n → τ 1226 382 z = rf (owI (dK K) w (v + 1) z)) → (∀ z : Int, n ≤ z → z < K 1 * K 2 → τ 1226 382 z = rf (owI (dK K) w v z)) → (∀ ρ l3, fq (upA σ 1204 382 fun _ => 0) ρ → ρ 1200 382 = K → (∀ z, 0 ≤ z → z < K 1 * K 2 → ρ 1226 382 z = rf (owI (dK K) w (v + 1) z)) → Wp (d + 6) M_X12_own 108 [.ref 382, .int (i32 w), .int (i32 v), l3, vmJ] [] (E T ρ) Q) → Wp (d + 6) M_X12_own 73 [.ref 382, .int (i32 w), .int (i32 v), .int (i32 n), vmJ] [] (E T τ) Q := by
      intro m
      induction m with
      | zero =>
        intro n v τ hn2 v1 vw h1 h2 h3 h4 h5 hk
        have hn2 : n = nK K := by omega
        subst hn2
        rw [w278_73]
        simp (disch := (first | assumption | omega | exact Nat.le_of_ble_eq_true rfl | rfl)) only [w278_74, w278_75, Ko_n, Ko_v, vX_i, vX_r, vX_l, vX_j, reduceIte]
        rw [c210 h2]
        simp (disch := (first | assumption | omega | exact Nat.le_of_ble_eq_true rfl | rfl)) only [w278_78, w278_81, w278_82, w278_85, w278_86, w278_87, w278_90, w278_91, w278_92, w278_93, w278_96, w278_97, w278_98, w278_101, w278_102, w278_105, Ko_n, Ko_v, vX_i, vX_r, vX_l, vX_j, reduceIte, hn, Int.le_refl]
        exact hk τ _ h1 h2 (fun z z0 z1 => h4 z z0 (by omega))
      | succ m ih =>
        intro n v τ hn2 v1 vw h1 h2 h3 h4 h5 hk
        have hd := h3.2 n (by omega) (by omega)
        have ht := h5 n (by omega) (by omega)
        have hx := oOk v n (by omega) (by omega) (by omega)
        have hy := dOk v n v1 (by omega) (by omega)
        have gx := rf_in hx
        have gy := rf_in hy
        have cm := (rf_min hx hy).1
        have os : owI (dK K) w (v + 1) n = min (owI (dK K) w v n) (dK K v n) := by
          rw [show owI (dK K) w (v + 1) n = if (v : Int) = w then owI (dK K) w v n else min (owI (dK K) w v n) (dK K v n) from rfl, if_neg vw]
        rw [w278_73]
        simp (disch := (first | assumption | omega | exact Nat.le_of_ble_eq_true rfl | rfl)) only [w278_74, w278_75, Ko_n, Ko_v, vX_i, vX_r, vX_l, vX_j, reduceIte]
        rw [c210 h2]
        simp (disch := (first | assumption | omega | exact Nat.le_of_ble_eq_true rfl | rfl)) only [w278_78, w278_81, w278_82, w278_85, w278_86, w278_87, w278_90, w278_91, w278_92, w278_93, w278_96, w278_97, w278_98, w278_101, w278_102, w278_105, Ko_n, Ko_v, vX_i, vX_r, vX_l, vX_j, reduceIte, show ¬ K 1 * K 2 ≤ (n : Int) by omega, hd, ht, vmCat, cm]
        refine ih (n + 1) v _ (by omega) v1 vw (fq_u h1 (by omega)) (by rw [upA_t (by omega)]; exact h2) ⟨fun z z0 z1 => by rw [upA_t (by omega)]; exact h3.1 z z0 z1, fun z z0 z1 => by rw [upA_t (by omega)]; exact h3.2 z z0 z1⟩ (fun z z0 z1 => ?_) (fun z z0 z1 => ?_) hk
        · rw [upA_s]
          by_cases e : z = n
          · rw [e, fu_s, os]
          · rw [fu_n e]; exact h4 z z0 (by omega)
        · rw [upA_s, fu_n (by omega)]; exact h5 z (by omega) z1
    have outer : ∀ (m v : Nat) (τ : St) (l3 : Value), (v : Int) + m = K 3 → fq (upA σ 1204 382 fun _ => 0) τ → τ 1200 382 = K → (∀ z, 0 ≤ z → z < K 1 * K 2 → τ 1226 382 z = rf (owI (dK K) w v z)) → Wp (d + 6) M_X12_own 48 [.ref 382, .int (i32 w), .int (i32 v), l3, vmJ] [] (E T τ) Q := by
      intro m
      induction m with
      | zero =>
        intro v τ l3 hv2 h1 h2 h4
        have hv2 : (v : Int) = K 3 := by omega
        rw [w278_48]
        simp (disch := (first | assumption | omega | exact Nat.le_of_ble_eq_true rfl | rfl)) only [w278_49, w278_50, w278_53, w278_54, w278_55, w278_58, w278_59, w278_60, w278_63, w278_66, w278_67, w278_68, w278_71, w278_72, w278_74, w278_75, w278_78, w278_81, w278_82, w278_85, w278_86, w278_87, w278_90, w278_91, w278_92, w278_93, w278_96, w278_97, w278_98, w278_101, w278_102, w278_105, w278_108, w278_111, w278_114, w278_115, w278_116, Ko_n, Ko_v, vX_i, vX_r, vX_l, vX_j, reduceIte, h2, hv2, Int.le_refl]
        refine c234x h2 hv hB a.1 a.2 fun ρ g1 g2 g3 => ?_
        have l0 := last (nK K) 0 ρ (by omega) (fq_t h1 (fr34_q g1 (by rw [h2, g2]))) g2 g3 (fun z z0 z1 => by rw [g1 1226 382 (by omega) (by omega), h4 z z0 z1, show (K 3).toNat = v by omega])
        rw [show bsN (owB (dK K w) (owI (dK K) w (K 3).toNat) (nK K)) ((0 : Nat) : Int) = i64 0 from bsN_0.symm] at l0
        simp (disch := (first | assumption | omega | exact Nat.le_of_ble_eq_true rfl | rfl)) only [w278_119, w278_120, w278_121, w278_122, Ko_n, Ko_v, vX_i, vX_r, vX_l, vX_j, reduceIte]
        exact l0
      | succ m ih =>
        intro v τ l3 hv2 h1 h2 h4
        rw [w278_48]
        by_cases e : (v : Int) = w
        · have os : ∀ z, owI (dK K) w (v + 1) z = owI (dK K) w v z := fun z => by
            rw [show owI (dK K) w (v + 1) z = if (v : Int) = w then owI (dK K) w v z else min (owI (dK K) w v z) (dK K v z) from rfl, if_pos e]
          have ih' := ih (v + 1) τ l3 (by omega) h1 h2 (fun z z0 z1 => by rw [h4 z z0 z1, os])
          rw [show ((v + 1 : Nat) : Int) = w + 1 by omega] at ih'
          simp (disch := (first | assumption | omega | exact Nat.le_of_ble_eq_true rfl | rfl)) only [w278_49, w278_50, w278_53, w278_54, w278_55, w278_58, w278_59, w278_60, w278_63, w278_66, w278_67, w278_68, w278_71, w278_72, w278_74, w278_75, w278_78, w278_81, w278_82, w278_85, w278_86, w278_87, w278_90, w278_91, w278_92, w278_93, w278_96, w278_97, w278_98, w278_101, w278_102, w278_105, w278_108, w278_111, Ko_n, Ko_v, vX_i, vX_r, vX_l, vX_j, reduceIte, h2, show ¬ K 3 ≤ (v : Int) by omega, e, not_true, show ¬ K 3 ≤ w by omega]
          exact ih'
        · simp (disch := (first | assumption | omega | exact Nat.le_of_ble_eq_true rfl | rfl)) only [w278_49, w278_50, w278_53, w278_54, w278_55, w278_58, w278_59, w278_60, w278_63, w278_66, w278_67, w278_68, Ko_n, Ko_v, vX_i, vX_r, vX_l, vX_j, reduceIte, h2, show ¬ K 3 ≤ (v : Int) by omega, e, not_false_eq_true]
          refine c234x h2 hv hB (by omega) (by omega) fun ρ g1 g2 g3 => ?_
          simp (disch := (first | assumption | omega | exact Nat.le_of_ble_eq_true rfl | rfl)) only [w278_71, w278_72, Ko_n, Ko_v, vX_i, vX_r, vX_l, vX_j, reduceIte]
          refine inner (nK K) 0 v ρ (by omega) (by omega) e (fq_t h1 (fr34_q g1 (by rw [h2, g2]))) g2 g3 (fun z z0 z1 => by omega) (fun z z0 z1 => by rw [g1 1226 382 (by omega) (by omega)]; exact h4 z (by omega) z1) fun ω l3 f1 f2 f3 => ?_
          simp (disch := (first | assumption | omega | exact Nat.le_of_ble_eq_true rfl | rfl)) only [w278_108, w278_111, Ko_n, Ko_v, vX_i, vX_r, vX_l, vX_j, reduceIte]
          exact ih (v + 1) ω l3 (by omega) f1 f2 f3
    have zeros : ∀ (m n : Nat) (τ : St), n + m = nK K → fq (upA σ 1204 382 fun _ => 0) τ → τ 1200 382 = K → (∀ z : Int, 0 ≤ z → z < n → τ 1226 382 z = hiR) → Wp (d + 6) M_X12_own 23 [.ref 382, .int (i32 w), .int (i32 n), vmJ, vmJ] [] (E T τ) Q := by
      intro m
      induction m with
      | zero =>
        intro n τ hn2 h1 h2 h4
        have hn2 : n = nK K := by omega
        subst hn2
        rw [w278_23]
        simp (disch := (first | assumption | omega | exact Nat.le_of_ble_eq_true rfl | rfl)) only [w278_24, w278_25, Ko_n, Ko_v, vX_i, vX_r, vX_l, vX_j, reduceIte]
        rw [c210 h2]
        simp (disch := (first | assumption | omega | exact Nat.le_of_ble_eq_true rfl | rfl)) only [w278_28, w278_31, w278_32, w278_35, w278_36, w278_39, w278_40, w278_43, w278_46, w278_47, Ko_n, Ko_v, vX_i, vX_r, vX_l, vX_j, reduceIte, hn, Int.le_refl]
        exact outer (K 3).toNat 0 τ _ (by omega) h1 h2 (fun z z0 z1 => h4 z z0 (by omega))
      | succ m ih =>
        intro n τ hn2 h1 h2 h4
        rw [w278_23]
        simp (disch := (first | assumption | omega | exact Nat.le_of_ble_eq_true rfl | rfl)) only [w278_24, w278_25, Ko_n, Ko_v, vX_i, vX_r, vX_l, vX_j, reduceIte]
        rw [c210 h2]
        simp (disch := (first | assumption | omega | exact Nat.le_of_ble_eq_true rfl | rfl)) only [w278_28, w278_31, w278_32, w278_35, w278_36, w278_39, w278_40, w278_43, Ko_n, Ko_v, vX_i, vX_r, vX_l, vX_j, reduceIte, show ¬ K 1 * K 2 ≤ (n : Int) by omega]
        refine ih (n + 1) _ (by omega) (fq_u h1 (by omega)) (by rw [upA_t (by omega)]; exact h2) (fun z z0 z1 => ?_)
        rw [upA_s]
        by_cases e : z = n
        · rw [e, fu_s]; rfl
        · rw [fu_n e]; exact h4 z z0 (by omega)
    simp (disch := (first | assumption | omega | exact Nat.le_of_ble_eq_true rfl | rfl)) only [w278_11, w278_14, w278_15, w278_16, w278_19, w278_20, w278_21, w278_22, Ko_n, Ko_v, vX_i, vX_r, vX_l, vX_j, reduceIte, Int.reduceEq, not_false_eq_true]
    exact zeros (nK K) 0 _ (by omega) fq_r (kU 0) (fun z z0 z1 => by omega)
  · rw [if_neg a]
    simp (disch := (first | assumption | omega | exact Nat.le_of_ble_eq_true rfl | rfl)) only [w278_11, w278_14, w278_15, w278_16, Ko_n, Ko_v, vX_i, vX_r, vX_l, vX_j, reduceIte, not_true]
    rw [c175]
    simp (disch := (first | assumption | omega | exact Nat.le_of_ble_eq_true rfl | rfl)) only [w278_19, w278_20, Ko_n, Ko_v, vX_i, vX_r, vX_l, vX_j, reduceIte, upA_upA]
    exact hQ1 a _ (fU _) (kU _) (sU _)
