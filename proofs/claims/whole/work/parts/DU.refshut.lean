/-! ===== the reference: shutOff ===== -/
theorem c281 {d : Nat} {k a t : Int} {K : Int → Int} {T : Tt} {σ : St} {Q : vmO → vmH → Prop} (hK : σ 1200 382 = K) (h : wh2 (K 1) (K 2)) (a0 : 0 ≤ a) (a1 : a < K 1 * K 2) (t0 : 0 ≤ t) (t1 : t < K 1 * K 2)
    (hQ1 : (∃ e : Int, 0 ≤ e ∧ e < 4 ∧ bsC (K 1) (K 2) a e = t) → Q (.inl (some (.int (i32 1)))) (E T σ)) (hQ0 : (¬ ∃ e : Int, 0 ≤ e ∧ e < 4 ∧ bsC (K 1) (K 2) a e = t) → Q (.inl (some (.int (i32 0)))) (E T σ)) : Ca (d + 2) k 281 [.ref 382, .int (i32 a), .int (i32 t)] (E T σ) Q := by
  have h0 := ob_md
  have hm := wh_mul h
  rw [n281 _ _ _ _ _ _ _ _ h0]
  have loop : ∀ (m e : Nat), e + m = 4 → (∀ j : Int, 0 ≤ j → j < e → bsC (K 1) (K 2) a j ≠ t) → Wp (d + 2) M_X12_areBeside 2 [.ref 382, .int (i32 a), .int (i32 t), .int (i32 e)] [] (E T σ) Q := by
    intro m
    induction m with
    | zero =>
      intro e he hj
      have he : e = 4 := by omega
      subst he
      have q0 := hQ0 (fun ⟨j, j0, j1, j2⟩ => hj j j0 (by omega) j2)
      rw [w281_2]
      simp (disch := (first | assumption | omega | exact Nat.le_of_ble_eq_true rfl | rfl)) only [w281_3, w281_4, w281_7, w281_8, w281_9, w281_10, w281_13, w281_14, w281_17, w281_18, w281_19, w281_22, w281_25, w281_26, Ko_n, Ko_v, vX_i, vX_r, vX_l, vX_j, reduceIte, show (4 : Int) ≤ ((4 : Nat) : Int) by omega]
      exact q0
    | succ m ih =>
      intro e he hj
      have hb := bsC_in (e := (e : Int)) h a0 a1
      rw [w281_2]
      simp (disch := (first | assumption | omega | exact Nat.le_of_ble_eq_true rfl | rfl)) only [w281_3, w281_4, w281_7, w281_8, w281_9, w281_10, Ko_n, Ko_v, vX_i, vX_r, vX_l, vX_j, reduceIte, show ¬ (4 : Int) ≤ (e : Int) by omega]
      rw [c219 hK h a0 a1 (by omega) (by omega)]
      by_cases x : bsC (K 1) (K 2) a e = t
      · have q1 := hQ1 ⟨e, by omega, by omega, x⟩
        simp (disch := (first | assumption | omega | exact Nat.le_of_ble_eq_true rfl | rfl)) only [w281_13, w281_14, w281_17, w281_18, w281_19, w281_22, w281_25, w281_26, Ko_n, Ko_v, vX_i, vX_r, vX_l, vX_j, reduceIte, x, not_true]
        exact q1
      · simp (disch := (first | assumption | omega | exact Nat.le_of_ble_eq_true rfl | rfl)) only [w281_13, w281_14, w281_17, w281_18, w281_19, w281_22, Ko_n, Ko_v, vX_i, vX_r, vX_l, vX_j, reduceIte, x, not_false_eq_true]
        refine ih (e + 1) (by omega) (fun j j0 j1 => ?_)
        by_cases ej : j = e
        · rw [ej]; exact x
        · exact hj j j0 (by omega)
  simp (disch := (first | assumption | omega | exact Nat.le_of_ble_eq_true rfl | rfl)) only [w281_0, w281_1, Ko_n, Ko_v, vX_i, vX_r, vX_l, vX_j, reduceIte]
  exact loop 4 0 (by omega) (fun j j0 j1 => by omega)
/-- so many more cells, from a place on, can shut one off -/
def shS (K : Int → Int) (w t : Int) : Nat → (Int → Bool) → Int → Prop
  | 0, p, _ => ¬ dD (K 1) (K 2) (shC (prK K w) p) (K (79 + w)) (nK K) t < far
  | l + 1, p, f => ∃ n : Int, f ≤ n ∧ n < K 1 * K 2 ∧ n ≠ t ∧ n ≠ K (79 + w) ∧ shS K w t l (fun k => p k || decide (k = n)) (n + 1)
theorem c280 {w t B : Int} {K : Int → Int} {T : Tt} (hv : kV K B) (hB : B < 900000000) (w0 : 0 ≤ w) (w1 : w < K 3) (t0 : 0 ≤ t) (t1 : t < K 1 * K 2) : ∀ (l : Nat) (d : Nat) (k : Int) (p : Int → Bool) (f : Int) (σ : St) (Q : vmO → vmH → Prop), l ≤ 4 → σ 1200 382 = K → p (K (79 + w)) = false → 0 ≤ f → f ≤ K 1 * K 2 → (shS K w t l p f → ∀ τ, fq σ τ → τ 1200 382 = K → Q (.inl (some (.int (i32 1)))) (E T τ)) → (¬ shS K w t l p f → ∀ τ, fq σ τ → τ 1200 382 = K → Q (.inl (some (.int (i32 0)))) (E T τ)) → Ca (d + 5 + l) k 280 [.ref 382, .int (i32 w), .int (i32 t), .long (bs p), .int (i32 f), .int (i32 l)] (E T σ) Q := by
  have h0 := ob_md
  have hfar : far = 1000000000 := rfl
  have hhi : hiR = 536870912 := rfl
  have hN := nK_c hv.1
  obtain ⟨h2, h5, h6, h7⟩ := kV_w hv w0 w1
  have hm := wh_mul h2
  have hc := prK_cs (w := w) hv.1 hv.2.1
  have ac : prK K w (K (79 + w)) ≠ -1 := fun e => h7 ((prK_w hv.2.1 h6.1 (by omega)).mp e)
  intro l
  induction l with
  | zero =>
    intro d k p f σ Q l4 hK hp f0 f1 q1 q0
    show Ca (d + 5) k 280 _ _ _
    rw [n280 _ _ _ _ _ _ _ _ _ _ _ h0]
    have hP : ∀ z, 0 ≤ z → z < K 1 * K 2 → (upA σ 1219 382 (cp (prR K w) (σ 1219 382) (K 1 * K 2))) 1219 382 z = rp (prK K w z) := fun z z0 z1 => by
      rw [upA_s]
      unfold cp
      rw [if_pos ⟨z0, z1⟩]
      exact prR_rp hv.2.1 (by omega) z0 (by omega)
    have kU : (upA σ 1219 382 (cp (prR K w) (σ 1219 382) (K 1 * K 2))) 1200 382 = K := by rw [upA_t (by omega)]; exact hK
    simp (disch := (first | assumption | omega | exact Nat.le_of_ble_eq_true rfl | rfl)) only [w280_0, w280_2, w280_5, w280_6, w280_7, Ko_n, Ko_v, vX_i, vX_r, vX_l, vX_j, reduceIte, show ((0 : Nat) : Int) = 0 by omega, not_true]
    rw [c231 hK hv hB (by omega) (by omega)]
    simp (disch := (first | assumption | omega | exact Nat.le_of_ble_eq_true rfl | rfl)) only [w280_10, w280_11, w280_12, w280_15, w280_17, w280_18, w280_19, w280_20, w280_21, w280_22, Ko_n, Ko_v, vX_i, vX_r, vX_l, vX_j, reduceIte, kU]
    refine c279 (N := nK K) (c := prK K w) kU h2 hN hc hP h6.1 h6.2 ac hp t0 t1 fun P D => ?_
    have fr : fq σ (upA (upA (upA σ 1219 382 (cp (prR K w) (σ 1219 382) (K 1 * K 2))) 1219 382 P) 1220 382 D) := fq_u (fq_u (fq_u fq_r (by omega)) (by omega)) (by omega)
    have kr : (upA (upA (upA σ 1219 382 (cp (prR K w) (σ 1219 382) (K 1 * K 2))) 1219 382 P) 1220 382 D) 1200 382 = K := by rw [upA_t (by omega), upA_t (by omega)]; exact kU
    have rb := rf_in (dD_bnd (z := K (79 + w)) h2 (shC_cs (p := p) hc) hN (k := t) t0 (by omega))
    by_cases e : dD (K 1) (K 2) (shC (prK K w) p) (K (79 + w)) (nK K) t < far
    · simp (disch := (first | assumption | omega | exact Nat.le_of_ble_eq_true rfl | rfl)) only [w280_25, w280_28, w280_31, w280_32, w280_35, w280_36, Ko_n, Ko_v, vX_i, vX_r, vX_l, vX_j, reduceIte, show rf (dD (K 1) (K 2) (shC (prK K w) p) (K (79 + w)) (nK K) t) < 536870912 by omega]
      exact q0 (fun x => x e) _ fr kr
    · simp (disch := (first | assumption | omega | exact Nat.le_of_ble_eq_true rfl | rfl)) only [w280_25, w280_28, w280_31, w280_32, w280_35, w280_36, Ko_n, Ko_v, vX_i, vX_r, vX_l, vX_j, reduceIte, show ¬ rf (dD (K 1) (K 2) (shC (prK K w) p) (K (79 + w)) (nK K) t) < 536870912 by omega, or_true]
      exact q1 e _ fr kr
  | succ l ih =>
    intro d k p f σ Q l4 hK hp f0 f1 q1 q0
    show Ca (d + 5 + l + 1) k 280 _ _ _
    rw [n280 _ _ _ _ _ _ _ _ _ _ _ h0]
    have loop : ∀ (m n : Nat) (τ : St), (n : Int) + m = K 1 * K 2 → f ≤ n → fq σ τ → τ 1200 382 = K → (∀ j : Int, f ≤ j → j < n → j ≠ t → j ≠ K (79 + w) → ¬ shS K w t l (fun k => p k || decide (k = j)) (j + 1)) → Wp (d + 5 + l + 1) M_X12_isShut 41 [.ref 382, .int (i32 w), .int (i32 t), .long (bs p), vmJ, .int (i32 f), .int (i32 ((l + 1 : Nat) : Int)), .int (i32 n)] [] (E T τ) Q := by
      intro m
      induction m with
      | zero =>
        intro n τ hn fn g1 g2 hno
        have hn : (n : Int) = K 1 * K 2 := by omega
        have q := q0 (fun ⟨j, j0, j1, j2, j3, j4⟩ => hno j j0 (by omega) j2 j3 j4) τ g1 g2
        rw [w280_41]
        simp (disch := (first | assumption | omega | exact Nat.le_of_ble_eq_true rfl | rfl)) only [w280_43, w280_44, Ko_n, Ko_v, vX_i, vX_r, vX_l, vX_j, reduceIte]
        rw [c210 g2]
        simp (disch := (first | assumption | omega | exact Nat.le_of_ble_eq_true rfl | rfl)) only [w280_47, w280_50, w280_52, w280_53, w280_56, w280_58, w280_59, w280_62, w280_64, w280_65, w280_66, w280_67, w280_70, w280_71, w280_72, w280_73, w280_74, w280_75, w280_77, w280_78, w280_79, w280_81, w280_82, w280_83, w280_85, w280_86, w280_87, w280_90, w280_93, w280_94, w280_95, w280_98, w280_101, w280_102, Ko_n, Ko_v, vX_i, vX_r, vX_l, vX_j, reduceIte, hn, Int.le_refl, true_or]
        exact q
      | succ m ihm =>
        intro n τ hn fn g1 g2 hno
        have next : (∀ j : Int, f ≤ j → j < n + 1 → j ≠ t → j ≠ K (79 + w) → ¬ shS K w t l (fun k => p k || decide (k = j)) (j + 1)) → ∀ τ, fq σ τ → τ 1200 382 = K → Wp (d + 5 + l + 1) M_X12_isShut 95 [.ref 382, .int (i32 w), .int (i32 t), .long (bs p), vmJ, .int (i32 f), .int (i32 ((l + 1 : Nat) : Int)), .int (i32 n)] [] (E T τ) Q := by
          intro hn2 τ g1 g2
          simp (disch := (first | assumption | omega | exact Nat.le_of_ble_eq_true rfl | rfl)) only [w280_95, w280_98, Ko_n, Ko_v, vX_i, vX_r, vX_l, vX_j, reduceIte]
          exact ihm (n + 1) τ (by omega) (by omega) g1 g2 (fun j j0 j1 => hn2 j j0 (by omega))
        rw [w280_41]
        simp (disch := (first | assumption | omega | exact Nat.le_of_ble_eq_true rfl | rfl)) only [w280_43, w280_44, Ko_n, Ko_v, vX_i, vX_r, vX_l, vX_j, reduceIte]
        rw [c210 g2]
        by_cases e1 : (n : Int) = t
        · simp (disch := (first | assumption | omega | exact Nat.le_of_ble_eq_true rfl | rfl)) only [w280_47, w280_50, w280_52, Ko_n, Ko_v, vX_i, vX_r, vX_l, vX_j, reduceIte, show ¬ K 1 * K 2 ≤ (n : Int) by omega]
          have nx := next (fun j j0 j1 j2 j3 => hno j j0 (by omega) j2 j3) τ g1 g2
          simp (disch := (first | assumption | omega | exact Nat.le_of_ble_eq_true rfl | rfl)) only [w280_53, w280_56, w280_58, w280_59, w280_62, w280_64, w280_65, w280_66, w280_67, w280_70, w280_71, w280_72, w280_73, w280_74, w280_75, w280_77, w280_78, w280_79, w280_81, w280_82, w280_83, w280_85, w280_86, w280_87, w280_90, w280_93, w280_94, Ko_n, Ko_v, vX_i, vX_r, vX_l, vX_j, reduceIte, e1]
          rw [e1] at nx
          exact nx
        · by_cases e2 : (n : Int) = K (79 + w)
          · simp (disch := (first | assumption | omega | exact Nat.le_of_ble_eq_true rfl | rfl)) only [w280_47, w280_50, w280_52, w280_53, w280_56, w280_58, w280_59, w280_62, w280_64, w280_65, w280_66, Ko_n, Ko_v, vX_i, vX_r, vX_l, vX_j, reduceIte, show ¬ K 1 * K 2 ≤ (n : Int) by omega, e1, g2]
            have nx := next (fun j j0 j1 j2 j3 => hno j j0 (by omega) j2 j3) τ g1 g2
            simp (disch := (first | assumption | omega | exact Nat.le_of_ble_eq_true rfl | rfl)) only [w280_67, w280_70, w280_71, w280_72, w280_73, w280_74, w280_75, w280_77, w280_78, w280_79, w280_81, w280_82, w280_83, w280_85, w280_86, w280_87, w280_90, w280_93, w280_94, Ko_n, Ko_v, vX_i, vX_r, vX_l, vX_j, reduceIte, e2]
            rw [e2] at nx
            exact nx
          · simp (disch := (first | assumption | omega | exact Nat.le_of_ble_eq_true rfl | rfl)) only [w280_47, w280_50, w280_52, w280_53, w280_56, w280_58, w280_59, w280_62, w280_64, w280_65, w280_66, w280_67, w280_70, w280_71, w280_72, w280_73, w280_74, w280_75, w280_77, w280_78, w280_79, w280_81, w280_82, w280_83, w280_85, w280_86, w280_87, Ko_n, Ko_v, vX_i, vX_r, vX_l, vX_j, reduceIte, show ¬ K 1 * K 2 ≤ (n : Int) by omega, e1, g2, e2, bs_add (show (0 : Int) ≤ (n : Int) by omega) (show (n : Int) < 64 by omega), show ((l + 1 : Nat) : Int) - 1 = (l : Int) by omega]
            refine ih d _ (fun k => p k || decide (k = (n : Int))) ((n : Int) + 1) τ _ (by omega) g2 (by rw [hp, decide_eq_false (fun x => e2 x.symm)]; rfl) (by omega) (by omega) (fun x ρ r1 r2 => ?_) (fun x ρ r1 r2 => ?_)
            · have q := q1 ⟨n, fn, by omega, e1, e2, x⟩ ρ (fq_t g1 r1) r2
              simp (disch := (first | assumption | omega | exact Nat.le_of_ble_eq_true rfl | rfl)) only [w280_90, w280_93, w280_94, Ko_n, Ko_v, vX_i, vX_r, vX_l, vX_j, reduceIte, Int.reduceEq, or_true]
              exact q
            · simp (disch := (first | assumption | omega | exact Nat.le_of_ble_eq_true rfl | rfl)) only [w280_90, w280_93, w280_94, Ko_n, Ko_v, vX_i, vX_r, vX_l, vX_j, reduceIte]
              refine next (fun j j0 j1 j2 j3 => ?_) ρ (fq_t g1 r1) r2
              by_cases ej : j = n
              · rw [ej]; exact x
              · exact hno j j0 (by omega) j2 j3
    have l0 := loop (K 1 * K 2 - f).toNat f.toNat σ (by omega) (by omega) fq_r hK (fun j j0 j1 => by omega)
    rw [show ((f.toNat : Nat) : Int) = f by omega] at l0
    simp (disch := (first | assumption | omega | exact Nat.le_of_ble_eq_true rfl | rfl)) only [w280_0, w280_2, w280_5, w280_6, w280_7, w280_10, w280_11, w280_12, w280_15, w280_17, w280_18, w280_19, w280_20, w280_21, w280_22, w280_25, w280_28, w280_31, w280_32, w280_35, w280_36, w280_37, w280_39, Ko_n, Ko_v, vX_i, vX_r, vX_l, vX_j, reduceIte, show ¬ ((l + 1 : Nat) : Int) = 0 by omega, not_false_eq_true]
    exact l0
