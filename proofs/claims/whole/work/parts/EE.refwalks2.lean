/-! ===== the reference: through, tells, maybe ===== -/
theorem fr88_t {σ τ ρ : St} (h1 : fr88 σ τ) (h2 : fr88 τ ρ) : fr88 σ ρ := fun t o a b => (h2 t o a b).trans (h1 t o a b)
def thK (K : Int → Int) (w z : Int) (t : Nat) (x : Int) : Int64 := i64 (cmK K w (-1) t z : Nat) - i64 (cmK K w x t z : Nat)
theorem c294 {d t : Nat} {k w z x B : Int} {K : Int → Int} {T : Tt} {σ : St} {Q : vmO → vmH → Prop} (hK : σ 1200 382 = K) (hv : kV K B) (hB : B < 900000000) (w0 : 0 ≤ w) (w1 : w < K 3) (z0 : 0 ≤ z) (z1 : z < K 1 * K 2) (ht : t ≤ 30) (v0 : 0 ≤ x) (v1 : x < K 1 * K 2)
    (hQ : ∀ τ, fr88 σ τ → Q (.inl (some (.long (thK K w z t x)))) (E T τ)) : Ca (d + 7) k 294 [.ref 382, .int (i32 w), .int (i32 z), .int (i32 t), .int (i32 x)] (E T σ) Q := by
  have h0 := ob_md
  have hm := wh_mul0 hv.1.1
  rw [n294 _ _ _ _ _ _ _ _ _ _ h0]
  simp (disch := (first | assumption | omega | exact Nat.le_of_ble_eq_true rfl | rfl)) only [w294_0, w294_1, w294_2, w294_3, w294_4, w294_6, Ko_n, Ko_v, vX_i, vX_r, vX_l, vX_j, reduceIte]
  refine c291 hK hv hB w0 w1 z0 z1 ht (by omega) (by omega) fun τ f1 => ?_
  simp (disch := (first | assumption | omega | exact Nat.le_of_ble_eq_true rfl | rfl)) only [w294_9, w294_11, w294_12, w294_13, w294_14, w294_15, w294_16, Ko_n, Ko_v, vX_i, vX_r, vX_l, vX_j, reduceIte]
  refine c291 (by rw [f1 1200 382 (by omega) (by omega)]; exact hK) hv hB w0 w1 z0 z1 ht (by omega) (by omega) fun τ2 f2 => ?_
  simp (disch := (first | assumption | omega | exact Nat.le_of_ble_eq_true rfl | rfl)) only [w294_19, w294_21, w294_22, Ko_n, Ko_v, vX_i, vX_r, vX_l, vX_j, reduceIte]
  exact hQ τ2 (fr88_t f1 f2)
theorem c295 {d : Nat} {k w z t x B : Int} {K : Int → Int} {T : Tt} {σ : St} {Q : vmO → vmH → Prop} (hK : σ 1200 382 = K) (hv : kV K B) (hB : B < 900000000) (x0 : -2147483648 ≤ w) (x1 : w < 2147483648) (y0 : -2147483648 ≤ z) (y1 : z < 2147483648) (u0 : -2147483648 ≤ t) (u1 : t < 2147483648) (q0 : -2147483648 ≤ x) (q1 : x < 2147483648)
    (hQ1 : ∀ u, ((¬ (wzI K w z ∧ (0 ≤ x ∧ x < K 1 * K 2)) ∧ u = 1) ∨ ((wzI K w z ∧ (0 ≤ x ∧ x < K 1 * K 2)) ∧ ¬ (0 ≤ t ∧ t ≤ 30) ∧ u = 2)) → ∀ τ, fT σ τ → τ 1200 382 = K → τ 1204 382 0 = u → Q (.inl (some (.long (i64 0)))) (E T τ))
    (hQ2 : (wzI K w z ∧ (0 ≤ x ∧ x < K 1 * K 2)) → (0 ≤ t ∧ t ≤ 30) → ∀ τ, fT σ τ → τ 1200 382 = K → τ 1204 382 0 = 0 → Q (.inl (some (.long (thK K w z t.toNat x)))) (E T τ)) : Ca (d + 8) k 295 [.ref 382, .int (i32 w), .int (i32 z), .int (i32 t), .int (i32 x)] (E T σ) Q := by
  have h0 := ob_md
  have kU : ∀ u, (upA σ 1204 382 fun _ => u) 1200 382 = K := fun u => by rw [upA_t (by omega)]; exact hK
  have fU : ∀ u, fT σ (upA σ 1204 382 fun _ => u) := fun u => fT_u fT_r (by omega)
  have sU : ∀ u, (upA σ 1204 382 fun _ => u) 1204 382 0 = u := fun u => by rw [upA_s]
  have bad : ¬ (wzI K w z ∧ (0 ≤ x ∧ x < K 1 * K 2)) → Wp (d + 8) M_X12_through 49 [.ref 382, .int (i32 w), .int (i32 z), .int (i32 t), .int (i32 x)] [.ref 382] (E T σ) Q := by
    intro a
    simp (disch := (first | assumption | omega | exact Nat.le_of_ble_eq_true rfl | rfl)) only [w295_49, w295_50, w295_53, w295_54, w295_57, w295_60, w295_61, w295_64, w295_65, w295_66, w295_67, w295_68, w295_70, w295_73, Ko_n, Ko_v, vX_i, vX_r, vX_l, vX_j, reduceIte, upA_s, show ¬ (1 : Int) ≤ 0 by omega]
    exact hQ1 1 (Or.inl ⟨a, rfl⟩) _ (fU _) (kU _) (sU _)
  rw [n295 _ _ _ _ _ _ _ _ _ _ h0]
  simp (disch := (first | assumption | omega | exact Nat.le_of_ble_eq_true rfl | rfl)) only [w295_0, w295_1, w295_2, w295_3, w295_4, Ko_n, Ko_v, vX_i, vX_r, vX_l, vX_j, reduceIte]
  rw [c215 hK hv (by omega) (by omega)]
  by_cases a1 : 0 ≤ w ∧ w < K 3
  · simp (disch := (first | assumption | omega | exact Nat.le_of_ble_eq_true rfl | rfl)) only [w295_7, w295_10, w295_11, w295_12, w295_13, Ko_n, Ko_v, vX_i, vX_r, vX_l, vX_j, reduceIte, a1, and_self, Int.reduceEq]
    rw [c214 hK hv (by omega) (by omega)]
    by_cases a2 : 0 ≤ z ∧ z < K 1 * K 2
    · simp (disch := (first | assumption | omega | exact Nat.le_of_ble_eq_true rfl | rfl)) only [w295_16, w295_19, w295_20, w295_22, w295_23, Ko_n, Ko_v, vX_i, vX_r, vX_l, vX_j, reduceIte, a2, and_self, Int.reduceEq]
      rw [c214 hK hv (by omega) (by omega)]
      by_cases a3 : 0 ≤ x ∧ x < K 1 * K 2
      · simp (disch := (first | assumption | omega | exact Nat.le_of_ble_eq_true rfl | rfl)) only [w295_26, w295_29, w295_30, w295_31, w295_32, w295_35, Ko_n, Ko_v, vX_i, vX_r, vX_l, vX_j, reduceIte, a3, and_self, Int.reduceEq]
        rw [c176 (by omega) (by omega) (by omega) (by omega) (by omega) (by omega) (by omega)]
        by_cases b : 0 ≤ t ∧ t ≤ 30
        · have hq := hQ2 ⟨⟨a1, a2⟩, a3⟩ b
          obtain ⟨n, rfl⟩ : ∃ n : Nat, t = (n : Int) := ⟨t.toNat, by omega⟩
          rw [show ((n : Nat) : Int).toNat = n by omega] at hq
          simp (disch := (first | assumption | omega | exact Nat.le_of_ble_eq_true rfl | rfl)) only [w295_38, w295_41, w295_42, w295_45, w295_46, w295_49, w295_50, w295_53, w295_54, w295_57, w295_60, w295_61, w295_64, w295_65, w295_66, w295_67, w295_68, w295_70, Ko_n, Ko_v, vX_i, vX_r, vX_l, vX_j, reduceIte, b, and_self, Int.reduceEq, upA_s, Int.le_refl]
          refine c294 (kU 0) hv hB a1.1 a1.2 a2.1 a2.2 (by omega) a3.1 a3.2 fun τ f => ?_
          have ft := fr88_T f
          simp (disch := (first | assumption | omega | exact Nat.le_of_ble_eq_true rfl | rfl)) only [w295_73, Ko_n, Ko_v, vX_i, vX_r, vX_l, vX_j, reduceIte]
          exact hq τ ft.1 (by rw [f 1200 382 (by omega) (by omega)]; exact kU 0) ft.2
        · simp (disch := (first | assumption | omega | exact Nat.le_of_ble_eq_true rfl | rfl)) only [w295_38, w295_41, w295_42, w295_45, w295_46, w295_49, w295_50, w295_53, w295_54, w295_57, w295_60, w295_61, w295_64, w295_65, w295_66, w295_67, w295_68, w295_70, w295_73, Ko_n, Ko_v, vX_i, vX_r, vX_l, vX_j, reduceIte, b, upA_s, show ¬ (2 : Int) ≤ 0 by omega]
          exact hQ1 2 (Or.inr ⟨⟨⟨a1, a2⟩, a3⟩, b, rfl⟩) _ (fU _) (kU _) (sU _)
      · simp (disch := (first | assumption | omega | exact Nat.le_of_ble_eq_true rfl | rfl)) only [w295_26, w295_29, w295_30, w295_31, w295_32, w295_35, w295_38, w295_41, w295_42, w295_45, w295_46, Ko_n, Ko_v, vX_i, vX_r, vX_l, vX_j, reduceIte, a3]
        exact bad (fun h => a3 h.2)
    · simp (disch := (first | assumption | omega | exact Nat.le_of_ble_eq_true rfl | rfl)) only [w295_16, w295_19, w295_20, w295_22, w295_23, w295_26, w295_29, w295_30, w295_31, w295_32, w295_35, w295_38, w295_41, w295_42, w295_45, w295_46, Ko_n, Ko_v, vX_i, vX_r, vX_l, vX_j, reduceIte, a2]
      exact bad (fun h => a2 h.1.2)
  · simp (disch := (first | assumption | omega | exact Nat.le_of_ble_eq_true rfl | rfl)) only [w295_7, w295_10, w295_11, w295_12, w295_13, w295_16, w295_19, w295_20, w295_22, w295_23, w295_26, w295_29, w295_30, w295_31, w295_32, w295_35, w295_38, w295_41, w295_42, w295_45, w295_46, Ko_n, Ko_v, vX_i, vX_r, vX_l, vX_j, reduceIte, a1]
    exact bad (fun h => a1 h.1.1)
theorem c296 {d : Nat} {k w z t B : Int} {K : Int → Int} {T : Tt} {σ : St} {Q : vmO → vmH → Prop} (hK : σ 1200 382 = K) (hv : kV K B) (hB : B < 900000000) (x0 : -2147483648 ≤ w) (x1 : w < 2147483648) (y0 : -2147483648 ≤ z) (y1 : z < 2147483648) (u0 : -2147483648 ≤ t) (u1 : t < 2147483648)
    (hQ1 : ∀ u, ((¬ wzI K w z ∧ u = 1) ∨ (wzI K w z ∧ ¬ (0 ≤ t ∧ t ≤ 30) ∧ u = 2)) → ∀ τ, fT σ τ → τ 1200 382 = K → τ 1204 382 0 = u → Q (.inl (some (.int (i32 0)))) (E T τ))
    (hQ2 : wzI K w z → (0 ≤ t ∧ t ≤ 30) → ∀ τ, fT σ τ → τ 1200 382 = K → τ 1204 382 0 = 0 → Q (.inl (some (.int (i32 (if i64 (cmK K w (-1) t.toNat z : Nat) = i64 0 then -1 else (tlI (i64 (cmK K w (-1) t.toNat z : Nat)) (thK K w z t.toNat) (nK K)).2))))) (E T τ)) : Ca (d + 8) k 296 [.ref 382, .int (i32 w), .int (i32 z), .int (i32 t)] (E T σ) Q := by
  have h0 := ob_md
  have hm := wh_mul0 hv.1.1
  have hN := nK_c hv.1
  have kU : ∀ u, (upA σ 1204 382 fun _ => u) 1200 382 = K := fun u => by rw [upA_t (by omega)]; exact hK
  have fU : ∀ u, fT σ (upA σ 1204 382 fun _ => u) := fun u => fT_u fT_r (by omega)
  have sU : ∀ u, (upA σ 1204 382 fun _ => u) 1204 382 0 = u := fun u => by rw [upA_s]
  rw [n296 _ _ _ _ _ _ _ _ _ h0]
  simp (disch := (first | assumption | omega | exact Nat.le_of_ble_eq_true rfl | rfl)) only [w296_0, w296_1, w296_2, w296_3, w296_4, Ko_n, Ko_v, vX_i, vX_r, vX_l, vX_j, reduceIte]
  refine c290 hK hv x0 x1 y0 y1 u0 u1 (fun u hu => ?_) (fun a b => ?_)
  · simp (disch := (first | assumption | omega | exact Nat.le_of_ble_eq_true rfl | rfl)) only [w296_7, w296_10, w296_11, Ko_n, Ko_v, vX_i, vX_r, vX_l, vX_j, reduceIte, Int.reduceEq]
    exact hQ1 u hu _ (fU u) (kU u) (sU u)
  · have hq := hQ2 a b
    obtain ⟨⟨w0, w1⟩, z0, z1⟩ := a
    obtain ⟨n, rfl⟩ : ∃ n : Nat, t = (n : Int) := ⟨t.toNat, by omega⟩
    rw [show ((n : Nat) : Int).toNat = n by omega] at hq
    have n30 : n ≤ 30 := by omega
    have h2 := (kV_w hv w0 w1).1
    have cb := cm_30 (c := prK K w) (a := K (79 + w)) (av := -1) h2 n30 z0 z1
    have cle := i64_le (u := (cmK K w (-1) n z : Nat)) (v := 0) (by omega) (by unfold cmK; omega) (by omega) (by omega)
    have ceq := i64_eq (u := (cmK K w (-1) n z : Nat)) (v := 0) (by omega) (by unfold cmK; omega) (by omega) (by omega)
    simp (disch := (first | assumption | omega | exact Nat.le_of_ble_eq_true rfl | rfl)) only [w296_7, w296_10, w296_11, w296_12, w296_13, w296_14, w296_15, w296_16, w296_17, Ko_n, Ko_v, vX_i, vX_r, vX_l, vX_j, reduceIte]
    refine c291 (kU 0) hv hB w0 w1 z0 z1 n30 (by omega) (by omega) fun τ1 f1 => ?_
    have ft := fr88_T f1
    have fin : ∀ τ, fr88 (upA σ 1204 382 fun _ => 0) τ → ∀ (r : Int) (L7 l8 l9 l10 l11 l12 l13 : Value), r = (if i64 (cmK K w (-1) n z : Nat) = i64 0 then -1 else (tlI (i64 (cmK K w (-1) n z : Nat)) (thK K w z n) (nK K)).2) → Wp (d + 8) M_X12_tells 97 [.ref 382, .int (i32 w), .int (i32 z), .int (i32 n), .long (i64 (cmK K w (-1) n z : Nat)), vmJ, .int (i32 r), L7, l8, l9, l10, l11, l12, l13] [] (E T τ) Q := by
      intro τ f r L7 l8 l9 l10 l11 l12 l13 hr
      have ft := fr88_T f
      have q := hq τ ft.1 (by rw [f 1200 382 (by omega) (by omega)]; exact kU 0) ft.2
      rw [← hr] at q
      simp (disch := (first | assumption | omega | exact Nat.le_of_ble_eq_true rfl | rfl)) only [w296_97, w296_99, Ko_n, Ko_v, vX_i, vX_r, vX_l, vX_j, reduceIte]
      exact q
    by_cases e0 : cmK K w (-1) n z = 0
    · have fe := fun L7 l8 l9 l10 l11 l12 l13 => fin τ1 f1 (-1) L7 l8 l9 l10 l11 l12 l13 (by rw [if_pos (ceq.mpr (by omega))])
      simp (disch := (first | assumption | omega | exact Nat.le_of_ble_eq_true rfl | rfl)) only [w296_20, w296_22, w296_23, w296_25, w296_28, w296_30, w296_31, Ko_n, Ko_v, vX_i, vX_r, vX_l, vX_j, reduceIte]
      have kt : τ1 1200 382 = K := by rw [f1 1200 382 (by omega) (by omega)]; exact kU 0
      rw [w296_33]
      simp (disch := (first | assumption | omega | exact Nat.le_of_ble_eq_true rfl | rfl)) only [w296_35, w296_36, Ko_n, Ko_v, vX_i, vX_r, vX_l, vX_j, reduceIte]
      rw [c210 kt]
      by_cases e1 : K 1 * K 2 ≤ 0
      · simp (disch := (first | assumption | omega | exact Nat.le_of_ble_eq_true rfl | rfl)) only [w296_39, Ko_n, Ko_v, vX_i, vX_r, vX_l, vX_j, reduceIte, e1]
        exact fe _ _ _ _ _ _ _
      · simp (disch := (first | assumption | omega | exact Nat.le_of_ble_eq_true rfl | rfl)) only [w296_39, w296_42, w296_44, w296_45, Ko_n, Ko_v, vX_i, vX_r, vX_l, vX_j, reduceIte, e1, cle.mpr (by omega)]
        exact fe _ _ _ _ _ _ _
    · have nle : ¬ i64 (cmK K w (-1) n z : Nat) ≤ i64 0 := fun h => e0 (by have := cle.mp h; omega)
      have neq : ¬ i64 (cmK K w (-1) n z : Nat) = i64 0 := fun h => e0 (by have := ceq.mp h; omega)
      have loop : ∀ (m i : Nat) (τ : St) (l10 l11 l12 l13 : Value), i + m = nK K → fr88 (upA σ 1204 382 fun _ => 0) τ → Wp (d + 8) M_X12_tells 33 [.ref 382, .int (i32 w), .int (i32 z), .int (i32 n), .long (i64 (cmK K w (-1) n z : Nat)), vmJ, .int (i32 (tlI (i64 (cmK K w (-1) n z : Nat)) (thK K w z n) i).2), .long (tlI (i64 (cmK K w (-1) n z : Nat)) (thK K w z n) i).1, vmJ, .int (i32 i), l10, l11, l12, l13] [] (E T τ) Q := by
        intro m
        induction m with
        | zero =>
          intro i τ l10 l11 l12 l13 hi f
          have hi : i = nK K := by omega
          subst hi
          have kt : τ 1200 382 = K := by rw [f 1200 382 (by omega) (by omega)]; exact kU 0
          have fe := fun L7 l8 l9 l10 l11 l12 l13 => fin τ f _ L7 l8 l9 l10 l11 l12 l13 (by rw [if_neg neq])
          rw [w296_33]
          simp (disch := (first | assumption | omega | exact Nat.le_of_ble_eq_true rfl | rfl)) only [w296_35, w296_36, Ko_n, Ko_v, vX_i, vX_r, vX_l, vX_j, reduceIte]
          rw [c210 kt]
          simp (disch := (first | assumption | omega | exact Nat.le_of_ble_eq_true rfl | rfl)) only [w296_39, w296_42, w296_44, w296_45, Ko_n, Ko_v, vX_i, vX_r, vX_l, vX_j, reduceIte, hN, Int.le_refl]
          exact fe _ _ _ _ _ _ _
        | succ m ih =>
          intro i τ l10 l11 l12 l13 hi f
          have kt : τ 1200 382 = K := by rw [f 1200 382 (by omega) (by omega)]; exact kU 0
          have ih' := fun τ l10 l11 l12 l13 => ih (i + 1) τ l10 l11 l12 l13 (by omega)
          rw [show ((i + 1 : Nat) : Int) = (i : Int) + 1 by omega, show tlI (i64 (cmK K w (-1) n z : Nat)) (thK K w z n) (i + 1) = if (if i64 (cmK K w (-1) n z : Nat) - thK K w z n i < thK K w z n i then i64 (cmK K w (-1) n z : Nat) - thK K w z n i else thK K w z n i) ≤ (tlI (i64 (cmK K w (-1) n z : Nat)) (thK K w z n) i).1 then tlI (i64 (cmK K w (-1) n z : Nat)) (thK K w z n) i else ((if i64 (cmK K w (-1) n z : Nat) - thK K w z n i < thK K w z n i then i64 (cmK K w (-1) n z : Nat) - thK K w z n i else thK K w z n i), (i : Int)) from rfl] at ih'
          rw [w296_33]
          simp (disch := (first | assumption | omega | exact Nat.le_of_ble_eq_true rfl | rfl)) only [w296_35, w296_36, Ko_n, Ko_v, vX_i, vX_r, vX_l, vX_j, reduceIte]
          rw [c210 kt]
          simp (disch := (first | assumption | omega | exact Nat.le_of_ble_eq_true rfl | rfl)) only [w296_39, w296_42, w296_44, w296_45, w296_49, w296_50, w296_51, w296_52, w296_53, w296_55, Ko_n, Ko_v, vX_i, vX_r, vX_l, vX_j, reduceIte, show ¬ K 1 * K 2 ≤ (i : Int) by omega, nle]
          refine c294 kt hv hB w0 w1 z0 z1 n30 (by omega) (by omega) fun τ2 f2 => ?_
          have f3 := fr88_t f f2
          simp (disch := (first | assumption | omega | exact Nat.le_of_ble_eq_true rfl | rfl)) only [w296_58, w296_60, w296_62, w296_64, w296_66, w296_67, w296_70, w296_72, w296_74, Ko_n, Ko_v, vX_i, vX_r, vX_l, vX_j, reduceIte]
          generalize (if i64 (cmK K w (-1) n z : Nat) - thK K w z n i < thK K w z n i then i64 (cmK K w (-1) n z : Nat) - thK K w z n i else thK K w z n i) = v at ih' ⊢
          generalize tlI (i64 (cmK K w (-1) n z : Nat)) (thK K w z n) i = y at ih' ⊢
          by_cases e : v ≤ y.1
          · rw [if_pos e] at ih'
            have ne : ¬ y.1 < v := fun h => Int64.not_lt.mpr e h
            simp (disch := (first | assumption | omega | exact Nat.le_of_ble_eq_true rfl | rfl)) only [w296_76, w296_80, w296_83, w296_85, w296_87, w296_89, w296_91, w296_94, Ko_n, Ko_v, vX_i, vX_r, vX_l, vX_j, reduceIte, ne]
            exact ih' _ _ _ _ _ f3
          · rw [if_neg e] at ih'
            have ne : y.1 < v := Int64.not_le.mp e
            simp (disch := (first | assumption | omega | exact Nat.le_of_ble_eq_true rfl | rfl)) only [w296_76, w296_80, w296_83, w296_85, w296_87, w296_89, w296_91, w296_94, Ko_n, Ko_v, vX_i, vX_r, vX_l, vX_j, reduceIte, ne]
            exact ih' _ _ _ _ _ f3
      simp (disch := (first | assumption | omega | exact Nat.le_of_ble_eq_true rfl | rfl)) only [w296_20, w296_22, w296_23, w296_25, w296_28, w296_30, w296_31, Ko_n, Ko_v, vX_i, vX_r, vX_l, vX_j, reduceIte]
      exact loop (nK K) 0 τ1 _ _ _ _ (by omega) f1
def myB (K : Int → Int) (w : Int) (t : Nat) : Int → Bool := fun k => decide ((0 ≤ k ∧ k < K 1 * K 2) ∧ 0 < cmK K w (-1) t k)
theorem c297 {d : Nat} {k w t B : Int} {K : Int → Int} {T : Tt} {σ : St} {Q : vmO → vmH → Prop} (hK : σ 1200 382 = K) (hv : kV K B) (hB : B < 900000000) (x0 : -2147483648 ≤ w) (x1 : w < 2147483648) (u0 : -2147483648 ≤ t) (u1 : t < 2147483648)
    (hQ1 : ∀ u, ((¬ (0 ≤ w ∧ w < K 3) ∧ u = 1) ∨ ((0 ≤ w ∧ w < K 3) ∧ ¬ (0 ≤ t ∧ t ≤ 30) ∧ u = 2)) → ∀ τ, fT σ τ → τ 1200 382 = K → τ 1204 382 0 = u → Q (.inl (some (.long (i64 0)))) (E T τ))
    (hQ2 : (0 ≤ w ∧ w < K 3) → (0 ≤ t ∧ t ≤ 30) → ∀ τ, fT σ τ → τ 1200 382 = K → τ 1204 382 0 = 0 → Q (.inl (some (.long (bs (myB K w t.toNat))))) (E T τ)) : Ca (d + 8) k 297 [.ref 382, .int (i32 w), .int (i32 t)] (E T σ) Q := by
  have h0 := ob_md
  have hm := wh_mul0 hv.1.1
  have kU : ∀ u, (upA σ 1204 382 fun _ => u) 1200 382 = K := fun u => by rw [upA_t (by omega)]; exact hK
  have fU : ∀ u, fT σ (upA σ 1204 382 fun _ => u) := fun u => fT_u fT_r (by omega)
  have sU : ∀ u, (upA σ 1204 382 fun _ => u) 1204 382 0 = u := fun u => by rw [upA_s]
  rw [n297 _ _ _ _ _ _ _ _ h0]
  simp (disch := (first | assumption | omega | exact Nat.le_of_ble_eq_true rfl | rfl)) only [w297_0, w297_1, w297_2, w297_3, w297_4, Ko_n, Ko_v, vX_i, vX_r, vX_l, vX_j, reduceIte]
  rw [c215 hK hv (by omega) (by omega)]
  by_cases a : 0 ≤ w ∧ w < K 3
  · simp (disch := (first | assumption | omega | exact Nat.le_of_ble_eq_true rfl | rfl)) only [w297_7, w297_10, w297_11, w297_14, w297_15, w297_16, w297_17, w297_20, Ko_n, Ko_v, vX_i, vX_r, vX_l, vX_j, reduceIte, a, and_self, Int.reduceEq, not_false_eq_true]
    rw [c176 (by omega) (by omega) (by omega) (by omega) (by omega) (by omega) (by omega)]
    by_cases b : 0 ≤ t ∧ t ≤ 30
    · have hq := hQ2 a b
      obtain ⟨w0, w1⟩ := a
      obtain ⟨n, rfl⟩ : ∃ n : Nat, t = (n : Int) := ⟨t.toNat, by omega⟩
      rw [show ((n : Nat) : Int).toNat = n by omega] at hq
      have n30 : n ≤ 30 := by omega
      have h2 := (kV_w hv w0 w1).1
      simp (disch := (first | assumption | omega | exact Nat.le_of_ble_eq_true rfl | rfl)) only [w297_23, w297_26, w297_27, w297_30, w297_31, w297_34, w297_35, w297_38, w297_41, w297_42, w297_43, w297_44, w297_45, w297_46, w297_47, Ko_n, Ko_v, vX_i, vX_r, vX_l, vX_j, reduceIte, b, and_self, Int.reduceEq, upA_s, Int.le_refl]
      conv => arg 1; rw [show d + 7 = (d + 2) + 5 from rfl]
      refine c288 (kU 0) hv hB w0 w1 n30 (by omega) (by omega) fun τ f1 f2 f3 => ?_
      have ft := fr88_T f1
      have kt : τ 1200 382 = K := by rw [f1 1200 382 (by omega) (by omega)]; exact kU 0
      have q := hq τ ft.1 kt ft.2
      have loop : ∀ (m i : Nat), (i : Int) + m = K 1 * K 2 → Wp (d + 8) M_X12_maybe 55 [.ref 382, .int (i32 w), .int (i32 n), .long (bsN (myB K w n) i), vmJ, .int (i32 i)] [] (E T τ) Q := by
        intro m
        induction m with
        | zero =>
          intro i hi
          have hi' : (i : Int) = K 1 * K 2 := by omega
          rw [w297_55]
          simp (disch := (first | assumption | omega | exact Nat.le_of_ble_eq_true rfl | rfl)) only [w297_57, w297_58, Ko_n, Ko_v, vX_i, vX_r, vX_l, vX_j, reduceIte]
          rw [c210 kt]
          simp (disch := (first | assumption | omega | exact Nat.le_of_ble_eq_true rfl | rfl)) only [w297_61, w297_64, w297_65, w297_66, w297_69, w297_71, w297_72, w297_73, w297_75, w297_76, w297_77, w297_78, w297_82, w297_83, w297_85, w297_86, w297_89, w297_90, w297_91, w297_92, w297_95, w297_98, w297_99, Ko_n, Ko_v, vX_i, vX_r, vX_l, vX_j, reduceIte, hi', Int.le_refl]
          rw [bsN_e (p := myB K w n) (n := K 1 * K 2) (fun k h _ => decide_eq_false (by omega))]
          exact q
        | succ m ih =>
          intro i hi
          have ih' := ih (i + 1) (by omega)
          rw [show ((i + 1 : Nat) : Int) = (i : Int) + 1 by omega] at ih'
          have cI := f3 n (Nat.le_refl n) i (by omega) (by omega)
          have cb := cm_30 (c := prK K w) (a := K (79 + w)) (av := -1) h2 n30 (k := i) (by omega) (by omega)
          have cle := i64_le (u := (cmK K w (-1) n i : Nat)) (v := 0) (by omega) (by unfold cmK; omega) (by omega) (by omega)
          rw [w297_55]
          simp (disch := (first | assumption | omega | exact Nat.le_of_ble_eq_true rfl | rfl)) only [w297_57, w297_58, Ko_n, Ko_v, vX_i, vX_r, vX_l, vX_j, reduceIte]
          rw [c210 kt]
          by_cases e1 : cmK K w (-1) n i = 0
          · rw [← bsN_f (p := myB K w n) (decide_eq_false (fun h => by omega))] at ih'
            simp (disch := (first | assumption | omega | exact Nat.le_of_ble_eq_true rfl | rfl)) only [w297_61, w297_64, w297_65, w297_66, w297_69, w297_71, w297_72, w297_73, w297_75, w297_76, w297_77, w297_78, w297_82, w297_83, w297_85, w297_86, w297_89, w297_90, w297_91, w297_92, w297_95, Ko_n, Ko_v, vX_i, vX_r, vX_l, vX_j, reduceIte, show ¬ K 1 * K 2 ≤ (i : Int) by omega, cI, cle.mpr (by omega)]
            exact ih'
          · rw [← bsN_t (p := myB K w n) (by omega) (by omega) (decide_eq_true ⟨⟨by omega, by omega⟩, by omega⟩)] at ih'
            have nc : ¬ i64 (cmK K w (-1) n i : Nat) ≤ i64 0 := fun h => e1 (by have := cle.mp h; omega)
            simp (disch := (first | assumption | omega | exact Nat.le_of_ble_eq_true rfl | rfl)) only [w297_61, w297_64, w297_65, w297_66, w297_69, w297_71, w297_72, w297_73, w297_75, w297_76, w297_77, w297_78, w297_82, w297_83, w297_85, w297_86, w297_89, w297_90, w297_91, w297_92, w297_95, Ko_n, Ko_v, vX_i, vX_r, vX_l, vX_j, reduceIte, show ¬ K 1 * K 2 ≤ (i : Int) by omega, cI, nc]
            exact ih'
      have l0 := loop (K 1 * K 2).toNat 0 (by omega)
      rw [show bsN (myB K w n) ((0 : Nat) : Int) = i64 0 from bsN_0.symm] at l0
      simp (disch := (first | assumption | omega | exact Nat.le_of_ble_eq_true rfl | rfl)) only [w297_50, w297_51, w297_52, w297_53, Ko_n, Ko_v, vX_i, vX_r, vX_l, vX_j, reduceIte]
      exact l0
    · simp (disch := (first | assumption | omega | exact Nat.le_of_ble_eq_true rfl | rfl)) only [w297_23, w297_26, w297_27, w297_30, w297_31, w297_34, w297_35, w297_38, w297_41, w297_42, Ko_n, Ko_v, vX_i, vX_r, vX_l, vX_j, reduceIte, b, upA_s, show ¬ (2 : Int) ≤ 0 by omega]
      exact hQ1 2 (Or.inr ⟨a, b, rfl⟩) _ (fU _) (kU _) (sU _)
  · simp (disch := (first | assumption | omega | exact Nat.le_of_ble_eq_true rfl | rfl)) only [w297_7, w297_10, w297_11, w297_14, w297_15, w297_16, w297_17, w297_20, w297_23, w297_26, w297_27, w297_30, w297_31, w297_34, w297_35, w297_38, w297_41, w297_42, Ko_n, Ko_v, vX_i, vX_r, vX_l, vX_j, reduceIte, a, not_true, upA_s, show ¬ (1 : Int) ≤ 0 by omega]
    exact hQ1 1 (Or.inl ⟨a, rfl⟩) _ (fU _) (kU _) (sU _)
