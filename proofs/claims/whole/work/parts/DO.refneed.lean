/-! ===== the reference: needed, dearest ===== -/
def shD (K : Int → Int) (w t z : Int) : Int := dD (K 1) (K 2) (shC (prK K w) (fun k => decide (k = z))) (K (79 + w)) (nK K) t
def ndR (K : Int → Int) (w t : Int) : Int → Bool := fun z => decide ((0 ≤ z ∧ z < K 1 * K 2) ∧ z ≠ K (79 + w) ∧ z ≠ t ∧ K (7 + z) ≠ 4 ∧ ¬ shD K w t z < far)
theorem shD_b {K : Int → Int} {B w t z : Int} (hv : kV K B) (w0 : 0 ≤ w) (w1 : w < K 3) (t0 : 0 ≤ t) (t1 : t < K 1 * K 2) : (0 ≤ shD K w t z ∧ shD K w t z ≤ 6516) ∨ shD K w t z = far := by
  have h2 := (kV_w hv w0 w1).1
  have hm := wh_mul h2
  exact dD_bnd h2 (shC_cs (prK_cs hv.1 hv.2.1)) (nK_c hv.1) t0 (by omega)
/-- prices laid, one cell shut: what it costs -/
theorem laySh {d : Nat} {k w t z B : Int} {K : Int → Int} {T : Tt} {σ : St} {Q : vmO → vmH → Prop} (hK : σ 1200 382 = K) (hv : kV K B) (hB : B < 900000000) (w0 : 0 ≤ w) (w1 : w < K 3) (t0 : 0 ≤ t) (t1 : t < K 1 * K 2) (z0 : 0 ≤ z) (z1 : z < K 1 * K 2) (hz : z ≠ K (79 + w)) (hQ : ∀ τ, fq σ τ → τ 1200 382 = K → Q (.inl (some (.int (i32 (rf (shD K w t z)))))) (E T τ)) : Ca (d + 3) k 279 [.ref 382, .int (i32 (K (79 + w))), .int (i32 t), .long (ll (i64 1) z)] (E T (upA σ 1219 382 (cp (prR K w) (σ 1219 382) (K 1 * K 2)))) Q := by
  obtain ⟨h2, h5, h6, h7⟩ := kV_w hv w0 w1
  have hm := wh_mul h2
  rw [bs_one z0 (by omega)]
  refine c279 (N := nK K) (c := prK K w) (by rw [upA_t (by omega)]; exact hK) h2 (nK_c hv.1) (prK_cs hv.1 hv.2.1) (fun j j0 j1 => ?_) h6.1 h6.2 (fun e => h7 ((prK_w hv.2.1 h6.1 (by omega)).mp e)) (decide_eq_false (fun e => hz e.symm)) t0 t1 fun P D => ?_
  · rw [upA_s]
    unfold cp
    rw [if_pos ⟨j0, j1⟩]
    exact prR_rp hv.2.1 (by omega) j0 (by omega)
  · exact hQ _ (fq_u (fq_u (fq_u fq_r (by omega)) (by omega)) (by omega)) (by rw [upA_t (by omega), upA_t (by omega), upA_t (by omega)]; exact hK)
theorem c283 {d : Nat} {k w t B : Int} {K : Int → Int} {T : Tt} {σ : St} {Q : vmO → vmH → Prop} (hK : σ 1200 382 = K) (hv : kV K B) (hB : B < 900000000) (x0 : -2147483648 ≤ w) (x1 : w < 2147483648) (y0 : -2147483648 ≤ t) (y1 : t < 2147483648)
    (hQ1 : ¬ wzI K w t → ∀ τ, fT σ τ → τ 1200 382 = K → τ 1204 382 0 = 1 → Q (.inl (some (.long (i64 0)))) (E T τ))
    (hQ2 : wzI K w t → ∀ τ, fT σ τ → τ 1200 382 = K → τ 1204 382 0 = 0 → Q (.inl (some (.long (if dK K w t < far then bs (ndR K w t) else i64 0)))) (E T τ)) : Ca (d + 7) k 283 [.ref 382, .int (i32 w), .int (i32 t)] (E T σ) Q := by
  have h0 := ob_md
  have hfar : far = 1000000000 := rfl
  have hhi : hiR = 536870912 := rfl
  have hn := nK_c hv.1
  have kU : ∀ u, (upA σ 1204 382 fun _ => u) 1200 382 = K := fun u => by rw [upA_t (by omega)]; exact hK
  have fU : ∀ u, fT σ (upA σ 1204 382 fun _ => u) := fun u => fT_u fT_r (by omega)
  have sU : ∀ u, (upA σ 1204 382 fun _ => u) 1204 382 0 = u := fun u => by rw [upA_s]
  rw [n283 _ _ _ _ _ _ _ _ h0]
  simp (disch := (first | assumption | omega | exact Nat.le_of_ble_eq_true rfl | rfl)) only [w283_0, w283_1, w283_2, w283_3, Ko_n, Ko_v, vX_i, vX_r, vX_l, vX_j, reduceIte]
  refine c237 hK hv x0 x1 y0 y1 (fun a => ?_) (fun a => ?_)
  · have hq := hQ2 a
    obtain ⟨⟨w0, w1⟩, t0, t1⟩ := a
    obtain ⟨h2, h5, h6, h7⟩ := kV_w hv w0 w1
    have hm := wh_mul h2
    have db := dK_b hv w0 w1 t0 t1
    simp (disch := (first | assumption | omega | exact Nat.le_of_ble_eq_true rfl | rfl)) only [w283_6, w283_9, w283_10, w283_11, w283_12, w283_15, w283_17, w283_18, w283_19, w283_20, w283_21, w283_22, w283_24, w283_25, w283_26, w283_27, Ko_n, Ko_v, vX_i, vX_r, vX_l, vX_j, reduceIte, kU]
    refine c236 (kU 0) hv hB w0 w1 t0 t1 fun τ g1 g2 g3 => ?_
    by_cases e : dK K w t < far
    · rw [if_pos e] at hq
      rw [show orN (dK K w t) = dK K w t from if_pos e]
      have loop : ∀ (m n : Nat) (τ : St), n + m = nK K → fq (upA σ 1204 382 fun _ => 0) τ → τ 1200 382 = K → Wp (d + 7) M_X12_needed 40 [.ref 382, .int (i32 w), .int (i32 t), .int (i32 (K (79 + w))), .long (bsN (ndR K w t) n), vmJ, .int (i32 n)] [] (E T τ) Q := by
        intro m
        induction m with
        | zero =>
          intro n τ hn2 f1 f2
          have hn2 : n = nK K := by omega
          subst hn2
          have ft := fT_q f1
          rw [w283_40]
          simp (disch := (first | assumption | omega | exact Nat.le_of_ble_eq_true rfl | rfl)) only [w283_42, w283_43, Ko_n, Ko_v, vX_i, vX_r, vX_l, vX_j, reduceIte]
          rw [c210 f2]
          simp (disch := (first | assumption | omega | exact Nat.le_of_ble_eq_true rfl | rfl)) only [w283_46, w283_49, w283_51, w283_52, w283_55, w283_57, w283_58, w283_61, w283_62, w283_64, w283_67, w283_68, w283_71, w283_74, w283_75, w283_76, w283_79, w283_81, w283_82, w283_83, w283_84, w283_85, w283_87, w283_88, w283_91, w283_94, w283_97, w283_98, w283_100, w283_101, w283_104, w283_105, w283_106, w283_108, w283_111, w283_114, w283_116, Ko_n, Ko_v, vX_i, vX_r, vX_l, vX_j, reduceIte, hn, Int.le_refl]
          rw [← hn, bsN_e (p := ndR K w t) (n := ((nK K : Nat) : Int)) (fun k h _ => decide_eq_false (by omega))]
          exact hq τ ft.1 f2 ft.2
        | succ m ih =>
          intro n τ hn2 f1 f2
          have hc := (kV_c hv.2.1 (z := n) (by omega) (by omega)).1
          have ih' := ih (n + 1)
          rw [show ((n + 1 : Nat) : Int) = (n : Int) + 1 by omega] at ih'
          have skip : ndR K w t n = false → Wp (d + 7) M_X12_needed 108 [.ref 382, .int (i32 w), .int (i32 t), .int (i32 (K (79 + w))), .long (bsN (ndR K w t) n), vmJ, .int (i32 n)] [] (E T τ) Q := by
            intro hp
            have i2 := ih' τ (by omega) f1 f2
            rw [← bsN_f hp, bs_none] at i2
            unfold bsN at i2 ⊢
            rw [bs_or] at i2
            simp only [Bool.or_false] at i2
            simp (disch := (first | assumption | omega | exact Nat.le_of_ble_eq_true rfl | rfl)) only [w283_108, w283_111, Ko_n, Ko_v, vX_i, vX_r, vX_l, vX_j, reduceIte]
            exact i2
          rw [w283_40]
          simp (disch := (first | assumption | omega | exact Nat.le_of_ble_eq_true rfl | rfl)) only [w283_42, w283_43, Ko_n, Ko_v, vX_i, vX_r, vX_l, vX_j, reduceIte]
          rw [c210 f2]
          by_cases e1 : (n : Int) = K (79 + w)
          · simp (disch := (first | assumption | omega | exact Nat.le_of_ble_eq_true rfl | rfl)) only [w283_46, w283_49, w283_51, w283_52, w283_55, w283_57, w283_58, w283_61, w283_62, w283_64, w283_67, w283_68, w283_71, w283_74, w283_75, w283_76, w283_79, w283_81, w283_82, w283_83, w283_84, w283_85, w283_87, w283_88, w283_91, w283_94, w283_97, w283_98, w283_100, w283_101, w283_104, w283_105, w283_106, Ko_n, Ko_v, vX_i, vX_r, vX_l, vX_j, reduceIte, show ¬ K 1 * K 2 ≤ (n : Int) by omega, e1, show ¬ K 1 * K 2 ≤ K (79 + w) by omega]
            have s := skip (decide_eq_false (fun h => h.2.1 e1))
            rw [e1] at s
            exact s
          · by_cases e2 : (n : Int) = t
            · simp (disch := (first | assumption | omega | exact Nat.le_of_ble_eq_true rfl | rfl)) only [w283_46, w283_49, w283_51, w283_52, w283_55, w283_57, w283_58, w283_61, w283_62, w283_64, w283_67, w283_68, w283_71, w283_74, w283_75, w283_76, w283_79, w283_81, w283_82, w283_83, w283_84, w283_85, w283_87, w283_88, w283_91, w283_94, w283_97, w283_98, w283_100, w283_101, w283_104, w283_105, w283_106, Ko_n, Ko_v, vX_i, vX_r, vX_l, vX_j, reduceIte, show ¬ K 1 * K 2 ≤ t by omega, e2, show ¬ t = K (79 + w) by omega]
              have s := skip (decide_eq_false (fun h => h.2.2.1 e2))
              rw [e2] at s
              exact s
            · simp (disch := (first | assumption | omega | exact Nat.le_of_ble_eq_true rfl | rfl)) only [w283_46, w283_49, w283_51, w283_52, w283_55, w283_57, w283_58, w283_61, w283_62, w283_64, Ko_n, Ko_v, vX_i, vX_r, vX_l, vX_j, reduceIte, show ¬ K 1 * K 2 ≤ (n : Int) by omega, e1, e2]
              rw [c211 f2 (by omega) (by omega)]
              by_cases e3 : K (7 + n) = 4
              · simp (disch := (first | assumption | omega | exact Nat.le_of_ble_eq_true rfl | rfl)) only [w283_67, w283_68, w283_71, w283_74, w283_75, w283_76, w283_79, w283_81, w283_82, w283_83, w283_84, w283_85, w283_87, w283_88, w283_91, w283_94, w283_97, w283_98, w283_100, w283_101, w283_104, w283_105, w283_106, Ko_n, Ko_v, vX_i, vX_r, vX_l, vX_j, reduceIte, e3, not_true]
                exact skip (decide_eq_false (fun h => h.2.2.2.1 e3))
              · simp (disch := (first | assumption | omega | exact Nat.le_of_ble_eq_true rfl | rfl)) only [w283_67, w283_68, w283_71, w283_74, w283_75, w283_76, Ko_n, Ko_v, vX_i, vX_r, vX_l, vX_j, reduceIte, e3, not_false_eq_true]
                rw [c231 f2 hv hB (by omega) (by omega)]
                simp (disch := (first | assumption | omega | exact Nat.le_of_ble_eq_true rfl | rfl)) only [w283_79, w283_81, w283_82, w283_83, w283_84, w283_85, w283_87, w283_88, Ko_n, Ko_v, vX_i, vX_r, vX_l, vX_j, reduceIte]
                refine laySh f2 hv hB w0 w1 t0 t1 (by omega) (by omega) e1 fun ρ r1 r2 => ?_
                have sb := rf_in (shD_b (z := n) hv w0 w1 t0 t1)
                have i2 := ih' ρ (by omega) (fq_t f1 r1) r2
                by_cases e4 : shD K w t n < far
                · have hp : ndR K w t n = false := decide_eq_false (fun h => h.2.2.2.2 e4)
                  rw [← bsN_f hp] at i2
                  simp (disch := (first | assumption | omega | exact Nat.le_of_ble_eq_true rfl | rfl)) only [w283_91, w283_94, w283_97, w283_98, w283_100, w283_101, w283_104, w283_105, w283_106, w283_108, w283_111, Ko_n, Ko_v, vX_i, vX_r, vX_l, vX_j, reduceIte, show rf (shD K w t n) < 536870912 by omega]
                  exact i2
                · have hp : ndR K w t n = true := decide_eq_true ⟨by omega, e1, e2, e3, e4⟩
                  rw [← bsN_t (by omega) (by omega) hp] at i2
                  simp (disch := (first | assumption | omega | exact Nat.le_of_ble_eq_true rfl | rfl)) only [w283_91, w283_94, w283_97, w283_98, w283_100, w283_101, w283_104, w283_105, w283_106, w283_108, w283_111, Ko_n, Ko_v, vX_i, vX_r, vX_l, vX_j, reduceIte, show ¬ rf (shD K w t n) < 536870912 by omega]
                  exact i2
      have l0 := loop (nK K) 0 τ (by omega) g1 g2
      rw [show bsN (ndR K w t) ((0 : Nat) : Int) = i64 0 from bsN_0.symm] at l0
      simp (disch := (first | assumption | omega | exact Nat.le_of_ble_eq_true rfl | rfl)) only [w283_30, w283_31, w283_34, w283_36, w283_37, w283_38, Ko_n, Ko_v, vX_i, vX_r, vX_l, vX_j, reduceIte, show ¬ dK K w t = -1 by omega, not_false_eq_true]
      exact l0
    · rw [if_neg e] at hq
      rw [show orN (dK K w t) = -1 from if_neg e]
      have ft := fT_q g1
      simp (disch := (first | assumption | omega | exact Nat.le_of_ble_eq_true rfl | rfl)) only [w283_30, w283_31, w283_34, w283_36, w283_37, w283_38, Ko_n, Ko_v, vX_i, vX_r, vX_l, vX_j, reduceIte, not_true]
      exact hq τ ft.1 g2 ft.2
  · simp (disch := (first | assumption | omega | exact Nat.le_of_ble_eq_true rfl | rfl)) only [w283_6, w283_9, w283_10, w283_11, w283_12, w283_15, w283_17, w283_18, w283_19, Ko_n, Ko_v, vX_i, vX_r, vX_l, vX_j, reduceIte, Int.reduceEq]
    exact hQ1 a _ (fU _) (kU _) (sU _)
