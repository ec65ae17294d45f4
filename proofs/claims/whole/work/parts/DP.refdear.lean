/-! ===== the reference: dearest ===== -/
def okR (K : Int → Int) (w t : Int) : Int → Bool := fun z => decide (z ≠ K (79 + w) ∧ z ≠ t ∧ K (7 + z) ≠ 4)
theorem dnI_b {wo : Int → Int} {tr : Int → Bool} {st : Int} (hs : (0 ≤ st ∧ st ≤ 6516) ∨ st = far) (hw : ∀ z : Nat, (0 ≤ wo z ∧ wo z ≤ 6516) ∨ wo z = far) (n : Nat) : (0 ≤ (dnI wo tr st n).1 ∧ (dnI wo tr st n).1 ≤ 6516) ∨ (dnI wo tr st n).1 = far := by
  induction n with
  | zero => exact hs
  | succ n ih =>
    rw [show dnI wo tr st (n + 1) = if tr n = true ∧ (dnI wo tr st n).1 < wo n then (wo n, (n : Int)) else dnI wo tr st n from rfl]
    by_cases e : tr n = true ∧ (dnI wo tr st n).1 < wo n
    · rw [if_pos e]; exact hw n
    · rw [if_neg e]; exact ih
theorem c284 {d : Nat} {k w t B : Int} {K : Int → Int} {T : Tt} {σ : St} {Q : vmO → vmH → Prop} (hK : σ 1200 382 = K) (hv : kV K B) (hB : B < 900000000) (x0 : -2147483648 ≤ w) (x1 : w < 2147483648) (y0 : -2147483648 ≤ t) (y1 : t < 2147483648)
    (hQ1 : ¬ wzI K w t → ∀ τ, fT σ τ → τ 1200 382 = K → τ 1204 382 0 = 1 → Q (.inl (some (.int (i32 0)))) (E T τ))
    (hQ2 : wzI K w t → ∀ τ, fT σ τ → τ 1200 382 = K → τ 1204 382 0 = 0 → Q (.inl (some (.int (i32 (if dK K w t < far then (dnI (shD K w t) (okR K w t) (dK K w t) (nK K)).2 else -1))))) (E T τ)) : Ca (d + 7) k 284 [.ref 382, .int (i32 w), .int (i32 t)] (E T σ) Q := by
  have h0 := ob_md
  have hfar : far = 1000000000 := rfl
  have hhi : hiR = 536870912 := rfl
  have hn := nK_c hv.1
  have kU : ∀ u, (upA σ 1204 382 fun _ => u) 1200 382 = K := fun u => by rw [upA_t (by omega)]; exact hK
  have fU : ∀ u, fT σ (upA σ 1204 382 fun _ => u) := fun u => fT_u fT_r (by omega)
  have sU : ∀ u, (upA σ 1204 382 fun _ => u) 1204 382 0 = u := fun u => by rw [upA_s]
  rw [n284 _ _ _ _ _ _ _ _ h0]
  simp (disch := (first | assumption | omega | exact Nat.le_of_ble_eq_true rfl | rfl)) only [w284_0, w284_1, w284_2, w284_3, Ko_n, Ko_v, vX_i, vX_r, vX_l, vX_j, reduceIte]
  refine c237 hK hv x0 x1 y0 y1 (fun a => ?_) (fun a => ?_)
  · have hq := hQ2 a
    obtain ⟨⟨w0, w1⟩, t0, t1⟩ := a
    obtain ⟨h2, h5, h6, h7⟩ := kV_w hv w0 w1
    have hm := wh_mul h2
    have db := dK_b hv w0 w1 t0 t1
    simp (disch := (first | assumption | omega | exact Nat.le_of_ble_eq_true rfl | rfl)) only [w284_6, w284_9, w284_10, w284_11, w284_12, w284_15, w284_17, w284_18, w284_19, w284_20, w284_21, w284_22, w284_24, w284_25, w284_26, w284_27, Ko_n, Ko_v, vX_i, vX_r, vX_l, vX_j, reduceIte, kU]
    refine c236 (kU 0) hv hB w0 w1 t0 t1 fun τ g1 g2 g3 => ?_
    by_cases e : dK K w t < far
    · rw [if_pos e] at hq
      rw [show orN (dK K w t) = dK K w t from if_pos e]
      have dB : ∀ n : Nat, (0 ≤ (dnI (shD K w t) (okR K w t) (dK K w t) n).1 ∧ (dnI (shD K w t) (okR K w t) (dK K w t) n).1 ≤ 6516) ∨ (dnI (shD K w t) (okR K w t) (dK K w t) n).1 = far := fun n => dnI_b db (fun z => shD_b hv w0 w1 t0 t1) n
      have loop : ∀ (m n : Nat) (τ : St) (l7 : Value), n + m = nK K → fq (upA σ 1204 382 fun _ => 0) τ → τ 1200 382 = K → Wp (d + 7) M_X12_dearest 35 [.ref 382, .int (i32 w), .int (i32 t), .int (i32 (K (79 + w))), .int (i32 (dnI (shD K w t) (okR K w t) (dK K w t) n).2), .int (i32 (rf (dnI (shD K w t) (okR K w t) (dK K w t) n).1)), .int (i32 n), l7] [] (E T τ) Q := by
        intro m
        induction m with
        | zero =>
          intro n τ l7 hn2 f1 f2
          have hn2 : n = nK K := by omega
          subst hn2
          have ft := fT_q f1
          rw [w284_35]
          simp (disch := (first | assumption | omega | exact Nat.le_of_ble_eq_true rfl | rfl)) only [w284_37, w284_38, Ko_n, Ko_v, vX_i, vX_r, vX_l, vX_j, reduceIte]
          rw [c210 f2]
          simp (disch := (first | assumption | omega | exact Nat.le_of_ble_eq_true rfl | rfl)) only [w284_41, w284_44, w284_46, w284_47, w284_50, w284_52, w284_53, w284_56, w284_58, w284_59, w284_62, w284_63, w284_65, w284_68, w284_69, w284_72, w284_75, w284_76, w284_77, w284_80, w284_81, w284_82, w284_83, w284_84, w284_86, w284_87, w284_90, w284_92, w284_94, w284_96, w284_99, w284_102, w284_104, w284_106, w284_108, w284_110, w284_113, w284_116, w284_118, Ko_n, Ko_v, vX_i, vX_r, vX_l, vX_j, reduceIte, hn, Int.le_refl]
          exact hq τ ft.1 f2 ft.2
        | succ m ih =>
          intro n τ l7 hn2 f1 f2
          have hc := (kV_c hv.2.1 (z := n) (by omega) (by omega)).1
          have dr := rf_in (dB n)
          have d1 : ¬ rf (dnI (shD K w t) (okR K w t) (dK K w t) n).1 = -1 := by omega
          have ih' := ih (n + 1)
          rw [show ((n + 1 : Nat) : Int) = (n : Int) + 1 by omega, show dnI (shD K w t) (okR K w t) (dK K w t) (n + 1) = if okR K w t n = true ∧ (dnI (shD K w t) (okR K w t) (dK K w t) n).1 < shD K w t n then (shD K w t n, (n : Int)) else dnI (shD K w t) (okR K w t) (dK K w t) n from rfl] at ih'
          have skip : okR K w t n = false → ∀ l7, Wp (d + 7) M_X12_dearest 110 [.ref 382, .int (i32 w), .int (i32 t), .int (i32 (K (79 + w))), .int (i32 (dnI (shD K w t) (okR K w t) (dK K w t) n).2), .int (i32 (rf (dnI (shD K w t) (okR K w t) (dK K w t) n).1)), .int (i32 n), l7] [] (E T τ) Q := by
            intro hp l7
            rw [if_neg (fun h => by rw [hp] at h; exact Bool.false_ne_true h.1)] at ih'
            simp (disch := (first | assumption | omega | exact Nat.le_of_ble_eq_true rfl | rfl)) only [w284_110, w284_113, Ko_n, Ko_v, vX_i, vX_r, vX_l, vX_j, reduceIte]
            exact ih' τ l7 (by omega) f1 f2
          rw [w284_35]
          simp (disch := (first | assumption | omega | exact Nat.le_of_ble_eq_true rfl | rfl)) only [w284_37, w284_38, Ko_n, Ko_v, vX_i, vX_r, vX_l, vX_j, reduceIte]
          rw [c210 f2]
          by_cases e1 : (n : Int) = K (79 + w)
          · have s := skip (decide_eq_false (fun h => h.1 e1)) l7
            simp (disch := (first | assumption | omega | exact Nat.le_of_ble_eq_true rfl | rfl)) only [w284_41, w284_44, w284_46, w284_47, w284_50, w284_52, Ko_n, Ko_v, vX_i, vX_r, vX_l, vX_j, reduceIte, show ¬ K 1 * K 2 ≤ (n : Int) by omega, d1]
            simp (disch := (first | assumption | omega | exact Nat.le_of_ble_eq_true rfl | rfl)) only [w284_53, w284_56, w284_58, w284_59, w284_62, w284_63, w284_65, w284_68, w284_69, w284_72, w284_75, w284_76, w284_77, w284_80, w284_81, w284_82, w284_83, w284_84, w284_86, w284_87, w284_90, w284_92, w284_94, w284_96, w284_99, w284_102, w284_104, w284_106, w284_108, Ko_n, Ko_v, vX_i, vX_r, vX_l, vX_j, reduceIte, e1]
            rw [e1] at s
            exact s
          · by_cases e2 : (n : Int) = t
            · have s := skip (decide_eq_false (fun h => h.2.1 e2)) l7
              simp (disch := (first | assumption | omega | exact Nat.le_of_ble_eq_true rfl | rfl)) only [w284_41, w284_44, w284_46, w284_47, w284_50, w284_52, w284_53, w284_56, w284_58, Ko_n, Ko_v, vX_i, vX_r, vX_l, vX_j, reduceIte, show ¬ K 1 * K 2 ≤ (n : Int) by omega, d1, e1]
              simp (disch := (first | assumption | omega | exact Nat.le_of_ble_eq_true rfl | rfl)) only [w284_59, w284_62, w284_63, w284_65, w284_68, w284_69, w284_72, w284_75, w284_76, w284_77, w284_80, w284_81, w284_82, w284_83, w284_84, w284_86, w284_87, w284_90, w284_92, w284_94, w284_96, w284_99, w284_102, w284_104, w284_106, w284_108, Ko_n, Ko_v, vX_i, vX_r, vX_l, vX_j, reduceIte, e2]
              rw [e2] at s
              exact s
            · simp (disch := (first | assumption | omega | exact Nat.le_of_ble_eq_true rfl | rfl)) only [w284_41, w284_44, w284_46, w284_47, w284_50, w284_52, w284_53, w284_56, w284_58, w284_59, w284_62, w284_63, w284_65, Ko_n, Ko_v, vX_i, vX_r, vX_l, vX_j, reduceIte, show ¬ K 1 * K 2 ≤ (n : Int) by omega, d1, e1, e2]
              rw [c211 f2 (by omega) (by omega)]
              by_cases e3 : K (7 + n) = 4
              · simp (disch := (first | assumption | omega | exact Nat.le_of_ble_eq_true rfl | rfl)) only [w284_68, w284_69, w284_72, w284_75, w284_76, w284_77, w284_80, w284_81, w284_82, w284_83, w284_84, w284_86, w284_87, w284_90, w284_92, w284_94, w284_96, w284_99, w284_102, w284_104, w284_106, w284_108, Ko_n, Ko_v, vX_i, vX_r, vX_l, vX_j, reduceIte, e3, not_true]
                exact skip (decide_eq_false (fun h => h.2.2 e3)) l7
              · simp (disch := (first | assumption | omega | exact Nat.le_of_ble_eq_true rfl | rfl)) only [w284_68, w284_69, w284_72, w284_75, w284_76, w284_77, Ko_n, Ko_v, vX_i, vX_r, vX_l, vX_j, reduceIte, e3, not_false_eq_true]
                rw [c231 f2 hv hB (by omega) (by omega)]
                simp (disch := (first | assumption | omega | exact Nat.le_of_ble_eq_true rfl | rfl)) only [w284_80, w284_81, w284_82, w284_83, w284_84, w284_86, w284_87, Ko_n, Ko_v, vX_i, vX_r, vX_l, vX_j, reduceIte]
                refine laySh f2 hv hB w0 w1 t0 t1 (by omega) (by omega) e1 fun ρ r1 r2 => ?_
                have sb := rf_in (shD_b (z := n) hv w0 w1 t0 t1)
                have okn : okR K w t n = true := decide_eq_true ⟨e1, e2, e3⟩
                by_cases e4 : (dnI (shD K w t) (okR K w t) (dK K w t) n).1 < shD K w t n
                · rw [if_pos ⟨okn, e4⟩] at ih'
                  simp (disch := (first | assumption | omega | exact Nat.le_of_ble_eq_true rfl | rfl)) only [w284_90, w284_92, w284_94, w284_96, w284_99, w284_102, w284_104, w284_106, w284_108, w284_110, w284_113, Ko_n, Ko_v, vX_i, vX_r, vX_l, vX_j, reduceIte, show rf (dnI (shD K w t) (okR K w t) (dK K w t) n).1 < rf (shD K w t n) by omega]
                  exact ih' ρ _ (by omega) (fq_t f1 r1) r2
                · rw [if_neg (fun h => e4 h.2)] at ih'
                  simp (disch := (first | assumption | omega | exact Nat.le_of_ble_eq_true rfl | rfl)) only [w284_90, w284_92, w284_94, w284_96, w284_99, w284_102, w284_104, w284_106, w284_108, w284_110, w284_113, Ko_n, Ko_v, vX_i, vX_r, vX_l, vX_j, reduceIte, show ¬ rf (dnI (shD K w t) (okR K w t) (dK K w t) n).1 < rf (shD K w t n) by omega]
                  exact ih' ρ _ (by omega) (fq_t f1 r1) r2
      have l0 := loop (nK K) 0 τ vmJ (by omega) g1 g2
      rw [show dnI (shD K w t) (okR K w t) (dK K w t) 0 = (dK K w t, -1) from rfl, show rf ((dK K w t, (-1 : Int))).1 = dK K w t from if_pos e] at l0
      simp (disch := (first | assumption | omega | exact Nat.le_of_ble_eq_true rfl | rfl)) only [w284_30, w284_32, w284_33, Ko_n, Ko_v, vX_i, vX_r, vX_l, vX_j, reduceIte]
      exact l0
    · rw [if_neg e] at hq
      rw [show orN (dK K w t) = -1 from if_neg e]
      have ft := fT_q g1
      simp (disch := (first | assumption | omega | exact Nat.le_of_ble_eq_true rfl | rfl)) only [w284_30, w284_32, w284_33, Ko_n, Ko_v, vX_i, vX_r, vX_l, vX_j, reduceIte]
      rw [w284_35]
      simp (disch := (first | assumption | omega | exact Nat.le_of_ble_eq_true rfl | rfl)) only [w284_37, w284_38, Ko_n, Ko_v, vX_i, vX_r, vX_l, vX_j, reduceIte]
      rw [c210 g2]
      simp (disch := (first | assumption | omega | exact Nat.le_of_ble_eq_true rfl | rfl)) only [w284_41, w284_44, w284_46, w284_47, w284_50, w284_52, w284_53, w284_56, w284_58, w284_59, w284_62, w284_63, w284_65, w284_68, w284_69, w284_72, w284_75, w284_76, w284_77, w284_80, w284_81, w284_82, w284_83, w284_84, w284_86, w284_87, w284_90, w284_92, w284_94, w284_96, w284_99, w284_102, w284_104, w284_106, w284_108, w284_110, w284_113, w284_116, w284_118, Ko_n, Ko_v, vX_i, vX_r, vX_l, vX_j, reduceIte, show ¬ K 1 * K 2 ≤ (0 : Int) by omega]
      exact hq τ ft.1 g2 ft.2
  · simp (disch := (first | assumption | omega | exact Nat.le_of_ble_eq_true rfl | rfl)) only [w284_6, w284_9, w284_10, w284_11, w284_12, w284_15, w284_17, w284_18, w284_19, Ko_n, Ko_v, vX_i, vX_r, vX_l, vX_j, reduceIte, Int.reduceEq]
    exact hQ1 a _ (fU _) (kU _) (sU _)
