/-! ===== the reference: tray, write, copy ===== -/
theorem ctV_f : ∀ s : Fin 4, ∀ n : Fin 61, ctV (s.val : Int) (i64 (n.val : Int)) = i64 (n.val : Int) := by decide
theorem ctV_sm {s x : Int} (s0 : 0 ≤ s) (s1 : s ≤ 3) (x0 : 0 ≤ x) (x1 : x ≤ 60) : ctV s (i64 x) = i64 x := by
  have := ctV_f ⟨s.toNat, by omega⟩ ⟨x.toNat, by omega⟩
  dsimp only at this
  rw [show ((s.toNat : Nat) : Int) = s by omega, show ((x.toNat : Nat) : Int) = x by omega] at this
  exact this
def tySR (σ : St) (t s m : Int) : St := upA (upA (upA (upA σ 1204 382 fun _ => 0) 1237 382 (fu (σ 1237 382) t s)) 1238 382 (fu (σ 1238 382) t m)) 1239 382 (trR (fun _ => 0) (σ 1239 382) t 40)
theorem c299 {d : Nat} {k t s m : Int} {T : Tt} {σ : St} {Q : vmO → vmH → Prop} (x0 : -2147483648 ≤ t) (x1 : t < 2147483648) (y0 : -2147483648 ≤ s) (y1 : s < 2147483648) (z0 : -2147483648 ≤ m) (z1 : m < 2147483648)
    (hQ1 : ¬ (0 ≤ t ∧ t < 4) → Q (.inl none) (E T (upA σ 1204 382 fun _ => 1)))
    (hQ2 : (0 ≤ t ∧ t < 4) → ¬ ((0 ≤ s ∧ s ≤ 3) ∧ 0 ≤ m ∧ m ≤ 40) → Q (.inl none) (E T (upA σ 1204 382 fun _ => 2)))
    (hQ3 : (0 ≤ t ∧ t < 4) → ((0 ≤ s ∧ s ≤ 3) ∧ 0 ≤ m ∧ m ≤ 40) → Q (.inl none) (E T (tySR σ t s m))) : Ca (d + 3) k 299 [.ref 382, .int (i32 t), .int (i32 s), .int (i32 m)] (E T σ) Q := by
  have h0 := ob_md
  rw [n299 _ _ _ _ _ _ _ _ _ h0]
  simp (disch := (first | assumption | omega | exact Nat.le_of_ble_eq_true rfl | rfl)) only [w299_0, w299_1, w299_2, Ko_n, Ko_v, vX_i, vX_r, vX_l, vX_j, reduceIte]
  rw [c298 (by omega) x0 x1]
  by_cases a : 0 ≤ t ∧ t < 4
  · rw [if_pos a]
    have bad : ¬ ((0 ≤ s ∧ s ≤ 3) ∧ 0 ≤ m ∧ m ≤ 40) → Wp (d + 3) M_X12_tray 36 [.ref 382, .int (i32 t), .int (i32 s), .int (i32 m), vmJ] [.ref 382] (E T σ) Q := by
      intro b
      simp (disch := (first | assumption | omega | exact Nat.le_of_ble_eq_true rfl | rfl)) only [w299_36, w299_37, w299_40, w299_41, w299_44, w299_45, w299_48, w299_51, Ko_n, Ko_v, vX_i, vX_r, vX_l, vX_j, reduceIte, upA_s, show ¬ (2 : Int) ≤ 0 by omega]
      exact hQ2 a b
    simp (disch := (first | assumption | omega | exact Nat.le_of_ble_eq_true rfl | rfl)) only [w299_5, w299_8, w299_9, w299_12, w299_13, w299_14, w299_15, w299_18, Ko_n, Ko_v, vX_i, vX_r, vX_l, vX_j, reduceIte, Int.reduceEq, not_false_eq_true]
    rw [c176 (by omega) (by omega) (by omega) (by omega) (by omega) (by omega) (by omega)]
    by_cases b : 0 ≤ s ∧ s ≤ 3
    · rw [if_pos b]
      simp (disch := (first | assumption | omega | exact Nat.le_of_ble_eq_true rfl | rfl)) only [w299_21, w299_24, w299_25, w299_26, w299_27, w299_30, Ko_n, Ko_v, vX_i, vX_r, vX_l, vX_j, reduceIte, Int.reduceEq]
      rw [c176 (by omega) (by omega) (by omega) (by omega) (by omega) (by omega) (by omega)]
      by_cases c : 0 ≤ m ∧ m ≤ 40
      · rw [if_pos c]
        have hq := hQ3 a ⟨b, c⟩
        unfold tySR at hq
        have loop : ∀ (m' n : Nat), n + m' = 40 → Wp (d + 3) M_X12_tray 69 [.ref 382, .int (i32 t), .int (i32 s), .int (i32 m), .int (i32 n)] [] (E T (upA (upA (upA (upA σ 1204 382 fun _ => 0) 1237 382 (fu (σ 1237 382) t s)) 1238 382 (fu (σ 1238 382) t m)) 1239 382 (trR (fun _ => 0) (σ 1239 382) t n))) Q := by
          intro m'
          induction m' with
          | zero =>
            intro n hn
            have hn : n = 40 := by omega
            subst hn
            rw [w299_69]
            simp (disch := (first | assumption | omega | exact Nat.le_of_ble_eq_true rfl | rfl)) only [w299_0, w299_1, w299_2, w299_5, w299_8, w299_9, w299_12, w299_13, w299_14, w299_15, w299_18, w299_21, w299_24, w299_25, w299_26, w299_27, w299_30, w299_33, w299_36, w299_37, w299_40, w299_41, w299_44, w299_45, w299_48, w299_51, w299_52, w299_53, w299_56, w299_57, w299_58, w299_59, w299_60, w299_63, w299_64, w299_65, w299_66, w299_67, w299_71, w299_73, w299_76, w299_77, w299_80, w299_82, w299_83, w299_84, w299_86, w299_87, w299_88, w299_89, w299_92, w299_95, Ko_n, Ko_v, vX_i, vX_r, vX_l, vX_j, reduceIte, show (40 : Int) ≤ ((40 : Nat) : Int) by omega]
            exact hq
          | succ m' ih =>
            intro n hn
            have ih' := ih (n + 1) (by omega)
            rw [show ((n + 1 : Nat) : Int) = (n : Int) + 1 by omega, ← trR_s (by omega)] at ih'
            rw [w299_69]
            simp (disch := (first | assumption | omega | exact Nat.le_of_ble_eq_true rfl | rfl)) only [w299_0, w299_1, w299_2, w299_5, w299_8, w299_9, w299_12, w299_13, w299_14, w299_15, w299_18, w299_21, w299_24, w299_25, w299_26, w299_27, w299_30, w299_33, w299_36, w299_37, w299_40, w299_41, w299_44, w299_45, w299_48, w299_51, w299_52, w299_53, w299_56, w299_57, w299_58, w299_59, w299_60, w299_63, w299_64, w299_65, w299_66, w299_67, w299_71, w299_73, w299_76, w299_77, w299_80, w299_82, w299_83, w299_84, w299_86, w299_87, w299_88, w299_89, w299_92, w299_95, Ko_n, Ko_v, vX_i, vX_r, vX_l, vX_j, reduceIte, show ¬ (40 : Int) ≤ (n : Int) by omega, upA_s, upA_upA, show (i64 0).toInt = 0 by decide]
            exact ih'
        have l0 := loop 40 0 (by omega)
        rw [show ((0 : Nat) : Int) = 0 from rfl, trR_0] at l0
        have e : upA (upA (upA (upA σ 1204 382 fun _ => 0) 1237 382 (fu (σ 1237 382) t s)) 1238 382 (fu (σ 1238 382) t m)) 1239 382 (σ 1239 382) = upA (upA (upA σ 1204 382 fun _ => 0) 1237 382 (fu (σ 1237 382) t s)) 1238 382 (fu (σ 1238 382) t m) := by
          have e1 : σ 1239 382 = upA (upA (upA σ 1204 382 fun _ => 0) 1237 382 (fu (σ 1237 382) t s)) 1238 382 (fu (σ 1238 382) t m) 1239 382 := by rw [upA_t (by omega), upA_t (by omega), upA_t (by omega)]
          rw [e1, upA_self]
        rw [e] at l0
        simp (disch := (first | assumption | omega | exact Nat.le_of_ble_eq_true rfl | rfl)) only [w299_33, w299_36, w299_37, w299_40, w299_41, w299_44, w299_45, w299_48, w299_51, w299_52, w299_53, w299_56, w299_57, w299_58, w299_59, w299_60, w299_63, w299_64, w299_65, w299_66, w299_67, Ko_n, Ko_v, vX_i, vX_r, vX_l, vX_j, reduceIte, Int.reduceEq, not_false_eq_true, upA_s, Int.le_refl, upA_t]
        exact l0
      · rw [if_neg c]
        simp (disch := (first | assumption | omega | exact Nat.le_of_ble_eq_true rfl | rfl)) only [w299_33, Ko_n, Ko_v, vX_i, vX_r, vX_l, vX_j, reduceIte, not_true]
        exact bad (fun w => c w.2)
    · rw [if_neg b]
      simp (disch := (first | assumption | omega | exact Nat.le_of_ble_eq_true rfl | rfl)) only [w299_21, w299_24, w299_25, w299_26, w299_27, w299_30, w299_33, Ko_n, Ko_v, vX_i, vX_r, vX_l, vX_j, reduceIte, not_true]
      exact bad (fun w => b w.1)
  · rw [if_neg a]
    simp (disch := (first | assumption | omega | exact Nat.le_of_ble_eq_true rfl | rfl)) only [w299_5, w299_8, w299_9, w299_12, w299_13, w299_14, w299_15, w299_18, w299_21, w299_24, w299_25, w299_26, w299_27, w299_30, w299_33, w299_36, w299_37, w299_40, w299_41, w299_44, w299_45, w299_48, w299_51, Ko_n, Ko_v, vX_i, vX_r, vX_l, vX_j, reduceIte, not_true, upA_s, show ¬ (1 : Int) ≤ 0 by omega]
    exact hQ1 a
def hpR (σ : St) : Prop := ∀ j, 0 ≤ j → j < 4 → -1 ≤ σ 1237 382 j ∧ σ 1237 382 j ≤ 3 ∧ 0 ≤ σ 1238 382 j ∧ σ 1238 382 j ≤ 40
theorem c301 {d : Nat} {k t p : Int} {v : Int64} {T : Tt} {σ : St} {Q : vmO → vmH → Prop} (hT : hpR σ) (x0 : -2147483648 ≤ t) (x1 : t < 2147483648) (y0 : -2147483648 ≤ p) (y1 : p < 2147483648)
    (hQ1 : tfR σ t ≠ 0 → Q (.inl (some (.long (i64 0)))) (E T (upA σ 1204 382 fun _ => tfR σ t)))
    (hQ2 : (0 ≤ t ∧ t < 4) → σ 1237 382 t ≠ -1 → ¬ (0 ≤ p ∧ p < σ 1238 382 t) → Q (.inl (some (.long (i64 0)))) (E T (upA σ 1204 382 fun _ => 3)))
    (hQ3 : (0 ≤ t ∧ t < 4) → σ 1237 382 t ≠ -1 → (0 ≤ p ∧ p < σ 1238 382 t) → Q (.inl (some (.long (ctV (σ 1237 382 t) v)))) (E T (upA (upA σ 1204 382 fun _ => 0) 1239 382 (fu (σ 1239 382) (40 * t + p) (ctV (σ 1237 382 t) v).toInt)))) : Ca (d + 4) k 301 [.ref 382, .int (i32 t), .int (i32 p), .long v] (E T σ) Q := by
  have h0 := ob_md
  rw [n301 _ _ _ _ _ _ _ _ _ h0]
  simp (disch := (first | assumption | omega | exact Nat.le_of_ble_eq_true rfl | rfl)) only [w301_0, w301_1, w301_2, w301_3, Ko_n, Ko_v, vX_i, vX_r, vX_l, vX_j, reduceIte]
  rw [c251 (fun j j0 j1 => ⟨(hT j j0 j1).1, (hT j j0 j1).2.1⟩) x0 x1]
  have ti : 0 ≤ tfR σ t ∧ tfR σ t ≤ 2 := by
    unfold tfR
    by_cases a : 0 ≤ t ∧ t < 4
    · rw [if_pos a]
      by_cases b : σ 1237 382 t = -1
      · rw [if_pos b]; omega
      · rw [if_neg b]; omega
    · rw [if_neg a]; omega
  by_cases e : tfR σ t = 0
  · have a : 0 ≤ t ∧ t < 4 := by
      by_cases a : 0 ≤ t ∧ t < 4
      · exact a
      · exfalso; unfold tfR at e; rw [if_neg a] at e; omega
    have b : σ 1237 382 t ≠ -1 := by
      intro b; unfold tfR at e; rw [if_pos a, if_pos b] at e; omega
    have ht := hT t a.1 a.2
    rw [e]
    simp (disch := (first | assumption | omega | exact Nat.le_of_ble_eq_true rfl | rfl)) only [w301_6, w301_9, w301_10, w301_13, w301_16, w301_17, w301_18, w301_19, w301_20, w301_21, w301_22, w301_25, w301_26, w301_27, w301_28, w301_29, w301_30, Ko_n, Ko_v, vX_i, vX_r, vX_l, vX_j, reduceIte, upA_s, upA_t, Int.le_refl]
    rw [c176 (by omega) (by omega) (by omega) (by omega) (by omega) (by omega) (by omega)]
    by_cases c : 0 ≤ p ∧ p < σ 1238 382 t
    · rw [if_pos (show 0 ≤ p ∧ p ≤ σ 1238 382 t - 1 by omega)]
      simp (disch := (first | assumption | omega | exact Nat.le_of_ble_eq_true rfl | rfl)) only [w301_33, w301_36, w301_37, w301_38, w301_39, w301_40, Ko_n, Ko_v, vX_i, vX_r, vX_l, vX_j, reduceIte, Int.reduceEq]
      have s1 : (upA σ 1204 382 fun _ => 0) 1237 382 = σ 1237 382 := by rw [upA_t (by omega)]
      have s2 : (upA σ 1204 382 fun _ => 0) 1239 382 = σ 1239 382 := by rw [upA_t (by omega)]
      rw [c300 (by rw [s1]; omega) (by rw [s1]; omega) a.1 a.2 c.1 (by omega), s1, s2]
      simp (disch := (first | assumption | omega | exact Nat.le_of_ble_eq_true rfl | rfl)) only [w301_43, w301_46, w301_47, w301_48, w301_51, w301_52, Ko_n, Ko_v, vX_i, vX_r, vX_l, vX_j, reduceIte]
      exact hQ3 a b c
    · rw [if_neg (show ¬ (0 ≤ p ∧ p ≤ σ 1238 382 t - 1) by omega)]
      simp (disch := (first | assumption | omega | exact Nat.le_of_ble_eq_true rfl | rfl)) only [w301_33, w301_36, w301_37, w301_38, w301_39, w301_40, w301_43, w301_46, w301_47, w301_48, Ko_n, Ko_v, vX_i, vX_r, vX_l, vX_j, reduceIte, not_true]
      rw [c175]
      simp (disch := (first | assumption | omega | exact Nat.le_of_ble_eq_true rfl | rfl)) only [w301_51, w301_52, Ko_n, Ko_v, vX_i, vX_r, vX_l, vX_j, reduceIte, upA_upA]
      exact hQ2 a b c
  · simp (disch := (first | assumption | omega | exact Nat.le_of_ble_eq_true rfl | rfl)) only [w301_6, w301_9, w301_10, w301_13, w301_16, w301_17, w301_18, w301_19, Ko_n, Ko_v, vX_i, vX_r, vX_l, vX_j, reduceIte, upA_s, show ¬ tfR σ t ≤ 0 by omega]
    exact hQ1 e
theorem c302 {d : Nat} {k t B : Int} {K : Int → Int} {T : Tt} {σ : St} {Q : vmO → vmH → Prop} (hK : σ 1200 382 = K) (hv : kV K B) (hT : hpR σ) (x0 : -2147483648 ≤ t) (x1 : t < 2147483648)
    (hQ1 : tfR σ t ≠ 0 → Q (.inl (some (.int (i32 0)))) (E T (upA σ 1204 382 fun _ => tfR σ t)))
    (hQ2 : (0 ≤ t ∧ t < 4) → σ 1237 382 t ≠ -1 → Q (.inl (some (.int (i32 (min (σ 1238 382 t) (K 1 * K 2)))))) (E T (upA (upA σ 1204 382 fun _ => 0) 1239 382 (trR (tkK K 7) (σ 1239 382) t (min (σ 1238 382 t) (K 1 * K 2)))))) : Ca (d + 4) k 302 [.ref 382, .int (i32 t)] (E T σ) Q := by
  have h0 := ob_md
  have hm := wh_mul0 hv.1.1
  rw [n302 _ _ _ _ _ _ _ h0]
  simp (disch := (first | assumption | omega | exact Nat.le_of_ble_eq_true rfl | rfl)) only [w302_0, w302_1, w302_2, w302_3, Ko_n, Ko_v, vX_i, vX_r, vX_l, vX_j, reduceIte]
  rw [c251 (fun j j0 j1 => ⟨(hT j j0 j1).1, (hT j j0 j1).2.1⟩) x0 x1]
  have ti : 0 ≤ tfR σ t ∧ tfR σ t ≤ 2 := by
    unfold tfR
    by_cases a : 0 ≤ t ∧ t < 4
    · rw [if_pos a]
      by_cases b : σ 1237 382 t = -1
      · rw [if_pos b]; omega
      · rw [if_neg b]; omega
    · rw [if_neg a]; omega
  by_cases e : tfR σ t = 0
  · have a : 0 ≤ t ∧ t < 4 := by
      by_cases a : 0 ≤ t ∧ t < 4
      · exact a
      · exfalso; unfold tfR at e; rw [if_neg a] at e; omega
    have b : σ 1237 382 t ≠ -1 := by
      intro b; unfold tfR at e; rw [if_pos a, if_pos b] at e; omega
    have ht := hT t a.1 a.2
    have hq := hQ2 a b
    rw [e]
    have kU : (upA σ 1204 382 fun _ => 0) 1200 382 = K := by rw [upA_t (by omega)]; exact hK
    simp (disch := (first | assumption | omega | exact Nat.le_of_ble_eq_true rfl | rfl)) only [w302_6, w302_9, w302_10, w302_13, w302_16, w302_17, w302_18, w302_19, w302_22, w302_23, w302_24, w302_25, Ko_n, Ko_v, vX_i, vX_r, vX_l, vX_j, reduceIte, upA_s, upA_t, Int.le_refl]
    rw [c210 kU]
    obtain ⟨M, hM⟩ : ∃ M : Nat, min (σ 1238 382 t) (K 1 * K 2) = M := ⟨(min (σ 1238 382 t) (K 1 * K 2)).toNat, by omega⟩
    rw [hM] at hq
    simp (disch := (first | assumption | omega | exact Nat.le_of_ble_eq_true rfl | rfl)) only [w302_28, w302_31, w302_32, w302_33, Ko_n, Ko_v, vX_i, vX_r, vX_l, vX_j, reduceIte, hM, vmCat]
    have loop : ∀ (m' n : Nat), n + m' = M → Wp (d + 4) M_X12_copy 34 [.ref 382, .int (i32 t), .int (i32 M), .int (i32 n)] [] (E T (upA (upA σ 1204 382 fun _ => 0) 1239 382 (trR (tkK K 7) (σ 1239 382) t n))) Q := by
      intro m'
      induction m' with
      | zero =>
        intro n hn2
        have hn2 : n = M := by omega
        subst hn2
        rw [w302_34]
        simp (disch := (first | assumption | omega | exact Nat.le_of_ble_eq_true rfl | rfl)) only [w302_0, w302_1, w302_2, w302_3, w302_6, w302_9, w302_10, w302_13, w302_16, w302_17, w302_18, w302_19, w302_22, w302_23, w302_24, w302_25, w302_28, w302_31, w302_32, w302_33, w302_35, w302_36, w302_39, w302_40, w302_41, w302_42, w302_43, w302_44, w302_47, w302_48, w302_51, w302_52, w302_55, w302_58, w302_59, Ko_n, Ko_v, vX_i, vX_r, vX_l, vX_j, reduceIte, Int.le_refl]
        exact hq
      | succ m' ih =>
        intro n hn2
        have ih' := ih (n + 1) (by omega)
        have hk := (kV_c hv.2.1 (z := n) (by omega) (by omega)).2
        rw [show ((n + 1 : Nat) : Int) = (n : Int) + 1 by omega, ← trR_s (by omega)] at ih'
        rw [w302_34]
        simp (disch := (first | assumption | omega | exact Nat.le_of_ble_eq_true rfl | rfl)) only [w302_35, w302_36, w302_39, w302_40, w302_41, w302_42, w302_43, w302_44, Ko_n, Ko_v, vX_i, vX_r, vX_l, vX_j, reduceIte, show ¬ (M : Int) ≤ (n : Int) by omega]
        rw [c212 (K := K) (by rw [upA_t (by omega)]; exact kU) (by omega) (by omega)]
        simp (disch := (first | assumption | omega | exact Nat.le_of_ble_eq_true rfl | rfl)) only [w302_47, w302_48, Ko_n, Ko_v, vX_i, vX_r, vX_l, vX_j, reduceIte]
        have s1 : (upA (upA σ 1204 382 fun _ => 0) 1239 382 (trR (tkK K 7) (σ 1239 382) t n)) 1237 382 = σ 1237 382 := by rw [upA_t (by omega), upA_t (by omega)]
        rw [c300 (by rw [s1]; omega) (by rw [s1]; omega) a.1 a.2 (by omega) (by omega), s1, upA_s, upA_upA, ctV_sm (by omega) (by omega) hk.1 hk.2, i64_i (by omega) (by omega)]
        simp (disch := (first | assumption | omega | exact Nat.le_of_ble_eq_true rfl | rfl)) only [w302_51, w302_52, w302_55, Ko_n, Ko_v, vX_i, vX_r, vX_l, vX_j, reduceIte]
        exact ih'
    have l0 := loop M 0 (by omega)
    rw [show ((0 : Nat) : Int) = 0 from rfl, trR_0] at l0
    rw [show upA (upA σ 1204 382 fun _ => 0) 1239 382 (σ 1239 382) = upA σ 1204 382 fun _ => 0 by
      have e1 : σ 1239 382 = (upA σ 1204 382 fun _ => 0) 1239 382 := by rw [upA_t (by omega)]
      rw [e1, upA_self]] at l0
    exact l0
  · simp (disch := (first | assumption | omega | exact Nat.le_of_ble_eq_true rfl | rfl)) only [w302_6, w302_9, w302_10, w302_13, w302_16, w302_17, Ko_n, Ko_v, vX_i, vX_r, vX_l, vX_j, reduceIte, upA_s, show ¬ tfR σ t ≤ 0 by omega]
    exact hQ1 e
