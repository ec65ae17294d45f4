/-! ===== the reference: a night ===== -/
theorem cnt_lim {p : Int → Bool} {N : Int} (N0 : 0 ≤ N) : ∀ n : Nat, N ≤ n → cnt (fun z => p z && decide (z < N)) n = cnt p N.toNat := by
  intro n
  induction n with
  | zero =>
    intro h
    rw [show N.toNat = 0 by omega]
    rfl
  | succ n ih =>
    intro h
    rw [show cnt (fun z => p z && decide (z < N)) (n + 1) = cnt (fun z => p z && decide (z < N)) n + (if (p n && decide ((n : Int) < N)) = true then 1 else 0) from rfl]
    by_cases e : N ≤ n
    · rw [ih e]
      simp only [show ¬ ((n : Int) < N) by omega, decide_false, Bool.and_false, Bool.false_eq_true, if_false]
      omega
    · have hN : N.toNat = n + 1 := by omega
      rw [hN, show cnt p (n + 1) = cnt p n + (if p n = true then 1 else 0) from rfl]
      simp only [show ((n : Int) < N) by omega, decide_true, Bool.and_true]
      rw [cnt_cg n (q := p) (fun k hk => by simp only [show ((k : Int) < N) by omega, decide_true, Bool.and_true])]
/-- hedges grown, up to a cell -/
def ngP (K : Int → Int) (n : Int) : Int → Int := fun j => if 43 ≤ j ∧ j < 43 + n ∧ grK K (j - 43) = true then K j + 1 else K j
theorem ngP_0 {K : Int → Int} : ngP K 0 = K := by
  funext j
  unfold ngP
  rw [if_neg (by omega)]
theorem ngP_s {K : Int → Int} {n : Int} (n0 : 0 ≤ n) : ngP K (n + 1) = if grK K n = true then fu (ngP K n) (43 + n) (ngP K n (43 + n) + 1) else ngP K n := by
  funext j
  have e0 : ngP K n (43 + n) = K (43 + n) := by unfold ngP; rw [if_neg (by omega)]
  by_cases g : grK K n = true
  · rw [if_pos g, e0]
    by_cases e : j = 43 + n
    · rw [e, fu_s]
      unfold ngP
      rw [if_pos ⟨by omega, by omega, by rw [show 43 + n - 43 = n by omega]; exact g⟩]
    · rw [fu_n e]
      unfold ngP
      by_cases h : 43 ≤ j ∧ j < 43 + n ∧ grK K (j - 43) = true
      · rw [if_pos h, if_pos ⟨h.1, by omega, h.2.2⟩]
      · rw [if_neg h, if_neg (fun w => h ⟨w.1, by omega, w.2.2⟩)]
  · rw [if_neg g]
    unfold ngP
    by_cases h : 43 ≤ j ∧ j < 43 + n ∧ grK K (j - 43) = true
    · rw [if_pos h, if_pos ⟨h.1, by omega, h.2.2⟩]
    · rw [if_neg h, if_neg (fun w => h ⟨w.1, by
        by_cases e : j = 43 + n
        · exfalso; apply g; have := w.2.2; rw [e, show 43 + n - 43 = n by omega] at this; exact this
        · omega, w.2.2⟩)]
theorem c225 {d : Nat} {k B : Int} {K : Int → Int} {T : Tt} {σ : St} {Q : vmO → vmH → Prop} (hK : σ 1200 382 = K) (hv : kV K B) (hB : B < 900000000) (hl : lwV K) (hr : rwK K) (hQ : ∀ S G, Q (.inl (some (.int (i32 (ngN K))))) (E T (upA (upA (upA σ 1217 382 S) 1218 382 G) 1200 382 (ngK K)))) : Ca (d + 5) k 225 [.ref 382] (E T σ) Q := by
  have h0 := ob_md
  have hm := wh_mul0 hv.1.1
  have hw2 : 0 < K 1 * K 2 → wh2 (K 1) (K 2) := fun h => by
    rcases hv.1.1 with x | x
    · rw [x.1, x.2] at h; omega
    · exact x
  have hn1 : 0 ≤ K 90 ∧ K 90 ≤ B := hv.2.1.2.2.2.1
  rw [n225 _ _ _ _ _ _ h0]
  have fin : ∀ (m n : Nat) (S G : Int → Int), (n : Int) + m = K 1 * K 2 → (∀ j : Int, 0 ≤ j → j < K 1 * K 2 → G j = if grK K j then 1 else 0) → Wp (d + 5) M_X12_night 31 [.ref 382, .int (i32 (cnt (grK K) n)), .int (i32 n)] [] (E T (upA (upA (upA σ 1217 382 S) 1218 382 G) 1200 382 (ngP K n))) Q := by
    intro m
    induction m with
    | zero =>
      intro n S G hn hG
      have hn' : (n : Int) = K 1 * K 2 := by omega
      have e1 : ngP K n 1 = K 1 := by unfold ngP; rw [if_neg (by omega)]
      have e2 : ngP K n 2 = K 2 := by unfold ngP; rw [if_neg (by omega)]
      have e90 : ngP K n 90 = K 90 := by unfold ngP; rw [if_neg (by omega)]
      have hq := hQ S G
      have ec : ngN K = cnt (grK K) n := by
        unfold ngN
        rw [cnt_lim (by omega) 64 (by omega), show (K 1 * K 2).toNat = n by omega]
      have eK : fu (fu (ngP K n) 90 (ngP K n 90 + 1)) 89 0 = ngK K := by
        funext j
        unfold ngK
        by_cases a1 : 43 ≤ j ∧ j < 79
        · rw [if_pos a1, fu_n (by omega), fu_n (by omega)]
          unfold ngP
          by_cases g : j - 43 < K 1 * K 2 ∧ grK K (j - 43) = true
          · rw [if_pos g, if_pos ⟨a1.1, by omega, g.2⟩]
          · rw [if_neg g, if_neg (fun w => g ⟨by omega, w.2.2⟩)]
        · rw [if_neg a1]
          by_cases a2 : j = 90
          · rw [a2, if_pos rfl, fu_n (by omega), fu_s, e90]
          · rw [if_neg a2]
            by_cases a3 : j = 89
            · rw [a3, if_pos rfl, fu_s]
            · rw [if_neg a3, fu_n a3, fu_n a2]
              unfold ngP
              rw [if_neg (by omega)]
      rw [w225_31]
      simp (disch := (first | assumption | omega | exact Nat.le_of_ble_eq_true rfl | rfl)) only [w225_0, w225_1, w225_3, w225_4, w225_7, w225_10, w225_11, w225_14, w225_15, w225_16, w225_17, w225_20, w225_21, w225_24, w225_27, w225_28, w225_29, w225_30, w225_32, w225_33, w225_36, w225_39, w225_40, w225_43, w225_44, w225_45, w225_48, w225_51, w225_52, w225_55, w225_57, w225_58, w225_59, w225_60, w225_61, w225_62, w225_63, w225_64, w225_67, w225_70, w225_73, w225_74, w225_77, w225_79, w225_80, w225_81, w225_82, w225_83, w225_84, w225_85, w225_88, w225_90, w225_91, w225_92, w225_93, Ko_n, Ko_v, vX_i, vX_r, vX_l, vX_j, reduceIte]
      rw [c210 (K := ngP K n) (by rw [upA_s]), e1, e2]
      simp (disch := (first | assumption | omega | exact Nat.le_of_ble_eq_true rfl | rfl)) only [w225_0, w225_1, w225_3, w225_4, w225_7, w225_10, w225_11, w225_14, w225_15, w225_16, w225_17, w225_20, w225_21, w225_24, w225_27, w225_28, w225_29, w225_30, w225_32, w225_33, w225_36, w225_39, w225_40, w225_43, w225_44, w225_45, w225_48, w225_51, w225_52, w225_55, w225_57, w225_58, w225_59, w225_60, w225_61, w225_62, w225_63, w225_64, w225_67, w225_70, w225_73, w225_74, w225_77, w225_79, w225_80, w225_81, w225_82, w225_83, w225_84, w225_85, w225_88, w225_90, w225_91, w225_92, w225_93, Ko_n, Ko_v, vX_i, vX_r, vX_l, vX_j, reduceIte, hn', Int.le_refl, upA_s, upA_upA, e90]
      rw [ec, ← eK] at hq
      rw [hn'] at hq
      exact hq
    | succ m ih =>
      intro n S G hn hG
      have ih' := ih (n + 1) S G (by omega) hG
      have hGn := hG n (by omega) (by omega)
      have e1 : ngP K n 1 = K 1 := by unfold ngP; rw [if_neg (by omega)]
      have e2 : ngP K n 2 = K 2 := by unfold ngP; rw [if_neg (by omega)]
      rw [show ((n + 1 : Nat) : Int) = (n : Int) + 1 by omega, ngP_s (by omega), show cnt (grK K) (n + 1) = cnt (grK K) n + (if grK K n = true then 1 else 0) from rfl] at ih'
      rw [w225_31]
      simp (disch := (first | assumption | omega | exact Nat.le_of_ble_eq_true rfl | rfl)) only [w225_0, w225_1, w225_3, w225_4, w225_7, w225_10, w225_11, w225_14, w225_15, w225_16, w225_17, w225_20, w225_21, w225_24, w225_27, w225_28, w225_29, w225_30, w225_32, w225_33, w225_36, w225_39, w225_40, w225_43, w225_44, w225_45, w225_48, w225_51, w225_52, w225_55, w225_57, w225_58, w225_59, w225_60, w225_61, w225_62, w225_63, w225_64, w225_67, w225_70, w225_73, w225_74, w225_77, w225_79, w225_80, w225_81, w225_82, w225_83, w225_84, w225_85, w225_88, w225_90, w225_91, w225_92, w225_93, Ko_n, Ko_v, vX_i, vX_r, vX_l, vX_j, reduceIte]
      rw [c210 (K := ngP K n) (by rw [upA_s]), e1, e2]
      by_cases g : grK K n = true
      · rw [if_pos g, if_pos g] at ih'
        rw [if_pos g] at hGn
        simp (disch := (first | assumption | omega | exact Nat.le_of_ble_eq_true rfl | rfl)) only [w225_0, w225_1, w225_3, w225_4, w225_7, w225_10, w225_11, w225_14, w225_15, w225_16, w225_17, w225_20, w225_21, w225_24, w225_27, w225_28, w225_29, w225_30, w225_32, w225_33, w225_36, w225_39, w225_40, w225_43, w225_44, w225_45, w225_48, w225_51, w225_52, w225_55, w225_57, w225_58, w225_59, w225_60, w225_61, w225_62, w225_63, w225_64, w225_67, w225_70, w225_73, w225_74, w225_77, w225_79, w225_80, w225_81, w225_82, w225_83, w225_84, w225_85, w225_88, w225_90, w225_91, w225_92, w225_93, Ko_n, Ko_v, vX_i, vX_r, vX_l, vX_j, reduceIte, show ¬ K 1 * K 2 ≤ (n : Int) by omega, upA_s, upA_t, hGn, Int.reduceEq, not_false_eq_true, upA_upA]
        exact ih'
      · rw [if_neg g, if_neg g, Int.add_zero] at ih'
        rw [if_neg g] at hGn
        simp (disch := (first | assumption | omega | exact Nat.le_of_ble_eq_true rfl | rfl)) only [w225_0, w225_1, w225_3, w225_4, w225_7, w225_10, w225_11, w225_14, w225_15, w225_16, w225_17, w225_20, w225_21, w225_24, w225_27, w225_28, w225_29, w225_30, w225_32, w225_33, w225_36, w225_39, w225_40, w225_43, w225_44, w225_45, w225_48, w225_51, w225_52, w225_55, w225_57, w225_58, w225_59, w225_60, w225_61, w225_62, w225_63, w225_64, w225_67, w225_70, w225_73, w225_74, w225_77, w225_79, w225_80, w225_81, w225_82, w225_83, w225_84, w225_85, w225_88, w225_90, w225_91, w225_92, w225_93, Ko_n, Ko_v, vX_i, vX_r, vX_l, vX_j, reduceIte, show ¬ K 1 * K 2 ≤ (n : Int) by omega, upA_s, upA_t, hGn, not_true]
        exact ih'
  have loop : ∀ (m n : Nat) (S G : Int → Int), (n : Int) + m = K 1 * K 2 → (∀ j : Int, 0 ≤ j → j < n → G j = if grK K j then 1 else 0) → Wp (d + 5) M_X12_night 2 [.ref 382, .int (i32 n), vmJ] [] (E T (upA (upA σ 1217 382 S) 1218 382 G)) Q := by
    intro m
    induction m with
    | zero =>
      intro n S G hn hG
      have hn' : (n : Int) = K 1 * K 2 := by omega
      have f := fin (K 1 * K 2).toNat 0 S G (by omega) (fun j j0 j1 => hG j j0 (by omega))
      rw [show ((0 : Nat) : Int) = 0 from rfl, ngP_0, show cnt (grK K) 0 = 0 from rfl] at f
      have eS : upA (upA (upA σ 1217 382 S) 1218 382 G) 1200 382 K = upA (upA σ 1217 382 S) 1218 382 G := by
        have : K = (upA (upA σ 1217 382 S) 1218 382 G) 1200 382 := by rw [upA_t (by omega), upA_t (by omega), hK]
        conv => lhs; rw [this]
        exact upA_self
      rw [eS] at f
      rw [w225_2]
      simp (disch := (first | assumption | omega | exact Nat.le_of_ble_eq_true rfl | rfl)) only [w225_3, w225_4, w225_7, w225_10, w225_11, w225_14, w225_15, w225_16, w225_17, w225_20, w225_21, w225_24, w225_27, w225_28, w225_29, w225_30, Ko_n, Ko_v, vX_i, vX_r, vX_l, vX_j, reduceIte]
      rw [c210 (K := K) (by rw [upA_t (by omega), upA_t (by omega)]; exact hK)]
      simp (disch := (first | assumption | omega | exact Nat.le_of_ble_eq_true rfl | rfl)) only [w225_3, w225_4, w225_7, w225_10, w225_11, w225_14, w225_15, w225_16, w225_17, w225_20, w225_21, w225_24, w225_27, w225_28, w225_29, w225_30, Ko_n, Ko_v, vX_i, vX_r, vX_l, vX_j, reduceIte, hn', Int.le_refl]
      exact f
    | succ m ih =>
      intro n S G hn hG
      rw [w225_2]
      simp (disch := (first | assumption | omega | exact Nat.le_of_ble_eq_true rfl | rfl)) only [w225_3, w225_4, w225_7, w225_10, w225_11, w225_14, w225_15, w225_16, w225_17, w225_20, w225_21, w225_24, w225_27, w225_28, w225_29, w225_30, Ko_n, Ko_v, vX_i, vX_r, vX_l, vX_j, reduceIte]
      rw [c210 (K := K) (by rw [upA_t (by omega), upA_t (by omega)]; exact hK)]
      simp (disch := (first | assumption | omega | exact Nat.le_of_ble_eq_true rfl | rfl)) only [w225_3, w225_4, w225_7, w225_10, w225_11, w225_14, w225_15, w225_16, w225_17, w225_20, w225_21, w225_24, w225_27, w225_28, w225_29, w225_30, Ko_n, Ko_v, vX_i, vX_r, vX_l, vX_j, reduceIte, show ¬ K 1 * K 2 ≤ (n : Int) by omega]
      refine c224 (K := K) (by rw [upA_t (by omega), upA_t (by omega)]; exact hK) hv hB hl hr (hw2 (by omega)) (by omega) (by omega) fun S2 => ?_
      have e : upA (upA (upA σ 1217 382 S) 1218 382 G) 1217 382 S2 = upA (upA σ 1217 382 S2) 1218 382 G := by
        rw [upA_comm (t := 1218) (t' := 1217) (by omega), upA_upA]
      rw [e]
      have ih' := ih (n + 1) S2 (fu G n (if grK K n then 1 else 0)) (by omega) (fun j j0 j1 => by
        by_cases ej : j = n
        · rw [ej, fu_s]
        · rw [fu_n ej]; exact hG j j0 (by omega))
      cases g : grK K n with
      | true =>
        rw [g] at ih'
        simp (disch := (first | assumption | omega | exact Nat.le_of_ble_eq_true rfl | rfl)) only [w225_3, w225_4, w225_7, w225_10, w225_11, w225_14, w225_15, w225_16, w225_17, w225_20, w225_21, w225_24, w225_27, w225_28, w225_29, w225_30, Ko_n, Ko_v, vX_i, vX_r, vX_l, vX_j, reduceIte, upA_s, upA_upA]
        exact ih'
      | false =>
        rw [g] at ih'
        simp (disch := (first | assumption | omega | exact Nat.le_of_ble_eq_true rfl | rfl)) only [w225_3, w225_4, w225_7, w225_10, w225_11, w225_14, w225_15, w225_16, w225_17, w225_20, w225_21, w225_24, w225_27, w225_28, w225_29, w225_30, Ko_n, Ko_v, vX_i, vX_r, vX_l, vX_j, reduceIte, upA_s, upA_upA, Bool.false_eq_true]
        exact ih'
  have l := loop (K 1 * K 2).toNat 0 (σ 1217 382) (σ 1218 382) (by omega) (fun j j0 j1 => by omega)
  have eS : upA (upA σ 1217 382 (σ 1217 382)) 1218 382 (σ 1218 382) = σ := by
    rw [upA_self, upA_self]
  rw [eS] at l
  simp (disch := (first | assumption | omega | exact Nat.le_of_ble_eq_true rfl | rfl)) only [w225_0, w225_1, Ko_n, Ko_v, vX_i, vX_r, vX_l, vX_j, reduceIte]
  exact l
def prR (K : Int → Int) (w z : Int) : Int := if K (7 + z) = 4 then hiR else cfR K w z
theorem cfR_in {K : Int → Int} {B w z : Int} (hv : scV K 7 B) (z0 : 0 ≤ z) (z1 : z < 36) : 1 ≤ cfR K w z ∧ cfR K w z ≤ 181 := by
  have := hcR_in hv z0 z1
  unfold cfR
  split <;> omega
theorem c231 {d : Nat} {k w B : Int} {K : Int → Int} {T : Tt} {σ : St} {Q : vmO → vmH → Prop} (hK : σ 1200 382 = K) (hv : kV K B) (hB : B < 900000000) (w0 : -1 ≤ w) (w1 : w < 5) : Ca (d + 4) k 231 [.ref 382, .int (i32 w)] (E T σ) Q = Q (.inl none) (E T (upA σ 1219 382 (cp (prR K w) (σ 1219 382) (K 1 * K 2)))) := by
  have h0 := ob_md
  have hm := wh_mul0 hv.1.1
  rw [n231 _ _ _ _ _ _ _ h0]
  have loop : ∀ (m n : Nat), (n : Int) + m = K 1 * K 2 → Wp (d + 4) M_X12_laysPrice 2 [.ref 382, .int (i32 w), .int (i32 n)] [] (E T (upA σ 1219 382 (cp (prR K w) (σ 1219 382) n))) Q = Q (.inl none) (E T (upA σ 1219 382 (cp (prR K w) (σ 1219 382) (K 1 * K 2)))) := by
    intro m
    induction m with
    | zero =>
      intro n hn
      have hn' : (n : Int) = K 1 * K 2 := by omega
      rw [w231_2]
      simp (disch := (first | assumption | omega | exact Nat.le_of_ble_eq_true rfl | rfl)) only [w231_0, w231_1, w231_3, w231_4, w231_7, w231_10, w231_11, w231_14, w231_15, w231_16, w231_17, w231_20, w231_21, w231_24, w231_27, w231_30, w231_31, w231_32, w231_33, w231_36, w231_37, w231_40, w231_43, Ko_n, Ko_v, vX_i, vX_r, vX_l, vX_j, reduceIte]
      rw [c210 (K := K) (by rw [upA_t (by omega)]; exact hK)]
      simp (disch := (first | assumption | omega | exact Nat.le_of_ble_eq_true rfl | rfl)) only [w231_0, w231_1, w231_3, w231_4, w231_7, w231_10, w231_11, w231_14, w231_15, w231_16, w231_17, w231_20, w231_21, w231_24, w231_27, w231_30, w231_31, w231_32, w231_33, w231_36, w231_37, w231_40, w231_43, Ko_n, Ko_v, vX_i, vX_r, vX_l, vX_j, reduceIte, hn', Int.le_refl]
    | succ m ih =>
      intro n hn
      have ih' := ih (n + 1) (by omega)
      rw [show ((n + 1 : Nat) : Int) = (n : Int) + 1 by omega, ← cp_fu (by omega)] at ih'
      have hc := kV_c hv.2.1 (z := (n : Int)) (by omega) (by omega)
      rw [w231_2]
      simp (disch := (first | assumption | omega | exact Nat.le_of_ble_eq_true rfl | rfl)) only [w231_0, w231_1, w231_3, w231_4, w231_7, w231_10, w231_11, w231_14, w231_15, w231_16, w231_17, w231_20, w231_21, w231_24, w231_27, w231_30, w231_31, w231_32, w231_33, w231_36, w231_37, w231_40, w231_43, Ko_n, Ko_v, vX_i, vX_r, vX_l, vX_j, reduceIte]
      rw [c210 (K := K) (by rw [upA_t (by omega)]; exact hK)]
      simp (disch := (first | assumption | omega | exact Nat.le_of_ble_eq_true rfl | rfl)) only [w231_0, w231_1, w231_3, w231_4, w231_7, w231_10, w231_11, w231_14, w231_15, w231_16, w231_17, w231_20, w231_21, w231_24, w231_27, w231_30, w231_31, w231_32, w231_33, w231_36, w231_37, w231_40, w231_43, Ko_n, Ko_v, vX_i, vX_r, vX_l, vX_j, reduceIte, show ¬ K 1 * K 2 ≤ (n : Int) by omega]
      rw [c211 (K := K) (by rw [upA_t (by omega)]; exact hK) (by omega) (by omega)]
      by_cases e : K (7 + n) = 4
      · rw [show prR K w n = hiR by unfold prR; rw [if_pos e]] at ih'
        simp (disch := (first | assumption | omega | exact Nat.le_of_ble_eq_true rfl | rfl)) only [w231_0, w231_1, w231_3, w231_4, w231_7, w231_10, w231_11, w231_14, w231_15, w231_16, w231_17, w231_20, w231_21, w231_24, w231_27, w231_30, w231_31, w231_32, w231_33, w231_36, w231_37, w231_40, w231_43, Ko_n, Ko_v, vX_i, vX_r, vX_l, vX_j, reduceIte, e, not_true, upA_s, upA_upA]
        exact ih'
      · rw [show prR K w n = cfR K w n by unfold prR; rw [if_neg e]] at ih'
        simp (disch := (first | assumption | omega | exact Nat.le_of_ble_eq_true rfl | rfl)) only [w231_0, w231_1, w231_3, w231_4, w231_7, w231_10, w231_11, w231_14, w231_15, w231_16, w231_17, w231_20, w231_21, w231_24, w231_27, w231_30, w231_31, w231_32, w231_33, w231_36, w231_37, w231_40, w231_43, Ko_n, Ko_v, vX_i, vX_r, vX_l, vX_j, reduceIte, e, not_false_eq_true]
        rw [c218 (K := K) (by rw [upA_t (by omega)]; exact hK) hv hB w0 w1 (by omega) (by omega)]
        simp (disch := (first | assumption | omega | exact Nat.le_of_ble_eq_true rfl | rfl)) only [w231_0, w231_1, w231_3, w231_4, w231_7, w231_10, w231_11, w231_14, w231_15, w231_16, w231_17, w231_20, w231_21, w231_24, w231_27, w231_30, w231_31, w231_32, w231_33, w231_36, w231_37, w231_40, w231_43, Ko_n, Ko_v, vX_i, vX_r, vX_l, vX_j, reduceIte, upA_s, upA_upA]
        exact ih'
  have l := loop (K 1 * K 2).toNat 0 (by omega)
  rw [show ((0 : Nat) : Int) = 0 from rfl, cp_0, upA_self] at l
  simp (disch := (first | assumption | omega | exact Nat.le_of_ble_eq_true rfl | rfl)) only [w231_0, w231_1, w231_3, w231_4, w231_7, w231_10, w231_11, w231_14, w231_15, w231_16, w231_17, w231_20, w231_21, w231_24, w231_27, w231_30, w231_31, w231_32, w231_33, w231_36, w231_37, w231_40, w231_43, Ko_n, Ko_v, vX_i, vX_r, vX_l, vX_j, reduceIte]
  exact l
