/-! ===== the reference: cleared, clipFor ===== -/
def cdK2 (K : Int → Int) (w : Int) : Nat → Int → Int := clR (K 1) (K 2) (nK K) (kdK K 7) (prK K w) (dK K w)
theorem kdC_K {K : Int → Int} {B w : Int} (hv : kV K B) : kdC (kdK K 7) (prK K w) (K 1 * K 2) := fun z z0 z1 => by
  have hm := wh_mul0 hv.1.1
  have hc := (kV_c hv.2.1 (z := z) z0 (by omega)).1
  have pw := prK_w (w := w) hv.2.1 z0 (show z < 36 by omega)
  refine ⟨fun h => fun e => ?_, fun h => ?_⟩
  · have h' := of_decide_eq_true h
    exact h'.2.2.2 (pw.mp e)
  · by_cases e0 : K (7 + z) = 0
    · right
      unfold prK cst
      rw [if_neg (show ¬ kdK K 7 z = 4 by unfold kdK; omega), if_pos (Or.inr (show kdK K 7 z = 0 from e0))]
    · left
      exact decide_eq_true ⟨z0, by omega, e0, fun e => h (pw.mpr e)⟩
theorem cdK2_ok {K : Int → Int} {B w : Int} (hv : kV K B) (w0 : 0 ≤ w) (w1 : w < K 3) (n : Nat) : (bnR (cdK2 K w n) (K 1 * K 2) ∧ frIn (cdK2 K w n) ∧ cl1 (K 1) (K 2) (prK K w) (cdK2 K w n)) ∧ gr1 (K 1) (K 2) (prK K w) (clr (K 1) (K 2) (kdK K 7) (cdK2 K w n)) (cdK2 K w (n + 1)) := by
  have h2 := (kV_w hv w0 w1).1
  have hc := prK_cs (w := w) hv.1 hv.2.1
  have hN := nK_c hv.1
  exact clR_ok h2 hN hc (kdC_K hv) (fun z z0 z1 => dK_b hv w0 w1 z0 z1) (dD_fr h2 hc hN) (dD_gr h2 hc hN).2.1 n
def clW (σ : St) (K : Int → Int) (w : Int) (n : Nat) : Prop := ∀ z, 0 ≤ z → z < K 1 * K 2 → σ 1227 382 (36 * n + z) = rf (cdK2 K w n z)
def prW (σ : St) (K : Int → Int) (w : Int) : Prop := ∀ z, 0 ≤ z → z < K 1 * K 2 → σ 1219 382 z = rp (prK K w z)
theorem clS1 {d n : Nat} {k w B : Int} {K : Int → Int} {T : Tt} {σ τ : St} {Q : vmO → vmH → Prop} (hv : kV K B) (w0 : 0 ≤ w) (w1 : w < K 3) (n36 : n ≤ 36) (hf : fq σ τ) (hK : τ 1200 382 = K) (hP : prW τ K w) (hR : ∀ m : Nat, n = m + 1 → clW τ K w m) (hD : n = 0 → ∀ z, 0 ≤ z → z < K 1 * K 2 → τ 1220 382 z = rf (dK K w z))
    (hQ : ∀ τ', fq σ τ' → τ' 1200 382 = K → prW τ' K w → clW τ' K w n → Q (.inl none) (E T τ')) : Ca (d + 2) k 267 [.ref 382, .int (i32 n)] (E T τ) Q := by
  have h2 := (kV_w hv w0 w1).1
  have fin : ∀ F, (∀ z, 0 ≤ z → z < K 1 * K 2 → F (36 * n + z) = rf (cdK2 K w n z)) → Q (.inl none) (E T (upA τ 1227 382 F)) := fun F hF => hQ _ (fq_u hf (by omega)) (by rw [upA_t (by omega)]; exact hK) (fun z z0 z1 => by rw [upA_t (by omega)]; exact hP z z0 z1) (fun z z0 z1 => by rw [upA_s]; exact hF z z0 z1)
  cases n with
  | zero => exact c267_0 (y := dK K w) hK h2 (hD rfl) (fun F hF => fin F hF)
  | succ m =>
    have a := cdK2_ok hv w0 w1 m
    refine c267 (n := m + 1) hK h2 (nK_c hv.1) (prK_cs (w := w) hv.1 hv.2.1) hP (kdC_K hv) a.1.1 a.1.2.2 a.2 (by omega) n36 (fun z z0 z1 => ?_) fin
    rw [show 36 * ((m + 1 : Nat) : Int) - 36 + z = 36 * (m : Int) + z by omega]
    exact hR m rfl z z0 z1
theorem c268 {d : Nat} {k w z n B : Int} {K : Int → Int} {T : Tt} {σ : St} {Q : vmO → vmH → Prop} (hK : σ 1200 382 = K) (hv : kV K B) (hB : B < 900000000) (x0 : -2147483648 ≤ w) (x1 : w < 2147483648) (y0 : -2147483648 ≤ z) (y1 : z < 2147483648) (u0 : -2147483648 ≤ n) (u1 : n < 2147483648)
    (hQ1 : ∀ u, ((¬ wzI K w z ∧ u = 1) ∨ (wzI K w z ∧ ¬ (0 ≤ n ∧ n ≤ 36) ∧ u = 2)) → ∀ τ, fT σ τ → τ 1200 382 = K → τ 1204 382 0 = u → Q (.inl (some (.int (i32 0)))) (E T τ))
    (hQ2 : wzI K w z → (0 ≤ n ∧ n ≤ 36) → ∀ τ, fT σ τ → τ 1200 382 = K → τ 1204 382 0 = 0 → Q (.inl (some (.int (i32 (orN (cdK2 K w n.toNat z)))))) (E T τ)) : Ca (d + 7) k 268 [.ref 382, .int (i32 w), .int (i32 z), .int (i32 n)] (E T σ) Q := by
  have h0 := ob_md
  have hfar : far = 1000000000 := rfl
  have hhi : hiR = 536870912 := rfl
  have kU : ∀ u, (upA σ 1204 382 fun _ => u) 1200 382 = K := fun u => by rw [upA_t (by omega)]; exact hK
  have fU : ∀ u, fT σ (upA σ 1204 382 fun _ => u) := fun u => fT_u fT_r (by omega)
  have sU : ∀ u, (upA σ 1204 382 fun _ => u) 1204 382 0 = u := fun u => by rw [upA_s]
  rw [n268 _ _ _ _ _ _ _ _ _ h0]
  simp (disch := (first | assumption | omega | exact Nat.le_of_ble_eq_true rfl | rfl)) only [w268_0, w268_1, w268_2, w268_3, Ko_n, Ko_v, vX_i, vX_r, vX_l, vX_j, reduceIte]
  refine c237 hK hv x0 x1 y0 y1 (fun a => ?_) (fun a => ?_)
  · have hq := hQ2 a
    have z36 : 0 ≤ z ∧ z < 36 := by
      have := wh_mul0 hv.1.1
      have := a.2
      omega
    simp (disch := (first | assumption | omega | exact Nat.le_of_ble_eq_true rfl | rfl)) only [w268_6, w268_9, w268_10, w268_11, w268_12, w268_13, w268_14, w268_17, Ko_n, Ko_v, vX_i, vX_r, vX_l, vX_j, reduceIte]
    rw [c176 (by omega) (by omega) (by omega) (by omega) (by omega) (by omega) (by omega)]
    by_cases b : 0 ≤ n ∧ n ≤ 36
    · have hq := hq b
      simp (disch := (first | assumption | omega | exact Nat.le_of_ble_eq_true rfl | rfl)) only [w268_20, w268_23, w268_24, w268_25, w268_28, w268_29, w268_30, w268_31, Ko_n, Ko_v, vX_i, vX_r, vX_l, vX_j, reduceIte, b, Int.reduceEq, not_false_eq_true, and_self]
      refine c234 (kU 0) hv hB a.1.1 a.1.2 fun τ g1 g2 g3 => ?_
      have loop : ∀ (m i : Nat) (τ : St), (i : Int) + m = n + 1 → fq (upA σ 1204 382 fun _ => 0) τ → τ 1200 382 = K → prW τ K w → (∀ m : Nat, i = m + 1 → clW τ K w m) → (i = 0 → ∀ z, 0 ≤ z → z < K 1 * K 2 → τ 1220 382 z = rf (dK K w z)) → Wp (d + 7) M_X12_cleared 37 [.ref 382, .int (i32 w), .int (i32 z), .int (i32 n), .int (i32 i)] [] (E T τ) Q := by
        intro m
        induction m with
        | zero =>
          intro i τ hi g1 g2 g3 g4 g5
          have ft := fT_q g1
          have gz := g4 n.toNat (by omega) z a.2.1 a.2.2
          rw [show ((n.toNat : Nat) : Int) = n by omega] at gz
          have q := hq τ ft.1 g2 ft.2
          have rb := rf_in ((cdK2_ok hv a.1.1 a.1.2 n.toNat).1.1 z a.2.1 a.2.2)
          rw [w268_37]
          simp (disch := (first | assumption | omega | exact Nat.le_of_ble_eq_true rfl | rfl)) only [w268_39, w268_40, w268_43, w268_44, w268_46, w268_49, w268_52, w268_55, w268_56, w268_59, w268_61, w268_62, w268_63, w268_64, w268_65, w268_66, Ko_n, Ko_v, vX_i, vX_r, vX_l, vX_j, reduceIte, show n < (i : Int) by omega, gz]
          rw [c235 (by omega) (by omega) (by omega)]
          simp (disch := (first | assumption | omega | exact Nat.le_of_ble_eq_true rfl | rfl)) only [w268_69, Ko_n, Ko_v, vX_i, vX_r, vX_l, vX_j, reduceIte]
          have e : (if rf (cdK2 K w n.toNat z) < hiR then rf (cdK2 K w n.toNat z) else -1) = orN (cdK2 K w n.toNat z) := by
            unfold orN
            rcases rb with rb | rb
            · rw [rb.2.2, if_pos (by omega), if_pos (by omega)]
            · rw [rb.2, if_neg (by omega), if_neg (by omega)]
          rw [e]
          exact q
        | succ m ih =>
          intro i τ hi g1 g2 g3 g4 g5
          rw [w268_37]
          simp (disch := (first | assumption | omega | exact Nat.le_of_ble_eq_true rfl | rfl)) only [w268_39, w268_40, w268_43, w268_44, w268_46, Ko_n, Ko_v, vX_i, vX_r, vX_l, vX_j, reduceIte, show ¬ n < (i : Int) by omega]
          conv => arg 1; rw [show d + 6 = (d + 4) + 2 from rfl]
          refine clS1 hv a.1.1 a.1.2 (by omega) g1 g2 g3 g4 g5 fun τ' f1 f2 f3 f4 => ?_
          simp (disch := (first | assumption | omega | exact Nat.le_of_ble_eq_true rfl | rfl)) only [w268_49, w268_52, Ko_n, Ko_v, vX_i, vX_r, vX_l, vX_j, reduceIte]
          exact ih (i + 1) τ' (by omega) f1 f2 f3 (fun m hm => by rw [show m = i by omega]; exact f4) (fun e => by omega)
      simp (disch := (first | assumption | omega | exact Nat.le_of_ble_eq_true rfl | rfl)) only [w268_34, w268_35, Ko_n, Ko_v, vX_i, vX_r, vX_l, vX_j, reduceIte]
      exact loop (n.toNat + 1) 0 τ (by omega) g1 g2 g3.1 (fun m hm => by omega) (fun _ => g3.2)
    · simp (disch := (first | assumption | omega | exact Nat.le_of_ble_eq_true rfl | rfl)) only [w268_20, w268_23, w268_24, w268_25, Ko_n, Ko_v, vX_i, vX_r, vX_l, vX_j, reduceIte, b]
      rw [c175]
      simp (disch := (first | assumption | omega | exact Nat.le_of_ble_eq_true rfl | rfl)) only [w268_28, Ko_n, Ko_v, vX_i, vX_r, vX_l, vX_j, reduceIte, upA_upA]
      exact hQ1 2 (Or.inr ⟨a, b, rfl⟩) _ (fU _) (kU _) (sU _)
  · simp (disch := (first | assumption | omega | exact Nat.le_of_ble_eq_true rfl | rfl)) only [w268_6, w268_9, w268_10, w268_11, w268_12, w268_13, w268_14, w268_17, Ko_n, Ko_v, vX_i, vX_r, vX_l, vX_j, reduceIte, Int.reduceEq]
    exact hQ1 1 (Or.inl ⟨a, rfl⟩) _ (fU _) (kU _) (sU _)
def cfK (K : Int → Int) (w z s wh : Int) : Int := if fst1 (fun n => decide (cdK2 K w n z < far ∧ cdK2 K w n z ≤ s)) 37 = -1 then -1 else if wh = 0 then fst1 (fun n => decide (cdK2 K w n z < far ∧ cdK2 K w n z ≤ s)) 37 else cdK2 K w (fst1 (fun n => decide (cdK2 K w n z < far ∧ cdK2 K w n z ≤ s)) 37).toNat z
theorem c269 {d : Nat} {k w z s wh B : Int} {K : Int → Int} {T : Tt} {σ : St} {Q : vmO → vmH → Prop} (hK : σ 1200 382 = K) (hv : kV K B) (hB : B < 900000000) (x0 : -2147483648 ≤ w) (x1 : w < 2147483648) (y0 : -2147483648 ≤ z) (y1 : z < 2147483648) (u0 : -2147483648 ≤ s) (u1 : s < 2147483648) (v0 : -2147483648 ≤ wh) (v1 : wh < 2147483648)
    (hQ1 : ∀ u, ((¬ wzI K w z ∧ u = 1) ∨ (wzI K w z ∧ ¬ (0 ≤ s ∧ 0 ≤ wh ∧ wh ≤ 1) ∧ u = 2)) → ∀ τ, fT σ τ → τ 1200 382 = K → τ 1204 382 0 = u → Q (.inl (some (.int (i32 0)))) (E T τ))
    (hQ2 : wzI K w z → (0 ≤ s ∧ 0 ≤ wh ∧ wh ≤ 1) → ∀ τ, fT σ τ → τ 1200 382 = K → τ 1204 382 0 = 0 → Q (.inl (some (.int (i32 (cfK K w z s wh))))) (E T τ)) : Ca (d + 7) k 269 [.ref 382, .int (i32 w), .int (i32 z), .int (i32 s), .int (i32 wh)] (E T σ) Q := by
  have h0 := ob_md
  have hfar : far = 1000000000 := rfl
  have hhi : hiR = 536870912 := rfl
  have kU : ∀ u, (upA σ 1204 382 fun _ => u) 1200 382 = K := fun u => by rw [upA_t (by omega)]; exact hK
  have fU : ∀ u, fT σ (upA σ 1204 382 fun _ => u) := fun u => fT_u fT_r (by omega)
  have sU : ∀ u, (upA σ 1204 382 fun _ => u) 1204 382 0 = u := fun u => by rw [upA_s]
  rw [n269 _ _ _ _ _ _ _ _ _ _ h0]
  simp (disch := (first | assumption | omega | exact Nat.le_of_ble_eq_true rfl | rfl)) only [w269_0, w269_1, w269_2, w269_3, Ko_n, Ko_v, vX_i, vX_r, vX_l, vX_j, reduceIte]
  refine c237 hK hv x0 x1 y0 y1 (fun a => ?_) (fun a => ?_)
  · have hq := hQ2 a
    have z36 : 0 ≤ z ∧ z < 36 := by
      have := wh_mul0 hv.1.1
      have := a.2
      omega
    have bad : ¬ (0 ≤ s ∧ 0 ≤ wh ∧ wh ≤ 1) → Wp (d + 7) M_X12_clipFor 26 [.ref 382, .int (i32 w), .int (i32 z), .int (i32 s), .int (i32 wh), vmJ, vmJ] [] (E T (upA σ 1204 382 fun _ => 0)) Q := by
      intro b
      simp (disch := (first | assumption | omega | exact Nat.le_of_ble_eq_true rfl | rfl)) only [w269_26, w269_27, w269_28, Ko_n, Ko_v, vX_i, vX_r, vX_l, vX_j, reduceIte]
      rw [c175]
      simp (disch := (first | assumption | omega | exact Nat.le_of_ble_eq_true rfl | rfl)) only [w269_31, Ko_n, Ko_v, vX_i, vX_r, vX_l, vX_j, reduceIte, upA_upA]
      exact hQ1 2 (Or.inr ⟨a, b, rfl⟩) _ (fU _) (kU _) (sU _)
    by_cases b1 : s < 0
    · simp (disch := (first | assumption | omega | exact Nat.le_of_ble_eq_true rfl | rfl)) only [w269_6, w269_9, w269_10, w269_11, w269_12, w269_15, w269_17, w269_18, w269_19, w269_20, w269_23, Ko_n, Ko_v, vX_i, vX_r, vX_l, vX_j, reduceIte, b1]
      exact bad (by omega)
    · simp (disch := (first | assumption | omega | exact Nat.le_of_ble_eq_true rfl | rfl)) only [w269_6, w269_9, w269_10, w269_11, w269_12, w269_15, w269_17, w269_18, w269_19, w269_20, Ko_n, Ko_v, vX_i, vX_r, vX_l, vX_j, reduceIte, b1]
      rw [c176 (by omega) (by omega) (by omega) (by omega) (by omega) (by omega) (by omega)]
      by_cases b : 0 ≤ wh ∧ wh ≤ 1
      · have hq := hq ⟨by omega, b⟩
        simp (disch := (first | assumption | omega | exact Nat.le_of_ble_eq_true rfl | rfl)) only [w269_23, w269_26, w269_27, w269_28, w269_31, w269_32, w269_33, w269_34, Ko_n, Ko_v, vX_i, vX_r, vX_l, vX_j, reduceIte, b, Int.reduceEq, not_false_eq_true, and_self]
        refine c234 (kU 0) hv hB a.1.1 a.1.2 fun τ g1 g2 g3 => ?_
        unfold cfK at hq
        generalize hP : (fun n => decide (cdK2 K w n z < far ∧ cdK2 K w n z ≤ s)) = P at hq
        have PE : ∀ i, P i = decide (cdK2 K w i z < far ∧ cdK2 K w i z ≤ s) := fun i => by rw [← hP]
        have loop : ∀ (m i : Nat) (τ : St) (l6 : Value), i + m = 37 → fst1 P i = -1 → fq (upA σ 1204 382 fun _ => 0) τ → τ 1200 382 = K → prW τ K w → (∀ m : Nat, i = m + 1 → clW τ K w m) → (i = 0 → ∀ z, 0 ≤ z → z < K 1 * K 2 → τ 1220 382 z = rf (dK K w z)) → Wp (d + 7) M_X12_clipFor 40 [.ref 382, .int (i32 w), .int (i32 z), .int (i32 s), .int (i32 wh), .int (i32 i), l6] [] (E T τ) Q := by
          intro m
          induction m with
          | zero =>
            intro i τ l6 hi hno g1 g2 g3 g4 g5
            have hi : i = 37 := by omega
            subst hi
            have ft := fT_q g1
            have q := hq τ ft.1 g2 ft.2
            rw [if_pos hno] at q
            rw [w269_40]
            simp (disch := (first | assumption | omega | exact Nat.le_of_ble_eq_true rfl | rfl)) only [w269_42, w269_44, w269_47, w269_48, w269_50, w269_53, w269_54, w269_57, w269_59, w269_61, w269_62, w269_63, w269_64, w269_65, w269_67, w269_69, w269_70, w269_73, w269_75, w269_78, w269_81, w269_83, w269_86, w269_88, w269_91, w269_93, w269_94, w269_97, w269_100, w269_101, Ko_n, Ko_v, vX_i, vX_r, vX_l, vX_j, reduceIte, show (36 : Int) < ((37 : Nat) : Int) by omega]
            exact q
          | succ m ih =>
            intro i τ l6 hi hno g1 g2 g3 g4 g5
            have fs : fst1 P (i + 1) = if fst1 P i = -1 then (if P i = true then (i : Int) else -1) else fst1 P i := rfl
            rw [if_pos hno, PE] at fs
            rw [w269_40]
            simp (disch := (first | assumption | omega | exact Nat.le_of_ble_eq_true rfl | rfl)) only [w269_42, w269_44, w269_47, w269_48, w269_50, Ko_n, Ko_v, vX_i, vX_r, vX_l, vX_j, reduceIte, show ¬ (36 : Int) < (i : Int) by omega]
            conv => arg 1; rw [show d + 6 = (d + 4) + 2 from rfl]
            refine clS1 hv a.1.1 a.1.2 (by omega) g1 g2 g3 g4 g5 fun τ' f1 f2 f3 f4 => ?_
            have ft := fT_q f1
            have gz := f4 z a.2.1 a.2.2
            have rb := rf_in ((cdK2_ok hv a.1.1 a.1.2 i).1.1 z a.2.1 a.2.2)
            have go : fst1 P (i + 1) = -1 → ∀ l6, Wp (d + 7) M_X12_clipFor 94 [.ref 382, .int (i32 w), .int (i32 z), .int (i32 s), .int (i32 wh), .int (i32 i), l6] [] (E T τ') Q := by
              intro hn l6
              simp (disch := (first | assumption | omega | exact Nat.le_of_ble_eq_true rfl | rfl)) only [w269_94, w269_97, Ko_n, Ko_v, vX_i, vX_r, vX_l, vX_j, reduceIte]
              exact ih (i + 1) τ' l6 (by omega) hn f1 f2 f3 (fun m hm => by rw [show m = i by omega]; exact f4) (fun e => by omega)
            by_cases e : cdK2 K w i z < far
            · rw [show rf (cdK2 K w i z) = cdK2 K w i z from if_pos e] at gz
              by_cases e2 : cdK2 K w i z ≤ s
              · rw [if_pos (decide_eq_true ⟨e, e2⟩)] at fs
                have q := hq τ' ft.1 f2 ft.2
                have up := fst1_up (P := P) (m := i + 1) (by rw [fs]; omega) (36 - i)
                rw [show i + 1 + (36 - i) = 37 by omega, fs] at up
                rw [up, if_neg (by omega), show ((i : Nat) : Int).toNat = i by omega] at q
                by_cases e4 : wh = 0
                · rw [if_pos e4] at q
                  simp (disch := (first | assumption | omega | exact Nat.le_of_ble_eq_true rfl | rfl)) only [w269_53, w269_54, w269_57, w269_59, w269_61, w269_62, w269_63, w269_64, w269_65, w269_67, w269_69, w269_70, w269_73, w269_75, w269_78, w269_81, w269_83, w269_86, w269_88, w269_91, w269_93, Ko_n, Ko_v, vX_i, vX_r, vX_l, vX_j, reduceIte, gz, show ¬ s < cdK2 K w i z by omega, show ¬ (536870912 : Int) ≤ cdK2 K w i z by omega, e4, not_true]
                  exact q
                · rw [if_neg e4] at q
                  simp (disch := (first | assumption | omega | exact Nat.le_of_ble_eq_true rfl | rfl)) only [w269_53, w269_54, w269_57, w269_59, w269_61, w269_62, w269_63, w269_64, w269_65, w269_67, w269_69, w269_70, w269_73, w269_75, w269_78, w269_81, w269_83, w269_86, w269_88, w269_91, w269_93, Ko_n, Ko_v, vX_i, vX_r, vX_l, vX_j, reduceIte, gz, show ¬ s < cdK2 K w i z by omega, show ¬ (536870912 : Int) ≤ cdK2 K w i z by omega, e4, not_false_eq_true]
                  exact q
              · rw [if_neg (fun h => e2 (of_decide_eq_true h).2)] at fs
                simp (disch := (first | assumption | omega | exact Nat.le_of_ble_eq_true rfl | rfl)) only [w269_53, w269_54, w269_57, w269_59, w269_61, w269_62, w269_63, w269_64, w269_65, w269_67, w269_69, w269_70, w269_73, w269_75, w269_78, w269_81, w269_83, w269_86, w269_88, w269_91, w269_93, Ko_n, Ko_v, vX_i, vX_r, vX_l, vX_j, reduceIte, gz, show s < cdK2 K w i z by omega]
                exact go fs _
            · rw [show rf (cdK2 K w i z) = 536870912 from if_neg e] at gz
              rw [if_neg (fun h => e (of_decide_eq_true h).1)] at fs
              by_cases e3 : s < 536870912
              · simp (disch := (first | assumption | omega | exact Nat.le_of_ble_eq_true rfl | rfl)) only [w269_53, w269_54, w269_57, w269_59, w269_61, w269_62, w269_63, w269_64, w269_65, w269_67, w269_69, w269_70, w269_73, w269_75, w269_78, w269_81, w269_83, w269_86, w269_88, w269_91, w269_93, Ko_n, Ko_v, vX_i, vX_r, vX_l, vX_j, reduceIte, gz, e3]
                exact go fs _
              · simp (disch := (first | assumption | omega | exact Nat.le_of_ble_eq_true rfl | rfl)) only [w269_53, w269_54, w269_57, w269_59, w269_61, w269_62, w269_63, w269_64, w269_65, w269_67, w269_69, w269_70, w269_73, w269_75, w269_78, w269_81, w269_83, w269_86, w269_88, w269_91, w269_93, Ko_n, Ko_v, vX_i, vX_r, vX_l, vX_j, reduceIte, gz, e3, Int.le_refl]
                exact go fs _
        simp (disch := (first | assumption | omega | exact Nat.le_of_ble_eq_true rfl | rfl)) only [w269_37, w269_38, Ko_n, Ko_v, vX_i, vX_r, vX_l, vX_j, reduceIte]
        exact loop 37 0 τ _ (by omega) rfl g1 g2 g3.1 (fun m hm => by omega) (fun _ => g3.2)
      · simp (disch := (first | assumption | omega | exact Nat.le_of_ble_eq_true rfl | rfl)) only [w269_23, Ko_n, Ko_v, vX_i, vX_r, vX_l, vX_j, reduceIte, b, not_true]
        exact bad (by omega)
  · simp (disch := (first | assumption | omega | exact Nat.le_of_ble_eq_true rfl | rfl)) only [w269_6, w269_9, w269_10, Ko_n, Ko_v, vX_i, vX_r, vX_l, vX_j, reduceIte, Int.reduceEq]
    exact hQ1 1 (Or.inl ⟨a, rfl⟩) _ (fU _) (kU _) (sU _)
