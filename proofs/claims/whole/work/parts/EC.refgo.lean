/-! ===== the reference: laysGo ===== -/
def gmF (K : Int → Int) (w y : Int) (s : Nat) : Int → Nat := fun b => if 1 ≤ prK K w b ∧ prK K w b ≤ s then gmK K w y (s - (prK K w b).toNat) b else 0
theorem gmF_0 {K : Int → Int} {w y z : Int} : sm4 (K 1) (K 2) (gmF K w y 0) z 4 = 0 := by
  have h : ¬ 0 < sm4 (K 1) (K 2) (gmF K w y 0) z 4 := by
    rw [sm4_pos]
    rintro ⟨d, _, _, hf⟩
    unfold gmF at hf
    rw [if_neg (by omega)] at hf
    exact absurd hf (Nat.lt_irrefl 0)
  omega
theorem c289 {d t : Nat} {k w y B : Int} {K : Int → Int} {T : Tt} {σ : St} {Q : vmO → vmH → Prop} (hK : σ 1200 382 = K) (hv : kV K B) (w0 : 0 ≤ w) (w1 : w < K 3) (hP : prW σ K w) (ht : t ≤ 30) (v0 : 0 ≤ y) (v1 : y < K 1 * K 2)
    (hQ : ∀ G, gmT (upA σ 1236 382 G) K w y t → Q (.inl none) (E T (upA σ 1236 382 G))) : Ca (d + 2) k 289 [.ref 382, .int (i32 y), .int (i32 t)] (E T σ) Q := by
  have h0 := ob_md
  obtain ⟨h2, h5, h6, h7⟩ := kV_w hv w0 w1
  have hm := wh_mul h2
  have hc := prK_cs (w := w) hv.1 hv.2.1
  have hhi : hiR = 536870912 := rfl
  rw [n289 _ _ _ _ _ _ _ _ h0]
  have kG : ∀ G, (upA σ 1236 382 G) 1200 382 = K := fun G => by rw [upA_t (by omega)]; exact hK
  have pG : ∀ G, prW (upA σ 1236 382 G) K w := fun G z z0 z1 => by rw [upA_t (by omega)]; exact hP z z0 z1
  have inner : ∀ (q e s : Nat) (z : Int) (G : Int → Int) (V : Nat) (l8 : Value), e + q = 4 → s ≤ t → 0 ≤ z → z < K 1 * K 2 → (∀ s' : Nat, s' < s → ∀ b : Int, 0 ≤ b → b < K 1 * K 2 → i64 (G (36 * s' + b)) = i64 (gmK K w y s' b : Nat)) → (∀ l8, Wp (d + 2) M_X12_laysGo 103 [.ref 382, .int (i32 y), .int (i32 t), .int (i32 s), .int (i32 z), .long (i64 (V + sr4 (K 1) (K 2) (gmF K w y s) z 4 : Nat)), vmJ, .int (i32 4), l8] [] (E T (upA σ 1236 382 G)) Q) → Wp (d + 2) M_X12_laysGo 39 [.ref 382, .int (i32 y), .int (i32 t), .int (i32 s), .int (i32 z), .long (i64 (V + sr4 (K 1) (K 2) (gmF K w y s) z e : Nat)), vmJ, .int (i32 e), l8] [] (E T (upA σ 1236 382 G)) Q := by
    intro q
    induction q with
    | zero =>
      intro e s z G V l8 he hs z0 z1 hG hk
      have he : e = 4 := by omega
      subst he
      rw [w289_39]
      simp (disch := (first | assumption | omega | exact Nat.le_of_ble_eq_true rfl | rfl)) only [w289_41, w289_42, w289_45, w289_46, w289_48, w289_50, w289_53, w289_55, w289_57, w289_58, w289_61, w289_62, w289_65, w289_67, w289_68, w289_69, w289_72, w289_74, w289_75, w289_78, w289_80, w289_81, w289_82, w289_85, w289_87, w289_88, w289_89, w289_90, w289_92, w289_93, w289_94, w289_95, w289_97, w289_100, Ko_n, Ko_v, vX_i, vX_r, vX_l, vX_j, reduceIte, show (4 : Int) ≤ ((4 : Nat) : Int) by omega]
      exact hk _
    | succ q ih =>
      intro e s z G V l8 he hs z0 z1 hG hk
      have ih' := fun l8 => ih (e + 1) s z G V l8 (by omega) hs z0 z1 hG hk
      rw [show sr4 (K 1) (K 2) (gmF K w y s) z (e + 1) = sr4 (K 1) (K 2) (gmF K w y s) z e + if bsC (K 1) (K 2) z e = -1 then 0 else gmF K w y s (bsC (K 1) (K 2) z e) from rfl, show ((e + 1 : Nat) : Int) = (e : Int) + 1 by omega] at ih'
      have hb := bsC_in (e := (e : Int)) h2 z0 z1
      rw [w289_39]
      simp (disch := (first | assumption | omega | exact Nat.le_of_ble_eq_true rfl | rfl)) only [w289_41, w289_42, w289_45, w289_46, w289_48, w289_50, Ko_n, Ko_v, vX_i, vX_r, vX_l, vX_j, reduceIte, show ¬ (4 : Int) ≤ (e : Int) by omega]
      rw [c219 (kG G) h2 z0 z1 (by omega) (by omega)]
      by_cases e1 : bsC (K 1) (K 2) z e = -1
      · rw [if_pos e1, Nat.add_zero] at ih'
        simp (disch := (first | assumption | omega | exact Nat.le_of_ble_eq_true rfl | rfl)) only [w289_53, w289_55, w289_57, w289_58, w289_61, w289_62, w289_65, w289_67, w289_68, w289_69, w289_72, w289_74, w289_75, w289_78, w289_80, w289_81, w289_82, w289_85, w289_87, w289_88, w289_89, w289_90, w289_92, w289_93, w289_94, w289_95, w289_97, w289_100, Ko_n, Ko_v, vX_i, vX_r, vX_l, vX_j, reduceIte, e1]
        exact ih' _
      · have b0 : 0 ≤ bsC (K 1) (K 2) z e ∧ bsC (K 1) (K 2) z e < K 1 * K 2 := by omega
        rw [if_neg e1] at ih'
        generalize bsC (K 1) (K 2) z e = b at hb e1 b0 ih' ⊢
        have pb := pG G b b0.1 b0.2
        have cb := hc b b0.1 b0.2
        by_cases e2 : 1 ≤ prK K w b ∧ prK K w b ≤ s
        · rw [show rp (prK K w b) = prK K w b by unfold rp; rw [if_neg (by omega)]] at pb
          rw [show gmF K w y s b = gmK K w y (s - (prK K w b).toNat) b by unfold gmF; rw [if_pos e2]] at ih'
          have g := hG (s - (prK K w b).toNat) (by omega) b b0.1 b0.2
          rw [show ((s - (prK K w b).toNat : Nat) : Int) = (s : Int) - prK K w b by omega] at g
          simp (disch := (first | assumption | omega | exact Nat.le_of_ble_eq_true rfl | rfl)) only [w289_53, w289_55, w289_57, w289_58, w289_61, w289_62, w289_65, w289_67, w289_68, w289_69, w289_72, w289_74, w289_75, w289_78, w289_80, w289_81, w289_82, w289_85, w289_87, w289_88, w289_89, w289_90, w289_92, w289_93, w289_94, w289_95, w289_97, w289_100, Ko_n, Ko_v, vX_i, vX_r, vX_l, vX_j, reduceIte, e1, pb, show ¬ (s : Int) < prK K w b by omega, upA_s, g, i64_add]
          rw [show ((V + sr4 (K 1) (K 2) (gmF K w y s) z e : Nat) : Int) + (gmK K w y (s - (prK K w b).toNat) b : Nat) = ((V + (sr4 (K 1) (K 2) (gmF K w y s) z e + gmK K w y (s - (prK K w b).toNat) b) : Nat) : Int) by omega]
          exact ih' _
        · rw [show gmF K w y s b = 0 by unfold gmF; rw [if_neg e2], Nat.add_zero] at ih'
          have pv : (s : Int) < (upA σ 1236 382 G) 1219 382 b ∧ (upA σ 1236 382 G) 1219 382 b ≤ 536870912 := by
            rw [pb]
            unfold rp
            by_cases e3 : prK K w b = -1
            · rw [if_pos e3]; omega
            · rw [if_neg e3]; omega
          simp (disch := (first | assumption | omega | exact Nat.le_of_ble_eq_true rfl | rfl)) only [w289_53, w289_55, w289_57, w289_58, w289_61, w289_62, w289_65, w289_67, w289_68, w289_69, w289_72, w289_74, w289_75, w289_78, w289_80, w289_81, w289_82, w289_85, w289_87, w289_88, w289_89, w289_90, w289_92, w289_93, w289_94, w289_95, w289_97, w289_100, Ko_n, Ko_v, vX_i, vX_r, vX_l, vX_j, reduceIte, e1, pv.1]
          exact ih' _
  have cells : ∀ (q n s : Nat) (G : Int → Int) (l5 l6 l7 l8 : Value), (n : Int) + q = K 1 * K 2 → s ≤ t → (∀ s' : Nat, s' < s → ∀ b : Int, 0 ≤ b → b < K 1 * K 2 → i64 (G (36 * s' + b)) = i64 (gmK K w y s' b : Nat)) → (∀ b : Int, 0 ≤ b → b < n → i64 (G (36 * s + b)) = i64 (gmK K w y s b : Nat)) → (∀ G' l4 l5 l6 l7 l8, (∀ s' : Nat, s' < s + 1 → ∀ b : Int, 0 ≤ b → b < K 1 * K 2 → i64 (G' (36 * s' + b)) = i64 (gmK K w y s' b : Nat)) → Wp (d + 2) M_X12_laysGo 123 [.ref 382, .int (i32 y), .int (i32 t), .int (i32 s), l4, l5, l6, l7, l8] [] (E T (upA σ 1236 382 G')) Q) → Wp (d + 2) M_X12_laysGo 10 [.ref 382, .int (i32 y), .int (i32 t), .int (i32 s), .int (i32 n), l5, l6, l7, l8] [] (E T (upA σ 1236 382 G)) Q := by
    intro q
    induction q with
    | zero =>
      intro n s G l5 l6 l7 l8 hn hs hG hR hk
      have hn' : (n : Int) = K 1 * K 2 := by omega
      rw [w289_10]
      simp (disch := (first | assumption | omega | exact Nat.le_of_ble_eq_true rfl | rfl)) only [w289_12, w289_13, Ko_n, Ko_v, vX_i, vX_r, vX_l, vX_j, reduceIte]
      rw [c210 (kG G)]
      simp (disch := (first | assumption | omega | exact Nat.le_of_ble_eq_true rfl | rfl)) only [w289_16, w289_19, w289_20, Ko_n, Ko_v, vX_i, vX_r, vX_l, vX_j, reduceIte, hn', Int.le_refl]
      refine hk G _ _ _ _ _ (fun s' hs' b b0 b1 => ?_)
      by_cases es : s' = s
      · rw [es]; exact hR b b0 (by omega)
      · exact hG s' (by omega) b b0 b1
    | succ q ih =>
      intro n s G l5 l6 l7 l8 hn hs hG hR hk
      have put : ∀ (V : Nat) (l7 l8 : Value), (gmK K w y s n = V) → Wp (d + 2) M_X12_laysGo 103 [.ref 382, .int (i32 y), .int (i32 t), .int (i32 s), .int (i32 n), .long (i64 (V : Nat)), vmJ, l7, l8] [] (E T (upA σ 1236 382 G)) Q := by
        intro V l7 l8 hV
        have i3 := ih (n + 1) s (fu G (36 * s + n) (i64 (V : Nat)).toInt) (.long (i64 (V : Nat))) vmJ l7 l8 (by omega) hs (fun s' hs' b b0 b1 => by rw [fu_n (by omega)]; exact hG s' hs' b b0 b1) (fun b b0 b1 => by
          by_cases ey : b = n
          · rw [ey, fu_s, i64_toInt, hV]
          · rw [fu_n (by omega)]; exact hR b b0 (by omega)) hk
        rw [show ((n + 1 : Nat) : Int) = (n : Int) + 1 by omega] at i3
        simp (disch := (first | assumption | omega | exact Nat.le_of_ble_eq_true rfl | rfl)) only [w289_103, w289_104, w289_107, w289_109, w289_110, w289_111, w289_113, w289_114, w289_116, w289_117, w289_120, Ko_n, Ko_v, vX_i, vX_r, vX_l, vX_j, reduceIte, upA_s, upA_upA]
        exact i3
      have main : ∀ (V : Nat), (s = 0 → V = if (n : Int) = y then 1 else 0) → (s ≠ 0 → V = 0) → ∀ l8, Wp (d + 2) M_X12_laysGo 39 [.ref 382, .int (i32 y), .int (i32 t), .int (i32 s), .int (i32 n), .long (i64 (V : Nat)), vmJ, .int (i32 ((0 : Nat) : Int)), l8] [] (E T (upA σ 1236 382 G)) Q := by
        intro V hV0 hV1 l8
        have i2 := inner 4 0 s n G V l8 (by omega) hs (by omega) (by omega) hG
        rw [show sr4 (K 1) (K 2) (gmF K w y s) n 0 = 0 from rfl, Nat.add_zero] at i2
        refine i2 (fun l8 => put _ _ _ ?_)
        rw [sr4_4]
        by_cases e3 : s = 0
        · rw [hV0 e3, e3, gmF_0, Nat.add_zero]; rfl
        · obtain ⟨s', rfl⟩ : ∃ s', s = s' + 1 := ⟨s - 1, by omega⟩
          rw [hV1 e3, Nat.zero_add]
          unfold gmK
          rw [gm_s]
          rfl
      rw [w289_10]
      simp (disch := (first | assumption | omega | exact Nat.le_of_ble_eq_true rfl | rfl)) only [w289_12, w289_13, Ko_n, Ko_v, vX_i, vX_r, vX_l, vX_j, reduceIte]
      rw [c210 (kG G)]
      by_cases e3 : s = 0
      · have e3' : (s : Int) = 0 := by omega
        by_cases e4 : (n : Int) = y
        · have m := main 1 (fun _ => by rw [if_pos e4]) (fun e => absurd e3 e)
          rw [e4, e3'] at m
          simp (disch := (first | assumption | omega | exact Nat.le_of_ble_eq_true rfl | rfl)) only [w289_16, w289_19, w289_20, w289_23, w289_25, w289_26, w289_29, w289_30, w289_33, w289_34, w289_36, w289_37, Ko_n, Ko_v, vX_i, vX_r, vX_l, vX_j, reduceIte, show ¬ K 1 * K 2 ≤ (n : Int) by omega, e3', not_true, e4, show ¬ K 1 * K 2 ≤ y by omega]
          exact m _
        · have m := main 0 (fun _ => by rw [if_neg e4]) (fun e => absurd e3 e)
          rw [e3'] at m
          simp (disch := (first | assumption | omega | exact Nat.le_of_ble_eq_true rfl | rfl)) only [w289_16, w289_19, w289_20, w289_23, w289_25, w289_26, w289_29, w289_30, w289_33, w289_34, w289_36, w289_37, Ko_n, Ko_v, vX_i, vX_r, vX_l, vX_j, reduceIte, show ¬ K 1 * K 2 ≤ (n : Int) by omega, e3', not_true, e4, not_false_eq_true]
          exact m _
      · have m := main 0 (fun e => absurd e e3) (fun _ => rfl)
        simp (disch := (first | assumption | omega | exact Nat.le_of_ble_eq_true rfl | rfl)) only [w289_16, w289_19, w289_20, w289_23, w289_25, w289_26, w289_29, w289_30, w289_33, w289_34, w289_36, w289_37, Ko_n, Ko_v, vX_i, vX_r, vX_l, vX_j, reduceIte, show ¬ K 1 * K 2 ≤ (n : Int) by omega, show ¬ (s : Int) = 0 by omega, not_false_eq_true]
        exact m _
  have rows : ∀ (q s : Nat) (G : Int → Int) (l4 l5 l6 l7 l8 : Value), s + q = t + 1 → (∀ s' : Nat, s' < s → ∀ b : Int, 0 ≤ b → b < K 1 * K 2 → i64 (G (36 * s' + b)) = i64 (gmK K w y s' b : Nat)) → Wp (d + 2) M_X12_laysGo 2 [.ref 382, .int (i32 y), .int (i32 t), .int (i32 s), l4, l5, l6, l7, l8] [] (E T (upA σ 1236 382 G)) Q := by
    intro q
    induction q with
    | zero =>
      intro s G l4 l5 l6 l7 l8 hs hG
      rw [w289_2]
      simp (disch := (first | assumption | omega | exact Nat.le_of_ble_eq_true rfl | rfl)) only [w289_3, w289_4, w289_7, w289_8, Ko_n, Ko_v, vX_i, vX_r, vX_l, vX_j, reduceIte, show (t : Int) < (s : Int) by omega]
      simp (disch := (first | assumption | omega | exact Nat.le_of_ble_eq_true rfl | rfl)) only [w289_129, Ko_n, Ko_v, vX_i, vX_r, vX_l, vX_j, reduceIte]
      exact hQ _ (fun s' hs' z z0 z1 => by rw [upA_s]; exact hG s' (by omega) z z0 z1)
    | succ q ih =>
      intro s G l4 l5 l6 l7 l8 hs hG
      rw [w289_2]
      simp (disch := (first | assumption | omega | exact Nat.le_of_ble_eq_true rfl | rfl)) only [w289_3, w289_4, w289_7, w289_8, Ko_n, Ko_v, vX_i, vX_r, vX_l, vX_j, reduceIte, show ¬ (t : Int) < (s : Int) by omega]
      refine cells (K 1 * K 2).toNat 0 s G _ _ _ _ (by omega) (by omega) hG (fun b b0 b1 => by omega) fun G' l4 l5 l6 l7 l8 hG' => ?_
      simp (disch := (first | assumption | omega | exact Nat.le_of_ble_eq_true rfl | rfl)) only [w289_123, w289_126, Ko_n, Ko_v, vX_i, vX_r, vX_l, vX_j, reduceIte]
      exact ih (s + 1) G' l4 l5 l6 l7 l8 (by omega) hG'
  have r0 := rows (t + 1) 0 (σ 1236 382) vmJ vmJ vmJ vmJ vmJ (by omega) (fun s' hs' => by omega)
  rw [upA_self] at r0
  simp (disch := (first | assumption | omega | exact Nat.le_of_ble_eq_true rfl | rfl)) only [w289_0, w289_1, Ko_n, Ko_v, vX_i, vX_r, vX_l, vX_j, reduceIte]
  exact r0
