/-! ===== the reference: laysCome, laysGo ===== -/
def cmK (K : Int → Int) (w av : Int) : Nat → Int → Nat := cm (K 1) (K 2) (prK K w) (K (79 + w)) av
def gmK (K : Int → Int) (w z : Int) : Nat → Int → Nat := gm (K 1) (K 2) (prK K w) z
def cmT (σ : St) (K : Int → Int) (w av : Int) (t : Nat) : Prop := ∀ s : Nat, s ≤ t → ∀ z, 0 ≤ z → z < K 1 * K 2 → i64 (σ 1235 382 (36 * s + z)) = i64 (cmK K w av s z : Nat)
def gmT (σ : St) (K : Int → Int) (w y : Int) (t : Nat) : Prop := ∀ s : Nat, s ≤ t → ∀ z, 0 ≤ z → z < K 1 * K 2 → i64 (σ 1236 382 (36 * s + z)) = i64 (gmK K w y s z : Nat)
def fr88 (σ τ : St) : Prop := ∀ t o, t ≠ 1219 → t ≠ 1235 → τ t o = σ t o
theorem c288 {d t : Nat} {k w av B : Int} {K : Int → Int} {T : Tt} {σ : St} {Q : vmO → vmH → Prop} (hK : σ 1200 382 = K) (hv : kV K B) (hB : B < 900000000) (w0 : 0 ≤ w) (w1 : w < K 3) (ht : t ≤ 30) (v0 : -1 ≤ av) (v1 : av < 36)
    (hQ : ∀ τ, fr88 σ τ → prW τ K w → cmT τ K w av t → Q (.inl none) (E T τ)) : Ca (d + 5) k 288 [.ref 382, .int (i32 w), .int (i32 t), .int (i32 av)] (E T σ) Q := by
  have h0 := ob_md
  obtain ⟨h2, h5, h6, h7⟩ := kV_w hv w0 w1
  have hm := wh_mul h2
  have hc := prK_cs (w := w) hv.1 hv.2.1
  have hhi : hiR = 536870912 := rfl
  rw [n288 _ _ _ _ _ _ _ _ _ h0]
  simp (disch := (first | assumption | omega | exact Nat.le_of_ble_eq_true rfl | rfl)) only [w288_0, w288_1, w288_2, Ko_n, Ko_v, vX_i, vX_r, vX_l, vX_j, reduceIte]
  rw [c231 hK hv hB (by omega) (by omega)]
  have hP : prW (upA σ 1219 382 (cp (prR K w) (σ 1219 382) (K 1 * K 2))) K w := fun z z0 z1 => by
    rw [upA_s]
    unfold cp
    rw [if_pos ⟨z0, z1⟩]
    exact prR_rp hv.2.1 (by omega) z0 (by omega)
  have kP : (upA σ 1219 382 (cp (prR K w) (σ 1219 382) (K 1 * K 2))) 1200 382 = K := by rw [upA_t (by omega)]; exact hK
  have fP : ∀ G, fr88 σ (upA (upA σ 1219 382 (cp (prR K w) (σ 1219 382) (K 1 * K 2))) 1235 382 G) := fun G t o a b => by rw [upA_t (by omega), upA_t (by omega)]
  generalize upA σ 1219 382 (cp (prR K w) (σ 1219 382) (K 1 * K 2)) = ρ at hP kP fP ⊢
  have kG : ∀ G, (upA ρ 1235 382 G) 1200 382 = K := fun G => by rw [upA_t (by omega)]; exact kP
  have pG : ∀ G, prW (upA ρ 1235 382 G) K w := fun G z z0 z1 => by rw [upA_t (by omega)]; exact hP z z0 z1
  -- the sides of a cell
  have inner : ∀ (q e s : Nat) (z : Int) (G : Int → Int) (V : Nat), e + q = 4 → s ≤ t → 0 ≤ z → z < K 1 * K 2 → 1 ≤ prK K w z → prK K w z ≤ s → (∀ s' : Nat, s' < s → ∀ y, 0 ≤ y → y < K 1 * K 2 → i64 (G (36 * s' + y)) = i64 (cmK K w av s' y : Nat)) → (Wp (d + 5) M_X12_laysCome 123 [.ref 382, .int (i32 w), .int (i32 t), .int (i32 av), .int (i32 s), .int (i32 z), .long (i64 (V + sr4 (K 1) (K 2) (cmK K w av (s - (prK K w z).toNat)) z 4 : Nat)), vmJ, .int (i32 4)] [] (E T (upA ρ 1235 382 G)) Q) → Wp (d + 5) M_X12_laysCome 55 [.ref 382, .int (i32 w), .int (i32 t), .int (i32 av), .int (i32 s), .int (i32 z), .long (i64 (V + sr4 (K 1) (K 2) (cmK K w av (s - (prK K w z).toNat)) z e : Nat)), vmJ, .int (i32 e)] [] (E T (upA ρ 1235 382 G)) Q := by
    intro q
    induction q with
    | zero =>
      intro e s z G V he hs z0 z1 c0 c1 hG hk
      have he : e = 4 := by omega
      subst he
      rw [w288_55]
      simp (disch := (first | assumption | omega | exact Nat.le_of_ble_eq_true rfl | rfl)) only [w288_57, w288_58, w288_61, w288_62, w288_65, w288_67, w288_68, w288_70, w288_73, w288_74, w288_76, w288_78, w288_81, w288_82, w288_85, w288_87, w288_88, w288_91, w288_93, w288_95, w288_96, w288_99, w288_101, w288_102, w288_103, w288_104, w288_105, w288_107, w288_109, w288_112, w288_113, w288_114, w288_115, w288_117, w288_120, Ko_n, Ko_v, vX_i, vX_r, vX_l, vX_j, reduceIte, show (4 : Int) ≤ ((4 : Nat) : Int) by omega]
      exact hk
    | succ q ih =>
      intro e s z G V he hs z0 z1 c0 c1 hG hk
      have ih' := ih (e + 1) s z G V (by omega) hs z0 z1 c0 c1 hG hk
      rw [show sr4 (K 1) (K 2) (cmK K w av (s - (prK K w z).toNat)) z (e + 1) = sr4 (K 1) (K 2) (cmK K w av (s - (prK K w z).toNat)) z e + if bsC (K 1) (K 2) z e = -1 then 0 else cmK K w av (s - (prK K w z).toNat) (bsC (K 1) (K 2) z e) from rfl, show ((e + 1 : Nat) : Int) = (e : Int) + 1 by omega] at ih'
      have pz := pG G z z0 z1
      rw [show rp (prK K w z) = prK K w z by unfold rp; rw [if_neg (by omega)]] at pz
      have hb := bsC_in (e := (e : Int)) h2 z0 z1
      rw [w288_55]
      simp (disch := (first | assumption | omega | exact Nat.le_of_ble_eq_true rfl | rfl)) only [w288_57, w288_58, w288_61, w288_62, w288_65, w288_67, w288_68, w288_70, w288_73, w288_74, w288_76, w288_78, Ko_n, Ko_v, vX_i, vX_r, vX_l, vX_j, reduceIte, show ¬ (4 : Int) ≤ (e : Int) by omega, pz, show ¬ (s : Int) < prK K w z by omega]
      rw [c219 (kG G) h2 z0 z1 (by omega) (by omega)]
      by_cases e1 : bsC (K 1) (K 2) z e = -1
      · rw [if_pos e1, Nat.add_zero] at ih'
        simp (disch := (first | assumption | omega | exact Nat.le_of_ble_eq_true rfl | rfl)) only [w288_81, w288_82, w288_85, w288_87, w288_88, w288_91, w288_93, w288_95, w288_96, w288_99, w288_101, w288_102, w288_103, w288_104, w288_105, w288_107, w288_109, w288_112, w288_113, w288_114, w288_115, w288_117, w288_120, Ko_n, Ko_v, vX_i, vX_r, vX_l, vX_j, reduceIte, e1]
        exact ih'
      · have b0 : 0 ≤ bsC (K 1) (K 2) z e ∧ bsC (K 1) (K 2) z e < K 1 * K 2 := by omega
        rw [if_neg e1] at ih'
        have g := hG (s - (prK K w z).toNat) (by omega) _ b0.1 b0.2
        rw [show ((s - (prK K w z).toNat : Nat) : Int) = (s : Int) - prK K w z by omega] at g
        simp (disch := (first | assumption | omega | exact Nat.le_of_ble_eq_true rfl | rfl)) only [w288_81, w288_82, w288_85, w288_87, w288_88, w288_91, w288_93, w288_95, w288_96, w288_99, w288_101, w288_102, w288_103, w288_104, w288_105, w288_107, w288_109, Ko_n, Ko_v, vX_i, vX_r, vX_l, vX_j, reduceIte, e1, pz]
        rw [c219 (kG G) h2 z0 z1 (by omega) (by omega)]
        simp (disch := (first | assumption | omega | exact Nat.le_of_ble_eq_true rfl | rfl)) only [w288_112, w288_113, w288_114, w288_115, w288_117, w288_120, Ko_n, Ko_v, vX_i, vX_r, vX_l, vX_j, reduceIte, upA_s, g, i64_add]
        rw [show ((V + sr4 (K 1) (K 2) (cmK K w av (s - (prK K w z).toNat)) z e : Nat) : Int) + (cmK K w av (s - (prK K w z).toNat) (bsC (K 1) (K 2) z e) : Nat) = ((V + (sr4 (K 1) (K 2) (cmK K w av (s - (prK K w z).toNat)) z e + cmK K w av (s - (prK K w z).toNat) (bsC (K 1) (K 2) z e)) : Nat) : Int) by omega]
        exact ih'
  -- the cells
  have cells : ∀ (q n s : Nat) (G : Int → Int) (l6 l7 l8 : Value), (n : Int) + q = K 1 * K 2 → s ≤ t → (∀ s' : Nat, s' < s → ∀ y, 0 ≤ y → y < K 1 * K 2 → i64 (G (36 * s' + y)) = i64 (cmK K w av s' y : Nat)) → (∀ y : Int, 0 ≤ y → y < n → i64 (G (36 * s + y)) = i64 (cmK K w av s y : Nat)) → (∀ G' l5 l6 l7 l8, (∀ s' : Nat, s' < s + 1 → ∀ y, 0 ≤ y → y < K 1 * K 2 → i64 (G' (36 * s' + y)) = i64 (cmK K w av s' y : Nat)) → Wp (d + 5) M_X12_laysCome 154 [.ref 382, .int (i32 w), .int (i32 t), .int (i32 av), .int (i32 s), l5, l6, l7, l8] [] (E T (upA ρ 1235 382 G')) Q) → Wp (d + 5) M_X12_laysCome 17 [.ref 382, .int (i32 w), .int (i32 t), .int (i32 av), .int (i32 s), .int (i32 n), l6, l7, l8] [] (E T (upA ρ 1235 382 G)) Q := by
    intro q
    induction q with
    | zero =>
      intro n s G l6 l7 l8 hn hs hG hR hk
      have hn' : (n : Int) = K 1 * K 2 := by omega
      rw [w288_17]
      simp (disch := (first | assumption | omega | exact Nat.le_of_ble_eq_true rfl | rfl)) only [w288_19, w288_20, Ko_n, Ko_v, vX_i, vX_r, vX_l, vX_j, reduceIte]
      rw [c210 (kG G)]
      simp (disch := (first | assumption | omega | exact Nat.le_of_ble_eq_true rfl | rfl)) only [w288_23, w288_26, w288_28, Ko_n, Ko_v, vX_i, vX_r, vX_l, vX_j, reduceIte, hn', Int.le_refl]
      refine hk G _ _ _ _ (fun s' hs' y y0 y1 => ?_)
      by_cases es : s' = s
      · rw [es]; exact hR y y0 (by omega)
      · exact hG s' (by omega) y y0 y1
    | succ q ih =>
      intro n s G l6 l7 l8 hn hs hG hR hk
      have hcn := hc n (by omega) (by omega)
      have pn := pG G n (by omega) (by omega)
      have put : ∀ (V : Nat) (l8 : Value), (cmK K w av s n = if (n : Int) = av then 0 else V) → Wp (d + 5) M_X12_laysCome 123 [.ref 382, .int (i32 w), .int (i32 t), .int (i32 av), .int (i32 s), .int (i32 n), .long (i64 (V : Nat)), vmJ, l8] [] (E T (upA ρ 1235 382 G)) Q := by
        intro V l8 hV
        have i2 : ∀ v : Int64, v = i64 (cmK K w av s n : Nat) → Wp (d + 5) M_X12_laysCome 17 [.ref 382, .int (i32 w), .int (i32 t), .int (i32 av), .int (i32 s), .int (i32 ((n : Int) + 1)), .long (i64 (V : Nat)), vmJ, l8] [] (E T (upA ρ 1235 382 (fu G (36 * s + n) v.toInt))) Q := by
          intro v hv'
          have i3 := ih (n + 1) s (fu G (36 * s + n) v.toInt) (.long (i64 (V : Nat))) vmJ l8 (by omega) hs (fun s' hs' y y0 y1 => by rw [fu_n (by omega)]; exact hG s' hs' y y0 y1) (fun y y0 y1 => by
            by_cases ey : y = n
            · rw [ey, fu_s, i64_toInt]; exact hv'
            · rw [fu_n (by omega)]; exact hR y y0 (by omega)) hk
          rw [show ((n + 1 : Nat) : Int) = (n : Int) + 1 by omega] at i3
          exact i3
        by_cases ea : (n : Int) = av
        · rw [if_pos ea] at hV
          have i3 := i2 (i64 0) (by rw [hV]; rfl)
          rw [ea] at i3
          simp (disch := (first | assumption | omega | exact Nat.le_of_ble_eq_true rfl | rfl)) only [w288_123, w288_124, w288_127, w288_129, w288_131, w288_132, w288_134, w288_135, w288_137, w288_138, w288_141, w288_142, w288_145, w288_147, w288_148, w288_151, Ko_n, Ko_v, vX_i, vX_r, vX_l, vX_j, reduceIte, ea, not_true, upA_s, upA_upA, show 0 ≤ av by omega]
          exact i3
        · rw [if_neg ea] at hV
          have i3 := i2 (i64 (V : Nat)) (by rw [hV])
          simp (disch := (first | assumption | omega | exact Nat.le_of_ble_eq_true rfl | rfl)) only [w288_123, w288_124, w288_127, w288_129, w288_131, w288_132, w288_134, w288_135, w288_137, w288_138, w288_141, w288_142, w288_145, w288_147, w288_148, w288_151, Ko_n, Ko_v, vX_i, vX_r, vX_l, vX_j, reduceIte, ea, not_false_eq_true, upA_s, upA_upA]
          exact i3
      have main : ∀ (V : Nat), (s = 0 → V = if (n : Int) = K (79 + w) then 1 else 0) → (s ≠ 0 → V = 0) → Wp (d + 5) M_X12_laysCome 55 [.ref 382, .int (i32 w), .int (i32 t), .int (i32 av), .int (i32 s), .int (i32 n), .long (i64 (V : Nat)), vmJ, .int (i32 ((0 : Nat) : Int))] [] (E T (upA ρ 1235 382 G)) Q := by
        intro V hV0 hV1
        by_cases e1 : 1 ≤ prK K w n ∧ prK K w n ≤ s
        · have i2 := inner 4 0 s n G V (by omega) hs (by omega) (by omega) e1.1 e1.2 hG
          rw [show sr4 (K 1) (K 2) (cmK K w av (s - (prK K w n).toNat)) n 0 = 0 from rfl, Nat.add_zero] at i2
          refine i2 (put _ _ ?_)
          rw [hV1 (by omega), Nat.zero_add, sr4_4]
          obtain ⟨s', rfl⟩ : ∃ s', s = s' + 1 := ⟨s - 1, by omega⟩
          unfold cmK
          rw [cm_s, if_pos (show 1 ≤ prK K w n ∧ prK K w n ≤ (s' : Int) + 1 by omega)]
        · have pv : (s : Int) < (upA ρ 1235 382 G) 1219 382 n ∧ (upA ρ 1235 382 G) 1219 382 n ≤ 536870912 := by
            rw [pn]
            unfold rp
            by_cases e2 : prK K w n = -1
            · rw [if_pos e2]; omega
            · rw [if_neg e2]; omega
          have p3 := put V (.int (i32 ((0 : Nat) : Int))) (by
            unfold cmK
            by_cases e3 : s = 0
            · rw [hV0 e3, e3, cm_0]
            · obtain ⟨s', rfl⟩ : ∃ s', s = s' + 1 := ⟨s - 1, by omega⟩
              rw [hV1 e3, cm_s, if_neg (show ¬ (1 ≤ prK K w n ∧ prK K w n ≤ (s' : Int) + 1) by omega)])
          rw [w288_55]
          simp (disch := (first | assumption | omega | exact Nat.le_of_ble_eq_true rfl | rfl)) only [w288_57, w288_58, w288_61, w288_62, w288_65, w288_67, w288_68, w288_70, w288_73, w288_74, w288_76, w288_78, w288_81, w288_82, w288_85, w288_87, w288_88, w288_91, w288_93, w288_95, w288_96, w288_99, w288_101, w288_102, w288_103, w288_104, w288_105, w288_107, w288_109, w288_112, w288_113, w288_114, w288_115, w288_117, w288_120, Ko_n, Ko_v, vX_i, vX_r, vX_l, vX_j, reduceIte, show ¬ (4 : Int) ≤ ((0 : Nat) : Int) by omega, pv.1]
          exact p3
      rw [w288_17]
      simp (disch := (first | assumption | omega | exact Nat.le_of_ble_eq_true rfl | rfl)) only [w288_19, w288_20, Ko_n, Ko_v, vX_i, vX_r, vX_l, vX_j, reduceIte]
      rw [c210 (kG G)]
      by_cases e3 : s = 0
      · have e3' : (s : Int) = 0 := by omega
        by_cases e4 : (n : Int) = K (79 + w)
        · have m := main 1 (fun _ => by rw [if_pos e4]) (fun e => absurd e3 e)
          rw [e4] at m
          simp (disch := (first | assumption | omega | exact Nat.le_of_ble_eq_true rfl | rfl)) only [w288_23, w288_26, w288_28, w288_31, w288_33, w288_34, w288_37, w288_39, w288_40, w288_41, w288_42, w288_45, w288_46, w288_49, w288_50, w288_52, w288_53, Ko_n, Ko_v, vX_i, vX_r, vX_l, vX_j, reduceIte, show ¬ K 1 * K 2 ≤ (n : Int) by omega, e3', not_true, upA_t, kP, e4, show ¬ K 1 * K 2 ≤ K (79 + w) by omega]
          rw [e3'] at m
          exact m
        · have m := main 0 (fun _ => by rw [if_neg e4]) (fun e => absurd e3 e)
          simp (disch := (first | assumption | omega | exact Nat.le_of_ble_eq_true rfl | rfl)) only [w288_23, w288_26, w288_28, w288_31, w288_33, w288_34, w288_37, w288_39, w288_40, w288_41, w288_42, w288_45, w288_46, w288_49, w288_50, w288_52, w288_53, Ko_n, Ko_v, vX_i, vX_r, vX_l, vX_j, reduceIte, show ¬ K 1 * K 2 ≤ (n : Int) by omega, e3', not_true, upA_t, kP, e4, not_false_eq_true]
          rw [e3'] at m
          exact m
      · have m := main 0 (fun e => absurd e e3) (fun _ => rfl)
        simp (disch := (first | assumption | omega | exact Nat.le_of_ble_eq_true rfl | rfl)) only [w288_23, w288_26, w288_28, w288_31, w288_33, w288_34, w288_37, w288_39, w288_40, w288_41, w288_42, w288_45, w288_46, w288_49, w288_50, w288_52, w288_53, Ko_n, Ko_v, vX_i, vX_r, vX_l, vX_j, reduceIte, show ¬ K 1 * K 2 ≤ (n : Int) by omega, show ¬ (s : Int) = 0 by omega, not_false_eq_true]
        exact m
  have rows : ∀ (q s : Nat) (G : Int → Int) (l5 l6 l7 l8 : Value), s + q = t + 1 → (∀ s' : Nat, s' < s → ∀ y, 0 ≤ y → y < K 1 * K 2 → i64 (G (36 * s' + y)) = i64 (cmK K w av s' y : Nat)) → Wp (d + 5) M_X12_laysCome 8 [.ref 382, .int (i32 w), .int (i32 t), .int (i32 av), .int (i32 s), l5, l6, l7, l8] [] (E T (upA ρ 1235 382 G)) Q := by
    intro q
    induction q with
    | zero =>
      intro s G l5 l6 l7 l8 hs hG
      rw [w288_8]
      simp (disch := (first | assumption | omega | exact Nat.le_of_ble_eq_true rfl | rfl)) only [w288_10, w288_11, w288_14, w288_15, Ko_n, Ko_v, vX_i, vX_r, vX_l, vX_j, reduceIte, show (t : Int) < (s : Int) by omega]
      simp (disch := (first | assumption | omega | exact Nat.le_of_ble_eq_true rfl | rfl)) only [w288_160, Ko_n, Ko_v, vX_i, vX_r, vX_l, vX_j, reduceIte]
      exact hQ _ (fP G) (pG G) (fun s' hs' z z0 z1 => by rw [upA_s]; exact hG s' (by omega) z z0 z1)
    | succ q ih =>
      intro s G l5 l6 l7 l8 hs hG
      rw [w288_8]
      simp (disch := (first | assumption | omega | exact Nat.le_of_ble_eq_true rfl | rfl)) only [w288_10, w288_11, w288_14, w288_15, Ko_n, Ko_v, vX_i, vX_r, vX_l, vX_j, reduceIte, show ¬ (t : Int) < (s : Int) by omega]
      refine cells (K 1 * K 2).toNat 0 s G _ _ _ (by omega) (by omega) hG (fun y y0 y1 => by omega) fun G' l5 l6 l7 l8 hG' => ?_
      simp (disch := (first | assumption | omega | exact Nat.le_of_ble_eq_true rfl | rfl)) only [w288_154, w288_157, Ko_n, Ko_v, vX_i, vX_r, vX_l, vX_j, reduceIte]
      exact ih (s + 1) G' l5 l6 l7 l8 (by omega) hG'
  have r0 := rows (t + 1) 0 (ρ 1235 382) vmJ vmJ vmJ vmJ (by omega) (fun s' hs' => by omega)
  rw [upA_self] at r0
  simp (disch := (first | assumption | omega | exact Nat.le_of_ble_eq_true rfl | rfl)) only [w288_5, w288_6, Ko_n, Ko_v, vX_i, vX_r, vX_l, vX_j, reduceIte]
  exact r0
